set_option maxHeartbeats 4000000 in
set_option maxRecDepth 100000 in
theorem c_X5_reading (l : Launch) (g : Gx) (y : Nat) (ya : Nat) (yb : Nat) (yc : Nat) (yd : Nat) (ye : Nat) (yf : Nat) (yg : Nat) (yh : Nat) (yi : Nat) (yj : Nat) (yk : Nat) (yl : Nat) (ft : Nat) (tr : Int32) (lane : Nat → Nat) (ml : Nat → Nat) (cel : Nat → Nat → Int32) (np : Nat) (sl : Nat) (kd : Nat → Nat) (hg : Nat → Nat) (ps : Nat) (rs : Int32) (rn : Nat) (rk : Nat → Int32) (rh : Nat → Int32) (lg : Int32) (fk : Int32) (gt : Int32) (tkn : Nat → Int32) (nr : Nat) (ru : Nat → Nat) (rl : Nat → Nat) (rm : Nat → Nat) (rd : Nat → Nat) (p : Int32) (q : Int32) (m : Int32) (dd : Nat) (hG : Gd np sl kd hg nr ru rl rm rd lane ml) (hd1 : dd ≤ 1) : Met l yX5_reading wsX5_reading ({ frames := 2, cells := 0, slots := 0, locals := 42 } : Room) (PcM g [.ref y, .int p, .int q, .int m, .int (nI dd)] (wM g y ya yb yc yd ye yf yg yh yi yj yk yl ft tr lane ml cel np sl kd hg ps rs rn rk rh lg fk gt tkn nr ru rl rm rd)) (va_Qi (fun (r : Int32) (uu : Unit) => r = sp_reading np nr p q m) (fun (uu : Unit) t => PP g (wM g y ya yb yc yd ye yf yg yh yi yj yk yl ft tr lane ml cel np sl kd hg ps rs rn rk rh lg fk gt tkn (st_nr np nr p q m) (st_r np nr p q m ru (tN p)) (st_r np nr p q m rl (tN q)) (st_r np nr p q m rm (tN m)) (st_r np nr p q m rd dd)) t.heap) (inW (wM g y ya yb yc yd ye yf yg yh yi yj yk yl ft tr lane ml cel np sl kd hg ps rs rn rk rh lg fk gt tkn nr ru rl rm rd))) 0 0 (inW (wM g y ya yb yc yd ye yf yg yh yi yj yk yl ft tr lane ml cel np sl kd hg ps rs rn rk rh lg fk gt tkn nr ru rl rm rd)) := by
  refine zenterM (cc := cX5_reading) (maxL := 5) (ret := (some .int)) (by decide) rfl (Nat.le_of_ble_eq_true rfl) ?_
  intro P E s mt below meth cd ls hx hb hml hown hts hr hlocks hP hK hD hS hl
  skip
  have hl : lv_has ls 5 [(0, .ref y), (1, .int p), (2, .int q), (3, .int m), (4, .int (nI dd))] := hl
  have S0 : CallFix P mt cd cX5_reading 5 s [.ref y, .int p, .int q, .int m, .int (nI dd)].toArray wsX5_reading RX5 := ⟨hx, hb, hml, hown, hts⟩
  obtain ⟨hnp, hsl, hkd, hhg, hnr, hru, hrl, hrm, hrd, hla, hmz⟩ := hG
  refine lv_aload_n hx hb dX5_reading_0 rfl (lv_at hl 0 rfl) ?_
  refine lv_iload_n hx hb dX5_reading_1 rfl (lv_at hl 1 rfl) ?_
  have hPc : PP g (wM g y ya yb yc yd ye yf yg yh yi yj yk yl ft tr lane ml cel np sl kd hg ps rs rn rk rh lg fk gt tkn nr ru rl rm rd) _ := hP
  refine zcallR (va_runV (As := [.int p]) (rest := []) (b := y) S0 (c_X5_isPass l g y ya yb yc yd ye yf yg yh yi yj yk yl ft tr lane ml cel np sl kd hg ps rs rn rk rh lg fk gt tkn nr ru rl rm rd p hnp) (cwV 1 hts gX5_reading_X5_isPass rfl rfl rfl (by decide +kernel) ⟨by decide, by decide⟩) (zpreV hK hPc (va_recv hK.1 hPc (ci := 5) (q0 := 0) rfl rfl)) rfl rfl hl.1 rfl (lv_room (Nat.le_of_ble_eq_true rfl)) dX5_reading_2 ⟨by decide, by decide⟩) (fun r2 h2 => ?_)
  rcases h2 with ⟨w_2, hw_2, hv_2, rfl⟩ | ⟨hn_2, rfl⟩
  · subst hv_2
    refine lv_if_eq (tgt := 16) hx hb dX5_reading_5 (by decide) (fun c5 => ?_) (fun c5 => ?_)
    · exact absurd c5 (by decide)
    refine lv_aload_n hx hb dX5_reading_8 rfl (lv_at hl 0 rfl) ?_
    refine lv_iload_n hx hb dX5_reading_9 rfl (lv_at hl 2 rfl) ?_
    have hPc : PP g (wM g y ya yb yc yd ye yf yg yh yi yj yk yl ft tr lane ml cel np sl kd hg ps rs rn rk rh lg fk gt tkn nr ru rl rm rd) _ := hP
    refine zcallR (va_runV (As := [.int q]) (rest := []) (b := y) S0 (c_X5_isPass l g y ya yb yc yd ye yf yg yh yi yj yk yl ft tr lane ml cel np sl kd hg ps rs rn rk rh lg fk gt tkn nr ru rl rm rd q hnp) (cwV 1 hts gX5_reading_X5_isPass rfl rfl rfl (by decide +kernel) ⟨by decide, by decide⟩) (zpreV hK hPc (va_recv hK.1 hPc (ci := 5) (q0 := 0) rfl rfl)) rfl rfl hl.1 rfl (lv_room (Nat.le_of_ble_eq_true rfl)) dX5_reading_10 ⟨by decide, by decide⟩) (fun r10 h10 => ?_)
    rcases h10 with ⟨w_10, hw_10, hv_10, rfl⟩ | ⟨hn_10, rfl⟩
    · subst hv_10
      refine lv_if_ne (tgt := 18) hx hb dX5_reading_13 (by decide) (fun c13 => ?_) (fun c13 => ?_)
      rotate_left
      · exact absurd c13 (by decide)
      refine lv_iload_n hx hb dX5_reading_18 rfl (lv_at hl 3 rfl) ?_
      refine zcallR (va_runS (As := [.int m]) (rest := []) S0 (c_X5_isDigit l g m) (va_cwS 1 hts gX5_reading_X5_isDigit rfl rfl rfl (by decide +kernel) ⟨by decide, by decide⟩) (zpreS hK (P_nil _)) rfl rfl hl.1 rfl (lv_room (Nat.le_of_ble_eq_true rfl)) dX5_reading_19 ⟨by decide, by decide⟩) (fun r19 h19 => ?_)
      rcases h19 with ⟨w_19, hw_19, hv_19, rfl⟩ | ⟨hn_19, rfl⟩
      · subst hv_19
        refine lv_if_ne (tgt := 28) hx hb dX5_reading_22 (by decide) (fun c22 => ?_) (fun c22 => ?_)
        rotate_left
        · exact absurd c22 (by decide)
        refine lv_aload_n hx hb dX5_reading_28 rfl (lv_at hl 0 rfl) ?_
        refine va_get (D := g.1) (ci := 5) (v := .int (nI nr)) (C := RX5) (T := TX5) (N := 23) hx hb hts (fun _ h => (List.mem_cons_of_mem _ (List.mem_append_right _ h))) hown hK.1 hP 0 rfl rfl 18 (by decide) (hts _ (List.mem_of_getElem? (i := 1) rfl)) (fun _ h9 => h9) rfl dX5_reading_29 ?_
        refine lv_bipush (v := (nI 8)) hx hb dX5_reading_32 (by decide) ?_
        refine n_icmp_ne (a := nr) (b := 8) (tgt := 40) hx hb (by omega) (by omega) dX5_reading_34 (by decide) (fun c34 => ?_) (fun c34 => ?_)
        · refine lv_aload_n hx hb dX5_reading_40 rfl (lv_at hl 0 rfl) ?_
          refine va_get (D := g.1) (ci := 5) (v := .ref yi) (C := RX5) (T := TX5) (N := 23) hx hb hts (fun _ h => (List.mem_cons_of_mem _ (List.mem_append_right _ h))) hown hK.1 hP 0 rfl rfl 19 (by decide) (hts _ (List.mem_of_getElem? (i := 2) rfl)) (fun _ h9 => h9) rfl dX5_reading_41 ?_
          refine lv_aload_n hx hb dX5_reading_44 rfl (lv_at hl 0 rfl) ?_
          refine va_get (D := g.1) (ci := 5) (v := .int (nI nr)) (C := RX5) (T := TX5) (N := 23) hx hb hts (fun _ h => (List.mem_cons_of_mem _ (List.mem_append_right _ h))) hown hK.1 hP 0 rfl rfl 18 (by decide) (hts _ (List.mem_of_getElem? (i := 1) rfl)) (fun _ h9 => h9) rfl dX5_reading_45 ?_
          refine lv_iload_n hx hb dX5_reading_48 rfl (lv_at hl 1 rfl) ?_
          refine n_iast (i := nr) (x := (nI w_2)) (ws1 := wM g y ya yb yc yd ye yf yg yh yi yj yk yl ft tr lane ml cel np sl kd hg ps rs rn rk rh lg fk gt tkn nr (va_up ru nr w_2) rl rm rd) hx hb hK.1 hP hD hS 9 0 rfl rfl (by omega) (by decide) (fun j => nI ((va_up ru nr w_2) j)) (upd_nI _ _ _) rfl dX5_reading_49 (fun H locs hP hD hS => ?_)
          refine lv_aload_n hx hb dX5_reading_50 rfl (lv_at hl 0 rfl) ?_
          refine va_get (D := g.1) (ci := 5) (v := .ref yj) (C := RX5) (T := TX5) (N := 23) hx hb hts (fun _ h => (List.mem_cons_of_mem _ (List.mem_append_right _ h))) hown hK.1 hP 0 rfl rfl 20 (by decide) (hts _ (List.mem_of_getElem? (i := 3) rfl)) (fun _ h9 => h9) rfl dX5_reading_51 ?_
          refine lv_aload_n hx hb dX5_reading_54 rfl (lv_at hl 0 rfl) ?_
          refine va_get (D := g.1) (ci := 5) (v := .int (nI nr)) (C := RX5) (T := TX5) (N := 23) hx hb hts (fun _ h => (List.mem_cons_of_mem _ (List.mem_append_right _ h))) hown hK.1 hP 0 rfl rfl 18 (by decide) (hts _ (List.mem_of_getElem? (i := 1) rfl)) (fun _ h9 => h9) rfl dX5_reading_55 ?_
          refine lv_iload_n hx hb dX5_reading_58 rfl (lv_at hl 2 rfl) ?_
          refine n_iast (i := nr) (x := (nI w_10)) (ws1 := wM g y ya yb yc yd ye yf yg yh yi yj yk yl ft tr lane ml cel np sl kd hg ps rs rn rk rh lg fk gt tkn nr (va_up ru nr w_2) (va_up rl nr w_10) rm rd) hx hb hK.1 hP hD hS 10 0 rfl rfl (by omega) (by decide) (fun j => nI ((va_up rl nr w_10) j)) (upd_nI _ _ _) rfl dX5_reading_59 (fun H locs hP hD hS => ?_)
          refine lv_aload_n hx hb dX5_reading_60 rfl (lv_at hl 0 rfl) ?_
          refine va_get (D := g.1) (ci := 5) (v := .ref yk) (C := RX5) (T := TX5) (N := 23) hx hb hts (fun _ h => (List.mem_cons_of_mem _ (List.mem_append_right _ h))) hown hK.1 hP 0 rfl rfl 21 (by decide) (hts _ (List.mem_of_getElem? (i := 4) rfl)) (fun _ h9 => h9) rfl dX5_reading_61 ?_
          refine lv_aload_n hx hb dX5_reading_64 rfl (lv_at hl 0 rfl) ?_
          refine va_get (D := g.1) (ci := 5) (v := .int (nI nr)) (C := RX5) (T := TX5) (N := 23) hx hb hts (fun _ h => (List.mem_cons_of_mem _ (List.mem_append_right _ h))) hown hK.1 hP 0 rfl rfl 18 (by decide) (hts _ (List.mem_of_getElem? (i := 1) rfl)) (fun _ h9 => h9) rfl dX5_reading_65 ?_
          refine lv_iload_n hx hb dX5_reading_68 rfl (lv_at hl 3 rfl) ?_
          refine n_iast (i := nr) (x := (nI w_19)) (ws1 := wM g y ya yb yc yd ye yf yg yh yi yj yk yl ft tr lane ml cel np sl kd hg ps rs rn rk rh lg fk gt tkn nr (va_up ru nr w_2) (va_up rl nr w_10) (va_up rm nr w_19) rd) hx hb hK.1 hP hD hS 11 0 rfl rfl (by omega) (by decide) (fun j => nI ((va_up rm nr w_19) j)) (upd_nI _ _ _) rfl dX5_reading_69 (fun H locs hP hD hS => ?_)
          refine lv_aload_n hx hb dX5_reading_70 rfl (lv_at hl 0 rfl) ?_
          refine va_get (D := g.1) (ci := 5) (v := .ref yl) (C := RX5) (T := TX5) (N := 23) hx hb hts (fun _ h => (List.mem_cons_of_mem _ (List.mem_append_right _ h))) hown hK.1 hP 0 rfl rfl 22 (by decide) (hts _ (List.mem_of_getElem? (i := 5) rfl)) (fun _ h9 => h9) rfl dX5_reading_71 ?_
          refine lv_aload_n hx hb dX5_reading_74 rfl (lv_at hl 0 rfl) ?_
          refine va_get (D := g.1) (ci := 5) (v := .int (nI nr)) (C := RX5) (T := TX5) (N := 23) hx hb hts (fun _ h => (List.mem_cons_of_mem _ (List.mem_append_right _ h))) hown hK.1 hP 0 rfl rfl 18 (by decide) (hts _ (List.mem_of_getElem? (i := 1) rfl)) (fun _ h9 => h9) rfl dX5_reading_75 ?_
          refine lv_iload hx hb dX5_reading_78 (lv_at hl 4 rfl) ?_
          refine n_zast (i := nr) (x := (nI dd)) (ws1 := wM g y ya yb yc yd ye yf yg yh yi yj yk yl ft tr lane ml cel np sl kd hg ps rs rn rk rh lg fk gt tkn nr (va_up ru nr w_2) (va_up rl nr w_10) (va_up rm nr w_19) (va_up rd nr dd)) hx hb hK.1 hP hD hS 12 1 rfl rfl (by omega) (by decide) (vnar_b hd1) (fun j => nI ((va_up rd nr dd) j)) (upd_nI _ _ _) rfl dX5_reading_80 (fun H locs hP hD hS => ?_)
          refine lv_aload_n hx hb dX5_reading_81 rfl (lv_at hl 0 rfl) ?_
          refine lv_dup hx hb dX5_reading_82 rfl ?_
          refine va_get (D := g.1) (ci := 5) (v := .int (nI nr)) (C := RX5) (T := TX5) (N := 23) hx hb hts (fun _ h => (List.mem_cons_of_mem _ (List.mem_append_right _ h))) hown hK.1 hP 0 rfl rfl 18 (by decide) (hts _ (List.mem_of_getElem? (i := 1) rfl)) (fun _ h9 => h9) rfl dX5_reading_83 ?_
          refine lv_iconst (v := (nI 1)) hx hb dX5_reading_86 (by decide) ?_
          refine n_iadd (a := nr) (b := 1) hx hb dX5_reading_87 ?_
          refine n_put (D := g.1) (ci := 5) (v := .int (nI (nr + 1))) (ty := .int) (C := RX5) (T := TX5) (N := 23) (ws1 := wM g y ya yb yc yd ye yf yg yh yi yj yk yl ft tr lane ml cel np sl kd hg ps rs rn rk rh lg fk gt tkn (nr + 1) (va_up ru nr w_2) (va_up rl nr w_10) (va_up rm nr w_19) (va_up rd nr dd)) hx hb hts (fun _ h => (List.mem_cons_of_mem _ (List.mem_append_right _ h))) tyX5 tyX5_ok nmX5 hown hK.1 hP hD hS 0 rfl rfl 18 (by decide) (hts _ (List.mem_of_getElem? (i := 1) rfl)) (fun _ h9 => h9) rfl (by decide +kernel) rfl rfl (Nat.le_of_ble_eq_true rfl) rfl dX5_reading_88 (fun H locs hP hD hS => ?_)
          refine lv_aload_n hx hb dX5_reading_91 rfl (lv_at hl 0 rfl) ?_
          refine va_get (D := g.1) (ci := 5) (v := .int (nI (nr + 1))) (C := RX5) (T := TX5) (N := 23) hx hb hts (fun _ h => (List.mem_cons_of_mem _ (List.mem_append_right _ h))) hown hK.1 hP 0 rfl rfl 18 (by decide) (hts _ (List.mem_of_getElem? (i := 1) rfl)) (fun _ h9 => h9) rfl dX5_reading_92 ?_
          refine lv_iconst (v := (nI 1)) hx hb dX5_reading_95 (by decide) ?_
          refine n_isub (a := (nr + 1)) (b := 1) hx hb (by omega) dX5_reading_96 ?_
          exact zretMI (w1 := fun (uu : Unit) => wM g y ya yb yc yd ye yf yg yh yi yj yk yl ft tr lane ml cel np sl kd hg ps rs rn rk rh lg fk gt tkn (st_nr np nr (nI w_2) (nI w_10) (nI w_19)) (st_r np nr (nI w_2) (nI w_10) (nI w_19) ru (tN (nI w_2))) (st_r np nr (nI w_2) (nI w_10) (nI w_19) rl (tN (nI w_10))) (st_r np nr (nI w_2) (nI w_10) (nI w_19) rm (tN (nI w_19))) (st_r np nr (nI w_2) (nI w_10) (nI w_19) rd dd)) () hx hb hr hlocks hS rfl (by rw [sp_reading, if_pos ⟨(isP_of (by omega) hw_2), (isP_of (by omega) hw_10)⟩, if_pos (isP_of (by omega) hw_19), if_pos (by omega), Nat.add_sub_cancel]) (by simp only [st_nr, st_r, if_pos (c := c_reading np nr (nI w_2) (nI w_10) (nI w_19)) ⟨(isP_of (by omega) hw_2), (isP_of (by omega) hw_10), (isP_of (by omega) hw_19), by omega⟩, tN_nI (u := w_2) (by omega), tN_nI (u := w_10) (by omega), tN_nI (u := w_19) (by omega)]; exact hP) dX5_reading_97
        · refine lv_bipush (v := (-4)) hx hb dX5_reading_37 (by decide) ?_
          exact zretMI (w1 := fun (uu : Unit) => wM g y ya yb yc yd ye yf yg yh yi yj yk yl ft tr lane ml cel np sl kd hg ps rs rn rk rh lg fk gt tkn (st_nr np nr (nI w_2) (nI w_10) (nI w_19)) (st_r np nr (nI w_2) (nI w_10) (nI w_19) ru (tN (nI w_2))) (st_r np nr (nI w_2) (nI w_10) (nI w_19) rl (tN (nI w_10))) (st_r np nr (nI w_2) (nI w_10) (nI w_19) rm (tN (nI w_19))) (st_r np nr (nI w_2) (nI w_10) (nI w_19) rd dd)) () hx hb hr hlocks hS rfl (by rw [sp_reading, if_pos ⟨(isP_of (by omega) hw_2), (isP_of (by omega) hw_10)⟩, if_pos (isP_of (by omega) hw_19), if_neg (by omega)]) (by simp only [st_nr, st_r, if_neg (c := c_reading np nr (nI w_2) (nI w_10) (nI w_19)) (fun z => absurd z.2.2.2 (by omega))]; exact hP) dX5_reading_39
      · refine lv_if_ne (tgt := 28) hx hb dX5_reading_22 (by decide) (fun c22 => ?_) (fun c22 => ?_)
        · exact absurd c22 (by decide)
        refine lv_bipush (v := (-2)) hx hb dX5_reading_25 (by decide) ?_
        exact zretMI (w1 := fun (uu : Unit) => wM g y ya yb yc yd ye yf yg yh yi yj yk yl ft tr lane ml cel np sl kd hg ps rs rn rk rh lg fk gt tkn (st_nr np nr (nI w_2) (nI w_10) m) (st_r np nr (nI w_2) (nI w_10) m ru (tN (nI w_2))) (st_r np nr (nI w_2) (nI w_10) m rl (tN (nI w_10))) (st_r np nr (nI w_2) (nI w_10) m rm (tN m)) (st_r np nr (nI w_2) (nI w_10) m rd dd)) () hx hb hr hlocks hS rfl (by rw [sp_reading, if_pos ⟨(isP_of (by omega) hw_2), (isP_of (by omega) hw_10)⟩, if_neg hn_19]) (by simp only [st_nr, st_r, if_neg (c := c_reading np nr (nI w_2) (nI w_10) m) (fun z => hn_19 z.2.2.1)]; exact hP) dX5_reading_27
    · refine lv_if_ne (tgt := 18) hx hb dX5_reading_13 (by decide) (fun c13 => ?_) (fun c13 => ?_)
      · exact absurd c13 (by decide)
      refine lv_iconst (v := (-1)) hx hb dX5_reading_16 (by decide) ?_
      exact zretMI (w1 := fun (uu : Unit) => wM g y ya yb yc yd ye yf yg yh yi yj yk yl ft tr lane ml cel np sl kd hg ps rs rn rk rh lg fk gt tkn (st_nr np nr (nI w_2) q m) (st_r np nr (nI w_2) q m ru (tN (nI w_2))) (st_r np nr (nI w_2) q m rl (tN q)) (st_r np nr (nI w_2) q m rm (tN m)) (st_r np nr (nI w_2) q m rd dd)) () hx hb hr hlocks hS rfl (by rw [sp_reading, if_neg (fun z => hn_10 z.2)]) (by simp only [st_nr, st_r, if_neg (c := c_reading np nr (nI w_2) q m) (fun z => hn_10 z.2.1)]; exact hP) dX5_reading_17
  · refine lv_if_eq (tgt := 16) hx hb dX5_reading_5 (by decide) (fun c5 => ?_) (fun c5 => ?_)
    rotate_left
    · exact absurd (by decide) c5
    refine lv_iconst (v := (-1)) hx hb dX5_reading_16 (by decide) ?_
    exact zretMI (w1 := fun (uu : Unit) => wM g y ya yb yc yd ye yf yg yh yi yj yk yl ft tr lane ml cel np sl kd hg ps rs rn rk rh lg fk gt tkn (st_nr np nr p q m) (st_r np nr p q m ru (tN p)) (st_r np nr p q m rl (tN q)) (st_r np nr p q m rm (tN m)) (st_r np nr p q m rd dd)) () hx hb hr hlocks hS rfl (by rw [sp_reading, if_neg (fun z => hn_2 z.1)]) (by simp only [st_nr, st_r, if_neg (c := c_reading np nr p q m) (fun z => hn_2 z.1)]; exact hP) dX5_reading_17

set_option maxHeartbeats 4000000 in
set_option maxRecDepth 100000 in
theorem c_X5_back (l : Launch) (g : Gx) (y : Nat) (ya : Nat) (yb : Nat) (yc : Nat) (yd : Nat) (ye : Nat) (yf : Nat) (yg : Nat) (yh : Nat) (yi : Nat) (yj : Nat) (yk : Nat) (yl : Nat) (ft : Nat) (tr : Int32) (lane : Nat → Nat) (ml : Nat → Nat) (cel : Nat → Nat → Int32) (np : Nat) (sl : Nat) (kd : Nat → Nat) (hg : Nat → Nat) (ps : Nat) (rs : Int32) (rn : Nat) (rk : Nat → Int32) (rh : Nat → Int32) (lg : Int32) (fk : Int32) (gt : Int32) (tkn : Nat → Int32) (nr : Nat) (ru : Nat → Nat) (rl : Nat → Nat) (rm : Nat → Nat) (rd : Nat → Nat) (k : Int32) (hG : Gd np sl kd hg nr ru rl rm rd lane ml) : Met l yX5_back wsX5_back ({ frames := 1, cells := 0, slots := 0, locals := 22 } : Room) (PcM g [.ref y, .int k] (wM g y ya yb yc yd ye yf yg yh yi yj yk yl ft tr lane ml cel np sl kd hg ps rs rn rk rh lg fk gt tkn nr ru rl rm rd)) (va_Qi (fun (r : Int32) (uu : Unit) => r = sp_back nr k) (fun (uu : Unit) t => PP g (wM g y ya yb yc yd ye yf yg yh yi yj yk yl ft tr lane ml cel np sl kd hg ps rs rn rk rh lg fk gt tkn (st_back nr k) ru rl rm rd) t.heap) (inW (wM g y ya yb yc yd ye yf yg yh yi yj yk yl ft tr lane ml cel np sl kd hg ps rs rn rk rh lg fk gt tkn nr ru rl rm rd))) 0 0 (inW (wM g y ya yb yc yd ye yf yg yh yi yj yk yl ft tr lane ml cel np sl kd hg ps rs rn rk rh lg fk gt tkn nr ru rl rm rd)) := by
  refine zenterM (cc := cX5_back) (maxL := 2) (ret := (some .int)) (by decide) rfl (Nat.le_of_ble_eq_true rfl) ?_
  intro P E s mt below meth cd ls hx hb hml hown hts hr hlocks hP hK hD hS hl
  skip
  have hl : lv_has ls 2 [(0, .ref y), (1, .int k)] := hl
  have S0 : CallFix P mt cd cX5_back 2 s [.ref y, .int k].toArray wsX5_back RX5 := ⟨hx, hb, hml, hown, hts⟩
  obtain ⟨hnp, hsl, hkd, hhg, hnr, hru, hrl, hrm, hrd, hla, hmz⟩ := hG
  refine lv_iload_n hx hb dX5_back_0 rfl (lv_at hl 1 rfl) ?_
  refine lv_iconst (v := (nI 0)) hx hb dX5_back_1 (by decide) ?_
  refine lv_aload_n hx hb dX5_back_2 rfl (lv_at hl 0 rfl) ?_
  refine va_get (D := g.1) (ci := 5) (v := .int (nI nr)) (C := RX5) (T := TX5) (N := 23) hx hb hts (fun _ h => (List.mem_cons_of_mem _ (List.mem_append_right _ h))) hown hK.1 hP 0 rfl rfl 18 (by decide) (hts _ (List.mem_of_getElem? (i := 1) rfl)) (fun _ h9 => h9) rfl dX5_back_3 ?_
  refine zcallR (va_runS (As := [.int k, .int (nI 0), .int (nI nr)]) (rest := []) S0 (c_X5_within_r0 l g k nr (by omega)) (va_cwS 3 hts gX5_back_X5_within rfl rfl rfl (by decide +kernel) ⟨by decide, by decide⟩) (zpreS hK (P_nil _)) rfl rfl hl.1 rfl (lv_room (Nat.le_of_ble_eq_true rfl)) dX5_back_6 ⟨by decide, by decide⟩) (fun r6 h6 => ?_)
  rcases h6 with ⟨w_6, hw_6, hv_6, rfl⟩ | ⟨hn_6, rfl⟩
  · subst hv_6
    refine lv_if_ne (tgt := 15) hx hb dX5_back_9 (by decide) (fun c9 => ?_) (fun c9 => ?_)
    rotate_left
    · exact absurd c9 (by decide)
    refine lv_aload_n hx hb dX5_back_15 rfl (lv_at hl 0 rfl) ?_
    refine lv_dup hx hb dX5_back_16 rfl ?_
    refine va_get (D := g.1) (ci := 5) (v := .int (nI nr)) (C := RX5) (T := TX5) (N := 23) hx hb hts (fun _ h => (List.mem_cons_of_mem _ (List.mem_append_right _ h))) hown hK.1 hP 0 rfl rfl 18 (by decide) (hts _ (List.mem_of_getElem? (i := 1) rfl)) (fun _ h9 => h9) rfl dX5_back_17 ?_
    refine lv_iload_n hx hb dX5_back_20 rfl (lv_at hl 1 rfl) ?_
    refine n_isub (a := nr) (b := w_6) hx hb (by omega) dX5_back_21 ?_
    refine n_put (D := g.1) (ci := 5) (v := .int (nI (nr - w_6))) (ty := .int) (C := RX5) (T := TX5) (N := 23) (ws1 := wM g y ya yb yc yd ye yf yg yh yi yj yk yl ft tr lane ml cel np sl kd hg ps rs rn rk rh lg fk gt tkn (nr - w_6) ru rl rm rd) hx hb hts (fun _ h => (List.mem_cons_of_mem _ (List.mem_append_right _ h))) tyX5 tyX5_ok nmX5 hown hK.1 hP hD hS 0 rfl rfl 18 (by decide) (hts _ (List.mem_of_getElem? (i := 1) rfl)) (fun _ h9 => h9) rfl (by decide +kernel) rfl rfl (Nat.le_of_ble_eq_true rfl) rfl dX5_back_22 (fun H locs hP hD hS => ?_)
    refine lv_aload_n hx hb dX5_back_25 rfl (lv_at hl 0 rfl) ?_
    refine va_get (D := g.1) (ci := 5) (v := .int (nI (nr - w_6))) (C := RX5) (T := TX5) (N := 23) hx hb hts (fun _ h => (List.mem_cons_of_mem _ (List.mem_append_right _ h))) hown hK.1 hP 0 rfl rfl 18 (by decide) (hts _ (List.mem_of_getElem? (i := 1) rfl)) (fun _ h9 => h9) rfl dX5_back_26 ?_
    exact zretMI (w1 := fun (uu : Unit) => wM g y ya yb yc yd ye yf yg yh yi yj yk yl ft tr lane ml cel np sl kd hg ps rs rn rk rh lg fk gt tkn (st_back nr (nI w_6)) ru rl rm rd) () hx hb hr hlocks hS rfl (by rw [sp_back, if_pos (isP_of (by omega) hw_6), tN_nI (u := w_6) (by omega)]) (by rw [st_back, if_pos (isP_of (by omega) hw_6), tN_nI (u := w_6) (by omega)]; exact hP) dX5_back_29
  · refine lv_if_ne (tgt := 15) hx hb dX5_back_9 (by decide) (fun c9 => ?_) (fun c9 => ?_)
    · exact absurd c9 (by decide)
    refine lv_bipush (v := (-2)) hx hb dX5_back_12 (by decide) ?_
    exact zretMI (w1 := fun (uu : Unit) => wM g y ya yb yc yd ye yf yg yh yi yj yk yl ft tr lane ml cel np sl kd hg ps rs rn rk rh lg fk gt tkn (st_back nr k) ru rl rm rd) () hx hb hr hlocks hS rfl (by rw [sp_back, if_neg hn_6]) (by rw [st_back, if_neg hn_6]; exact hP) dX5_back_14

set_option maxHeartbeats 4000000 in
set_option maxRecDepth 100000 in
theorem c_X5_areSo (l : Launch) (g : Gx) (y : Nat) (ya : Nat) (yb : Nat) (yc : Nat) (yd : Nat) (ye : Nat) (yf : Nat) (yg : Nat) (yh : Nat) (yi : Nat) (yj : Nat) (yk : Nat) (yl : Nat) (ft : Nat) (tr : Int32) (lane : Nat → Nat) (ml : Nat → Nat) (cel : Nat → Nat → Int32) (np : Nat) (sl : Nat) (kd : Nat → Nat) (hg : Nat → Nat) (ps : Nat) (rs : Int32) (rn : Nat) (rk : Nat → Int32) (rh : Nat → Int32) (lg : Int32) (fk : Int32) (gt : Int32) (tkn : Nat → Int32) (nr : Nat) (ru : Nat → Nat) (rl : Nat → Nat) (rm : Nat → Nat) (rd : Nat → Nat) (hnp : np ≤ 6) (hsl : sl ≤ 9) (hkd : ∀ j, kd j ≤ 2) (hhg : ∀ j, hg j ≤ 9) (hru : ∀ j, j < nr → ru j < np) (hrl : ∀ j, j < nr → rl j < np) (hrm : ∀ j, j < nr → rm j ≤ 9) (hrd : ∀ j, rd j ≤ 1) (hnr : nr ≤ 8) : Met l yX5_areSo wsX5_areSo ({ frames := 3, cells := 0, slots := 0, locals := 73 } : Room) (PcR g [.ref y] (wM g y ya yb yc yd ye yf yg yh yi yj yk yl ft tr lane ml cel np sl kd hg ps rs rn rk rh lg fk gt tkn nr ru rl rm rd)) (vp_Si (fun r => r = nI (sof sl kd hg nr ru rl rm rd))) 0 0 (fun _ => False) := by
  refine zenterR (cc := cX5_areSo) (maxL := 2) (ret := (some .boolean)) (by decide) rfl (Nat.le_of_ble_eq_true rfl) ?_
  intro P E s mt below meth cd ls hx hb hml hown hts hr hlocks hP hK hl
  have hl : lv_has ls 2 [(0, .ref y)] := hl
  have S0 : CallFix P mt cd cX5_areSo 2 s [.ref y].toArray wsX5_areSo RX5 := ⟨hx, hb, hml, hown, hts⟩
  refine lv_iconst (v := (nI 0)) hx hb dX5_areSo_0 (by decide) ?_
  refine lv_istore_n (lv' := [(1, .int (nI 0)), (0, .ref y)]) hx hb dX5_areSo_1 rfl hl (by decide) rfl (fun ls hl => ?_)
  have lp2 : ∀ (nn : Nat) (i : Nat) (ls : Array Slot), (nr - i) < nn → (i ≤ nr) → (so (fun j => fitb sl kd hg (ru j) (rl j) (rm j)) rd i = 1) → lv_has ls 2 [(0, .ref y), (1, .int (nI i))] → W P l E ({ frames := 3, cells := 0, slots := 0, locals := 73 } : Room) s mt [.ref y].toArray below meth cd s.heap [] 0 0 (MQ below (vp_Si (fun r => r = nI (sof sl kd hg nr ru rl rm rd))) [.ref y].toArray s 0 0 (fun _ => False)) (F0 mt 2 ls []) := by
    intro nn
    induction nn with
    | zero => intro i ls hmu; exact absurd hmu (Nat.not_lt_zero _)
    | succ nn ih2 =>
      intro i ls hmu hi hv hl
      refine lv_iload_n hx hb dX5_areSo_2 rfl (lv_at hl 1 rfl) ?_
      refine lv_aload_n hx hb dX5_areSo_3 rfl (lv_at hl 0 rfl) ?_
      refine va_get (D := g.1) (ci := 5) (v := .int (nI nr)) (C := RX5) (T := TX5) (N := 23) hx hb hts (fun _ h => (List.mem_cons_of_mem _ (List.mem_append_right _ h))) hown hK.1 hP 0 rfl rfl 18 (by decide) (hts _ (List.mem_of_getElem? (i := 1) rfl)) (fun _ h9 => h9) rfl dX5_areSo_4 ?_
      refine n_icmp_ge (a := i) (b := nr) (tgt := 49) hx hb (by omega) (by omega) dX5_areSo_7 (by decide) (fun c7 => ?_) (fun c7 => ?_)
      · refine lv_iconst (v := (nI 1)) hx hb dX5_areSo_49 (by decide) ?_
        exact zretI hx hb hr hlocks rfl (by rw [sof, ← show i = nr by omega, hv]) dX5_areSo_50
      · refine lv_aload_n hx hb dX5_areSo_10 rfl (lv_at hl 0 rfl) ?_
        refine lv_aload_n hx hb dX5_areSo_11 rfl (lv_at hl 0 rfl) ?_
        refine va_get (D := g.1) (ci := 5) (v := .ref yi) (C := RX5) (T := TX5) (N := 23) hx hb hts (fun _ h => (List.mem_cons_of_mem _ (List.mem_append_right _ h))) hown hK.1 hP 0 rfl rfl 19 (by decide) (hts _ (List.mem_of_getElem? (i := 2) rfl)) (fun _ h9 => h9) rfl dX5_areSo_12 ?_
        refine lv_iload_n hx hb dX5_areSo_15 rfl (lv_at hl 1 rfl) ?_
        refine n_iald (i := i) (v := (nI (ru i))) hx hb hK.1 hP 9 0 rfl rfl (by omega) (by decide) rfl dX5_areSo_16 ?_
        refine lv_aload_n hx hb dX5_areSo_17 rfl (lv_at hl 0 rfl) ?_
        refine va_get (D := g.1) (ci := 5) (v := .ref yj) (C := RX5) (T := TX5) (N := 23) hx hb hts (fun _ h => (List.mem_cons_of_mem _ (List.mem_append_right _ h))) hown hK.1 hP 0 rfl rfl 20 (by decide) (hts _ (List.mem_of_getElem? (i := 3) rfl)) (fun _ h9 => h9) rfl dX5_areSo_18 ?_
        refine lv_iload_n hx hb dX5_areSo_21 rfl (lv_at hl 1 rfl) ?_
        refine n_iald (i := i) (v := (nI (rl i))) hx hb hK.1 hP 10 0 rfl rfl (by omega) (by decide) rfl dX5_areSo_22 ?_
        refine lv_aload_n hx hb dX5_areSo_23 rfl (lv_at hl 0 rfl) ?_
        refine va_get (D := g.1) (ci := 5) (v := .ref yk) (C := RX5) (T := TX5) (N := 23) hx hb hts (fun _ h => (List.mem_cons_of_mem _ (List.mem_append_right _ h))) hown hK.1 hP 0 rfl rfl 21 (by decide) (hts _ (List.mem_of_getElem? (i := 4) rfl)) (fun _ h9 => h9) rfl dX5_areSo_24 ?_
        refine lv_iload_n hx hb dX5_areSo_27 rfl (lv_at hl 1 rfl) ?_
        refine n_iald (i := i) (v := (nI (rm i))) hx hb hK.1 hP 11 0 rfl rfl (by omega) (by decide) rfl dX5_areSo_28 ?_
        have hPc : PP g (wM g y ya yb yc yd ye yf yg yh yi yj yk yl ft tr lane ml cel np sl kd hg ps rs rn rk rh lg fk gt tkn nr ru rl rm rd) _ := hP
        refine zcallR (va_runV (As := [.int (nI (ru i)), .int (nI (rl i)), .int (nI (rm i))]) (rest := []) (b := y) S0 (c_X5_isFit l g y ya yb yc yd ye yf yg yh yi yj yk yl ft tr lane ml cel np sl kd hg ps rs rn rk rh lg fk gt tkn nr ru rl rm rd (ru i) (rl i) (rm i) hnp hsl hkd hhg (hru i (by omega)) (hrl i (by omega)) (hrm i (by omega))) (cwV 3 hts gX5_areSo_X5_isFit rfl rfl rfl (by decide +kernel) ⟨by decide, by decide⟩) (zpreV hK hPc (va_recv hK.1 hPc (ci := 5) (q0 := 0) rfl rfl)) rfl rfl hl.1 rfl (lv_room (Nat.le_of_ble_eq_true rfl)) dX5_areSo_29 ⟨by decide, by decide⟩) (fun r29 h29 => ?_)
        subst h29
        have f1 := fitb_le sl kd hg (ru i) (rl i) (rm i)
        refine lv_aload_n hx hb dX5_areSo_32 rfl (lv_at hl 0 rfl) ?_
        refine va_get (D := g.1) (ci := 5) (v := .ref yl) (C := RX5) (T := TX5) (N := 23) hx hb hts (fun _ h => (List.mem_cons_of_mem _ (List.mem_append_right _ h))) hown hK.1 hP 0 rfl rfl 22 (by decide) (hts _ (List.mem_of_getElem? (i := 5) rfl)) (fun _ h9 => h9) rfl dX5_areSo_33 ?_
        refine lv_iload_n hx hb dX5_areSo_36 rfl (lv_at hl 1 rfl) ?_
        refine n_zald (i := i) (v := (nI (rd i))) hx hb hK.1 hP 12 1 rfl rfl (by omega) (by decide) rfl dX5_areSo_37 ?_
        have f2 := hrd i
        refine n_icmp_eq (a := (fitb sl kd hg (ru i) (rl i) (rm i))) (b := (rd i)) (tgt := 43) hx hb (by omega) (by omega) dX5_areSo_38 (by decide) (fun c38 => ?_) (fun c38 => ?_)
        · refine n_iinc (a := i) (d := 1) (lv' := [(1, .int (nI (i + 1))), (0, .ref y)]) hx hb dX5_areSo_43 hl (k := 1) rfl (by decide) (by decide) rfl (fun ls hl => ?_)
          refine lv_goto (tgt := 2) hx hb dX5_areSo_46 (by decide) ?_
          exact ih2 (i + 1)  ls (by omega) (by omega) (so_go (F := (fun j => fitb sl kd hg (ru j) (rl j) (rm j))) hv c38) (lv_sub hl [1, 0] rfl)
        · refine lv_iconst (v := (nI 0)) hx hb dX5_areSo_41 (by decide) ?_
          exact zretI hx hb hr hlocks rfl (by rw [sof, so_stay (so_bad (F := (fun j => fitb sl kd hg (ru j) (rl j) (rm j))) c38) nr (by omega)]) dX5_areSo_42
  exact lp2 (nr - 0 + 1) 0  ls (Nat.lt_succ_self _) (by omega) rfl (lv_sub hl [1, 0] rfl)

set_option maxHeartbeats 4000000 in
set_option maxRecDepth 100000 in
theorem c_X5_edges (l : Launch) (g : Gx) (y : Nat) (ya : Nat) (yb : Nat) (yc : Nat) (yd : Nat) (ye : Nat) (yf : Nat) (yg : Nat) (yh : Nat) (yi : Nat) (yj : Nat) (yk : Nat) (yl : Nat) (ft : Nat) (tr : Int32) (lane : Nat → Nat) (ml : Nat → Nat) (cel : Nat → Nat → Int32) (np : Nat) (sl : Nat) (kd : Nat → Nat) (hg : Nat → Nat) (ps : Nat) (rs : Int32) (rn : Nat) (rk : Nat → Int32) (rh : Nat → Int32) (lg : Int32) (fk : Int32) (gt : Int32) (tkn : Nat → Int32) (nr : Nat) (ru : Nat → Nat) (rl : Nat → Nat) (rm : Nat → Nat) (rd : Nat → Nat) (p : Int32) (k : Int32) (hG : Gd np sl kd hg nr ru rl rm rd lane ml) : Met l yX5_edges wsX5_edges ({ frames := 4, cells := 0, slots := 0, locals := 94 } : Room) (PcM g [.ref y, .int p, .int k] (wM g y ya yb yc yd ye yf yg yh yi yj yk yl ft tr lane ml cel np sl kd hg ps rs rn rk rh lg fk gt tkn nr ru rl rm rd)) (va_Qi (fun (r : Int32) (uu : Unit) => r = sp_edges np sl kd hg nr ru rl rm rd p k) (fun (uu : Unit) t => PP g (wM g y ya yb yc yd ye yf yg yh yi yj yk yl ft tr lane ml cel np sl kd hg ps rs rn rk rh lg fk gt tkn nr ru rl rm rd) t.heap) (inW (wM g y ya yb yc yd ye yf yg yh yi yj yk yl ft tr lane ml cel np sl kd hg ps rs rn rk rh lg fk gt tkn nr ru rl rm rd))) 0 0 (inW (wM g y ya yb yc yd ye yf yg yh yi yj yk yl ft tr lane ml cel np sl kd hg ps rs rn rk rh lg fk gt tkn nr ru rl rm rd)) := by
  refine zenterM (cc := cX5_edges) (maxL := 7) (ret := (some .int)) (by decide) rfl (Nat.le_of_ble_eq_true rfl) ?_
  intro P E s mt below meth cd ls hx hb hml hown hts hr hlocks hP hK hD hS hl
  skip
  have hl : lv_has ls 7 [(0, .ref y), (1, .int p), (2, .int k)] := hl
  have S0 : CallFix P mt cd cX5_edges 7 s [.ref y, .int p, .int k].toArray wsX5_edges RX5 := ⟨hx, hb, hml, hown, hts⟩
  obtain ⟨hnp, hsl, hkd, hhg, hnr, hru, hrl, hrm, hrd, hla, hmz⟩ := hG
  refine lv_aload_n hx hb dX5_edges_0 rfl (lv_at hl 0 rfl) ?_
  refine lv_iload_n hx hb dX5_edges_1 rfl (lv_at hl 1 rfl) ?_
  have hPc : PP g (wM g y ya yb yc yd ye yf yg yh yi yj yk yl ft tr lane ml cel np sl kd hg ps rs rn rk rh lg fk gt tkn nr ru rl rm rd) _ := hP
  refine zcallR (va_runV (As := [.int p]) (rest := []) (b := y) S0 (c_X5_isPass l g y ya yb yc yd ye yf yg yh yi yj yk yl ft tr lane ml cel np sl kd hg ps rs rn rk rh lg fk gt tkn nr ru rl rm rd p hnp) (cwV 1 hts gX5_edges_X5_isPass rfl rfl rfl (by decide +kernel) ⟨by decide, by decide⟩) (zpreV hK hPc (va_recv hK.1 hPc (ci := 5) (q0 := 0) rfl rfl)) rfl rfl hl.1 rfl (lv_room (Nat.le_of_ble_eq_true rfl)) dX5_edges_2 ⟨by decide, by decide⟩) (fun r2 h2 => ?_)
  rcases h2 with ⟨w_2, hw_2, hv_2, rfl⟩ | ⟨hn_2, rfl⟩
  · subst hv_2
    refine lv_if_ne (tgt := 10) hx hb dX5_edges_5 (by decide) (fun c5 => ?_) (fun c5 => ?_)
    rotate_left
    · exact absurd c5 (by decide)
    refine lv_iload_n hx hb dX5_edges_10 rfl (lv_at hl 2 rfl) ?_
    refine zcallR (va_runS (As := [.int k]) (rest := []) S0 (c_X5_isPlace l g k) (va_cwS 1 hts gX5_edges_X5_isPlace rfl rfl rfl (by decide +kernel) ⟨by decide, by decide⟩) (zpreS hK (P_nil _)) rfl rfl hl.1 rfl (lv_room (Nat.le_of_ble_eq_true rfl)) dX5_edges_11 ⟨by decide, by decide⟩) (fun r11 h11 => ?_)
    rcases h11 with ⟨w_11, hw_11, hv_11, rfl⟩ | ⟨hn_11, rfl⟩
    · subst hv_11
      refine lv_if_ne (tgt := 20) hx hb dX5_edges_14 (by decide) (fun c14 => ?_) (fun c14 => ?_)
      rotate_left
      · exact absurd c14 (by decide)
      refine lv_iconst (v := (nI 3)) hx hb dX5_edges_20 (by decide) ?_
      refine lv_iload_n hx hb dX5_edges_21 rfl (lv_at hl 1 rfl) ?_
      refine n_imul (a := 3) (b := w_2) hx hb dX5_edges_22 ?_
      refine lv_iload_n hx hb dX5_edges_23 rfl (lv_at hl 2 rfl) ?_
      refine n_iadd (a := (3 * w_2)) (b := w_11) hx hb dX5_edges_24 ?_
      refine lv_istore_n (lv' := [(3, .int (nI ((3 * w_2) + w_11))), (0, .ref y), (1, .int (nI w_2)), (2, .int (nI w_11))]) hx hb dX5_edges_25 rfl hl (by decide) rfl (fun ls hl => ?_)
      refine lv_aload_n hx hb dX5_edges_26 rfl (lv_at hl 1 rfl) ?_
      refine va_get (D := g.1) (ci := 5) (v := .ref ye) (C := RX5) (T := TX5) (N := 23) hx hb hts (fun _ h => (List.mem_cons_of_mem _ (List.mem_append_right _ h))) hown hK.1 hP 0 rfl rfl 8 (by decide) (hts _ (List.mem_of_getElem? (i := 1) rfl)) (fun _ h9 => h9) rfl dX5_edges_27 ?_
      refine lv_iload_n hx hb dX5_edges_30 rfl (lv_at hl 0 rfl) ?_
      refine n_iald (i := ((3 * w_2) + w_11)) (v := (nI (hg ((3 * w_2) + w_11)))) hx hb hK.1 hP 5 0 rfl rfl (by omega) (by decide) rfl dX5_edges_31 ?_
      refine lv_istore (lv' := [(4, .int (nI (hg ((3 * w_2) + w_11)))), (3, .int (nI ((3 * w_2) + w_11))), (0, .ref y), (1, .int (nI w_2)), (2, .int (nI w_11))]) hx hb dX5_edges_32 hl (by decide) rfl (fun ls hl => ?_)
      refine lv_iconst (v := (nI 0)) hx hb dX5_edges_34 (by decide) ?_
      refine lv_istore (lv' := [(5, .int (nI 0)), (4, .int (nI (hg ((3 * w_2) + w_11)))), (3, .int (nI ((3 * w_2) + w_11))), (0, .ref y), (1, .int (nI w_2)), (2, .int (nI w_11))]) hx hb dX5_edges_35 hl (by decide) rfl (fun ls hl => ?_)
      refine lv_iconst (v := (nI 0)) hx hb dX5_edges_37 (by decide) ?_
      refine lv_istore (lv' := [(6, .int (nI 0)), (5, .int (nI 0)), (4, .int (nI (hg ((3 * w_2) + w_11)))), (3, .int (nI ((3 * w_2) + w_11))), (0, .ref y), (1, .int (nI w_2)), (2, .int (nI w_11))]) hx hb dX5_edges_38 hl (by decide) rfl (fun ls hl => ?_)
      have lp40 : ∀ (nn : Nat) (i : Nat) (h : Nat → Nat) (H : Heap) (locs : List Loc) (ls : Array Slot), (10 - i) < nn → (i ≤ 10) → (∀ v, va_up h (3 * w_2 + w_11) v = va_up hg (3 * w_2 + w_11) v) → PP g (wM g y ya yb yc yd ye yf yg yh yi yj yk yl ft tr lane ml cel np sl kd h ps rs rn rk rh lg fk gt tkn nr ru rl rm rd) H → va_D (inW (wM g y ya yb yc yd ye yf yg yh yi yj yk yl ft tr lane ml cel np sl kd hg ps rs rn rk rh lg fk gt tkn nr ru rl rm rd)) (wM g y ya yb yc yd ye yf yg yh yi yj yk yl ft tr lane ml cel np sl kd h ps rs rn rk rh lg fk gt tkn nr ru rl rm rd) → va_S (inW (wM g y ya yb yc yd ye yf yg yh yi yj yk yl ft tr lane ml cel np sl kd hg ps rs rn rk rh lg fk gt tkn nr ru rl rm rd)) s.heap H locs → lv_has ls 7 [(0, .ref y), (1, .int (nI w_2)), (2, .int (nI w_11)), (3, .int (nI (3 * w_2 + w_11))), (4, .int (nI (hg (3 * w_2 + w_11)))), (5, .int (nI (bset (fun v => sof sl kd (va_up hg (3 * w_2 + w_11) v) nr ru rl rm rd) i))), (6, .int (nI i))] → W P l E ({ frames := 4, cells := 0, slots := 0, locals := 94 } : Room) s mt [.ref y, .int (nI w_2), .int (nI w_11)].toArray below meth cd H locs 0 0 (MQ below (va_Qi (fun (r : Int32) (uu : Unit) => r = sp_edges np sl kd hg nr ru rl rm rd (nI w_2) (nI w_11)) (fun (uu : Unit) t => PP g (wM g y ya yb yc yd ye yf yg yh yi yj yk yl ft tr lane ml cel np sl kd hg ps rs rn rk rh lg fk gt tkn nr ru rl rm rd) t.heap) (inW (wM g y ya yb yc yd ye yf yg yh yi yj yk yl ft tr lane ml cel np sl kd hg ps rs rn rk rh lg fk gt tkn nr ru rl rm rd))) [.ref y, .int (nI w_2), .int (nI w_11)].toArray s 0 0 (inW (wM g y ya yb yc yd ye yf yg yh yi yj yk yl ft tr lane ml cel np sl kd hg ps rs rn rk rh lg fk gt tkn nr ru rl rm rd))) (F0 mt 40 ls []) := by
        intro nn
        induction nn with
        | zero => intro i h H locs ls hmu; exact absurd hmu (Nat.not_lt_zero _)
        | succ nn ih40 =>
          intro i h H locs ls hmu hi hh hP hD hS hl
          refine lv_iload hx hb dX5_edges_40 (lv_at hl 6 rfl) ?_
          refine lv_bipush (v := (nI 9)) hx hb dX5_edges_42 (by decide) ?_
          refine n_icmp_gt (a := i) (b := 9) (tgt := 81) hx hb (by omega) (by omega) dX5_edges_44 (by decide) (fun c44 => ?_) (fun c44 => ?_)
          · obtain rfl : 10 = i := by omega
            refine lv_aload_n hx hb dX5_edges_81 rfl (lv_at hl 0 rfl) ?_
            refine va_get (D := g.1) (ci := 5) (v := .ref ye) (C := RX5) (T := TX5) (N := 23) hx hb hts (fun _ h => (List.mem_cons_of_mem _ (List.mem_append_right _ h))) hown hK.1 hP 0 rfl rfl 8 (by decide) (hts _ (List.mem_of_getElem? (i := 1) rfl)) (fun _ h9 => h9) rfl dX5_edges_82 ?_
            refine lv_iload_n hx hb dX5_edges_85 rfl (lv_at hl 3 rfl) ?_
            refine lv_iload hx hb dX5_edges_86 (lv_at hl 4 rfl) ?_
            refine n_iast (i := (3 * w_2 + w_11)) (x := (nI (hg (3 * w_2 + w_11)))) (ws1 := wM g y ya yb yc yd ye yf yg yh yi yj yk yl ft tr lane ml cel np sl kd (va_up h (3 * w_2 + w_11) (hg (3 * w_2 + w_11))) ps rs rn rk rh lg fk gt tkn nr ru rl rm rd) hx hb hK.1 hP hD hS 5 0 rfl rfl (by omega) (by decide) (fun j => nI ((va_up h (3 * w_2 + w_11) (hg (3 * w_2 + w_11))) j)) (upd_nI _ _ _) rfl dX5_edges_88 (fun H locs hP hD hS => ?_)
            rw [hh (hg (3 * w_2 + w_11)), va_up_same rfl] at hP hD
            refine lv_iload hx hb dX5_edges_89 (lv_at hl 5 rfl) ?_
            exact zretMI (w1 := fun (uu : Unit) => wM g y ya yb yc yd ye yf yg yh yi yj yk yl ft tr lane ml cel np sl kd hg ps rs rn rk rh lg fk gt tkn nr ru rl rm rd) () hx hb hr hlocks hS rfl (by rw [sp_edges, if_pos (isP_of (by omega) hw_2), if_pos (isP_of (by omega) hw_11), tN_nI (u := w_2) (by omega), tN_nI (u := w_11) (by omega)]) hP dX5_edges_91
          · refine lv_aload_n hx hb dX5_edges_47 rfl (lv_at hl 0 rfl) ?_
            refine va_get (D := g.1) (ci := 5) (v := .ref ye) (C := RX5) (T := TX5) (N := 23) hx hb hts (fun _ h => (List.mem_cons_of_mem _ (List.mem_append_right _ h))) hown hK.1 hP 0 rfl rfl 8 (by decide) (hts _ (List.mem_of_getElem? (i := 1) rfl)) (fun _ h9 => h9) rfl dX5_edges_48 ?_
            refine lv_iload_n hx hb dX5_edges_51 rfl (lv_at hl 3 rfl) ?_
            refine lv_iload hx hb dX5_edges_52 (lv_at hl 6 rfl) ?_
            refine n_iast (i := (3 * w_2 + w_11)) (x := (nI i)) (ws1 := wM g y ya yb yc yd ye yf yg yh yi yj yk yl ft tr lane ml cel np sl kd (va_up h (3 * w_2 + w_11) i) ps rs rn rk rh lg fk gt tkn nr ru rl rm rd) hx hb hK.1 hP hD hS 5 0 rfl rfl (by omega) (by decide) (fun j => nI ((va_up h (3 * w_2 + w_11) i) j)) (upd_nI _ _ _) rfl dX5_edges_54 (fun H locs hP hD hS => ?_)
            rw [hh i] at hP hD
            refine lv_iload hx hb dX5_edges_55 (lv_at hl 5 rfl) ?_
            refine lv_aload_n hx hb dX5_edges_57 rfl (lv_at hl 0 rfl) ?_
            have hPc : PP g (wM g y ya yb yc yd ye yf yg yh yi yj yk yl ft tr lane ml cel np sl kd (va_up hg (3 * w_2 + w_11) i) ps rs rn rk rh lg fk gt tkn nr ru rl rm rd) _ := hP
            refine zcallR (va_runV (As := []) (rest := [.int (nI (bset (fun v => sof sl kd (va_up hg (3 * w_2 + w_11) v) nr ru rl rm rd) i))]) (b := y) S0 (c_X5_areSo l g y ya yb yc yd ye yf yg yh yi yj yk yl ft tr lane ml cel np sl kd (va_up hg (3 * w_2 + w_11) i) ps rs rn rk rh lg fk gt tkn nr ru rl rm rd hnp hsl hkd (up_le hhg (by omega)) hru hrl hrm hrd hnr) (cwV 0 hts gX5_edges_X5_areSo rfl rfl rfl (by decide +kernel) ⟨by decide, by decide⟩) (zpreV hK hPc (va_recv hK.1 hPc (ci := 5) (q0 := 0) rfl rfl)) rfl rfl hl.1 rfl (lv_room (Nat.le_of_ble_eq_true rfl)) dX5_edges_58 ⟨by decide, by decide⟩) (fun r58 h58 => ?_)
            subst h58
            have f1 := sof_le sl kd (va_up hg (3 * w_2 + w_11) i) nr ru rl rm rd
            refine n_if_eq (a := (sof sl kd (va_up hg (3 * w_2 + w_11) i) nr ru rl rm rd)) (tgt := 71) hx hb (by omega) dX5_edges_61 (by decide) (fun c61 => ?_) (fun c61 => ?_)
            · refine lv_iconst (v := (nI 0)) hx hb dX5_edges_71 (by decide) ?_
              refine ztopI (nI (bt (sof sl kd (va_up hg (3 * w_2 + w_11) i) nr ru rl rm rd) i)) (by rw [bt, if_pos c61]) ?_
              refine n_ior (a := (bset (fun v => sof sl kd (va_up hg (3 * w_2 + w_11) v) nr ru rl rm rd) i)) (b := (bt (sof sl kd (va_up hg (3 * w_2 + w_11) i) nr ru rl rm rd) i)) hx hb dX5_edges_72 ?_
              refine lv_istore (lv' := [(5, .int (nI ((bset (fun v => sof sl kd (va_up hg (3 * w_2 + w_11) v) nr ru rl rm rd) i) ||| (bt (sof sl kd (va_up hg (3 * w_2 + w_11) i) nr ru rl rm rd) i)))), (0, .ref y), (1, .int (nI w_2)), (2, .int (nI w_11)), (3, .int (nI (3 * w_2 + w_11))), (4, .int (nI (hg (3 * w_2 + w_11)))), (6, .int (nI i))]) hx hb dX5_edges_73 hl (by decide) rfl (fun ls hl => ?_)
              refine n_iinc (a := i) (d := 1) (lv' := [(6, .int (nI (i + 1))), (5, .int (nI ((bset (fun v => sof sl kd (va_up hg (3 * w_2 + w_11) v) nr ru rl rm rd) i) ||| (bt (sof sl kd (va_up hg (3 * w_2 + w_11) i) nr ru rl rm rd) i)))), (0, .ref y), (1, .int (nI w_2)), (2, .int (nI w_11)), (3, .int (nI (3 * w_2 + w_11))), (4, .int (nI (hg (3 * w_2 + w_11))))]) hx hb dX5_edges_75 hl (k := 6) rfl (by decide) (by decide) rfl (fun ls hl => ?_)
              refine lv_goto (tgt := 40) hx hb dX5_edges_78 (by decide) ?_
              exact ih40 (i + 1) (va_up hg (3 * w_2 + w_11) i) _ _ ls (by omega) (by omega) (fun v => va_up_2 hg (3 * w_2 + w_11) i v) hP hD hS (lv_sub hl [2, 3, 4, 5, 6, 1, 0] rfl)
            · refine lv_iconst (v := (nI 1)) hx hb dX5_edges_64 (by decide) ?_
              refine lv_iload hx hb dX5_edges_65 (lv_at hl 6 rfl) ?_
              refine n_ishl1 (n := i) hx hb (by omega) dX5_edges_67 ?_
              refine ztopI (nI (bt (sof sl kd (va_up hg (3 * w_2 + w_11) i) nr ru rl rm rd) i)) (by rw [bt, if_neg c61]) ?_
              refine lv_goto (tgt := 72) hx hb dX5_edges_68 (by decide) ?_
              refine n_ior (a := (bset (fun v => sof sl kd (va_up hg (3 * w_2 + w_11) v) nr ru rl rm rd) i)) (b := (bt (sof sl kd (va_up hg (3 * w_2 + w_11) i) nr ru rl rm rd) i)) hx hb dX5_edges_72 ?_
              refine lv_istore (lv' := [(5, .int (nI ((bset (fun v => sof sl kd (va_up hg (3 * w_2 + w_11) v) nr ru rl rm rd) i) ||| (bt (sof sl kd (va_up hg (3 * w_2 + w_11) i) nr ru rl rm rd) i)))), (0, .ref y), (1, .int (nI w_2)), (2, .int (nI w_11)), (3, .int (nI (3 * w_2 + w_11))), (4, .int (nI (hg (3 * w_2 + w_11)))), (6, .int (nI i))]) hx hb dX5_edges_73 hl (by decide) rfl (fun ls hl => ?_)
              refine n_iinc (a := i) (d := 1) (lv' := [(6, .int (nI (i + 1))), (5, .int (nI ((bset (fun v => sof sl kd (va_up hg (3 * w_2 + w_11) v) nr ru rl rm rd) i) ||| (bt (sof sl kd (va_up hg (3 * w_2 + w_11) i) nr ru rl rm rd) i)))), (0, .ref y), (1, .int (nI w_2)), (2, .int (nI w_11)), (3, .int (nI (3 * w_2 + w_11))), (4, .int (nI (hg (3 * w_2 + w_11))))]) hx hb dX5_edges_75 hl (k := 6) rfl (by decide) (by decide) rfl (fun ls hl => ?_)
              refine lv_goto (tgt := 40) hx hb dX5_edges_78 (by decide) ?_
              exact ih40 (i + 1) (va_up hg (3 * w_2 + w_11) i) _ _ ls (by omega) (by omega) (fun v => va_up_2 hg (3 * w_2 + w_11) i v) hP hD hS (lv_sub hl [2, 3, 4, 5, 6, 1, 0] rfl)
      exact lp40 (10 - 0 + 1) 0 hg _ _ ls (Nat.lt_succ_self _) (by omega) (fun _ => rfl) hP hD hS (lv_sub hl [4, 5, 6, 3, 2, 1, 0] rfl)
    · refine lv_if_ne (tgt := 20) hx hb dX5_edges_14 (by decide) (fun c14 => ?_) (fun c14 => ?_)
      · exact absurd c14 (by decide)
      refine lv_bipush (v := (-2)) hx hb dX5_edges_17 (by decide) ?_
      exact zretMI (w1 := fun (uu : Unit) => wM g y ya yb yc yd ye yf yg yh yi yj yk yl ft tr lane ml cel np sl kd hg ps rs rn rk rh lg fk gt tkn nr ru rl rm rd) () hx hb hr hlocks hS rfl (by rw [sp_edges, if_pos (isP_of (by omega) hw_2), if_neg hn_11]) hP dX5_edges_19
  · refine lv_if_ne (tgt := 10) hx hb dX5_edges_5 (by decide) (fun c5 => ?_) (fun c5 => ?_)
    · exact absurd c5 (by decide)
    refine lv_iconst (v := (-1)) hx hb dX5_edges_8 (by decide) ?_
    exact zretMI (w1 := fun (uu : Unit) => wM g y ya yb yc yd ye yf yg yh yi yj yk yl ft tr lane ml cel np sl kd hg ps rs rn rk rh lg fk gt tkn nr ru rl rm rd) () hx hb hr hlocks hS rfl (by rw [sp_edges, if_neg hn_2]) hP dX5_edges_9

set_option maxHeartbeats 4000000 in
set_option maxRecDepth 100000 in
theorem c_X5_kinds (l : Launch) (g : Gx) (y : Nat) (ya : Nat) (yb : Nat) (yc : Nat) (yd : Nat) (ye : Nat) (yf : Nat) (yg : Nat) (yh : Nat) (yi : Nat) (yj : Nat) (yk : Nat) (yl : Nat) (ft : Nat) (tr : Int32) (lane : Nat → Nat) (ml : Nat → Nat) (cel : Nat → Nat → Int32) (np : Nat) (sl : Nat) (kd : Nat → Nat) (hg : Nat → Nat) (ps : Nat) (rs : Int32) (rn : Nat) (rk : Nat → Int32) (rh : Nat → Int32) (lg : Int32) (fk : Int32) (gt : Int32) (tkn : Nat → Int32) (nr : Nat) (ru : Nat → Nat) (rl : Nat → Nat) (rm : Nat → Nat) (rd : Nat → Nat) (p : Int32) (hG : Gd np sl kd hg nr ru rl rm rd lane ml) : Met l yX5_kinds wsX5_kinds ({ frames := 4, cells := 0, slots := 0, locals := 94 } : Room) (PcM g [.ref y, .int p] (wM g y ya yb yc yd ye yf yg yh yi yj yk yl ft tr lane ml cel np sl kd hg ps rs rn rk rh lg fk gt tkn nr ru rl rm rd)) (va_Qi (fun (r : Int32) (uu : Unit) => r = sp_kinds np sl kd hg nr ru rl rm rd p) (fun (uu : Unit) t => PP g (wM g y ya yb yc yd ye yf yg yh yi yj yk yl ft tr lane ml cel np sl kd hg ps rs rn rk rh lg fk gt tkn nr ru rl rm rd) t.heap) (inW (wM g y ya yb yc yd ye yf yg yh yi yj yk yl ft tr lane ml cel np sl kd hg ps rs rn rk rh lg fk gt tkn nr ru rl rm rd))) 0 0 (inW (wM g y ya yb yc yd ye yf yg yh yi yj yk yl ft tr lane ml cel np sl kd hg ps rs rn rk rh lg fk gt tkn nr ru rl rm rd)) := by
  refine zenterM (cc := cX5_kinds) (maxL := 5) (ret := (some .int)) (by decide) rfl (Nat.le_of_ble_eq_true rfl) ?_
  intro P E s mt below meth cd ls hx hb hml hown hts hr hlocks hP hK hD hS hl
  skip
  have hl : lv_has ls 5 [(0, .ref y), (1, .int p)] := hl
  have S0 : CallFix P mt cd cX5_kinds 5 s [.ref y, .int p].toArray wsX5_kinds RX5 := ⟨hx, hb, hml, hown, hts⟩
  obtain ⟨hnp, hsl, hkd, hhg, hnr, hru, hrl, hrm, hrd, hla, hmz⟩ := hG
  refine lv_aload_n hx hb dX5_kinds_0 rfl (lv_at hl 0 rfl) ?_
  refine lv_iload_n hx hb dX5_kinds_1 rfl (lv_at hl 1 rfl) ?_
  have hPc : PP g (wM g y ya yb yc yd ye yf yg yh yi yj yk yl ft tr lane ml cel np sl kd hg ps rs rn rk rh lg fk gt tkn nr ru rl rm rd) _ := hP
  refine zcallR (va_runV (As := [.int p]) (rest := []) (b := y) S0 (c_X5_isPass l g y ya yb yc yd ye yf yg yh yi yj yk yl ft tr lane ml cel np sl kd hg ps rs rn rk rh lg fk gt tkn nr ru rl rm rd p hnp) (cwV 1 hts gX5_kinds_X5_isPass rfl rfl rfl (by decide +kernel) ⟨by decide, by decide⟩) (zpreV hK hPc (va_recv hK.1 hPc (ci := 5) (q0 := 0) rfl rfl)) rfl rfl hl.1 rfl (lv_room (Nat.le_of_ble_eq_true rfl)) dX5_kinds_2 ⟨by decide, by decide⟩) (fun r2 h2 => ?_)
  rcases h2 with ⟨w_2, hw_2, hv_2, rfl⟩ | ⟨hn_2, rfl⟩
  · subst hv_2
    refine lv_if_ne (tgt := 10) hx hb dX5_kinds_5 (by decide) (fun c5 => ?_) (fun c5 => ?_)
    rotate_left
    · exact absurd c5 (by decide)
    refine lv_aload_n hx hb dX5_kinds_10 rfl (lv_at hl 0 rfl) ?_
    refine va_get (D := g.1) (ci := 5) (v := .ref yd) (C := RX5) (T := TX5) (N := 23) hx hb hts (fun _ h => (List.mem_cons_of_mem _ (List.mem_append_right _ h))) hown hK.1 hP 0 rfl rfl 7 (by decide) (hts _ (List.mem_of_getElem? (i := 1) rfl)) (fun _ h9 => h9) rfl dX5_kinds_11 ?_
    refine lv_iload_n hx hb dX5_kinds_14 rfl (lv_at hl 1 rfl) ?_
    refine n_iald (i := w_2) (v := (nI (kd w_2))) hx hb hK.1 hP 4 0 rfl rfl (by omega) (by decide) rfl dX5_kinds_15 ?_
    refine lv_istore_n (lv' := [(2, .int (nI (kd w_2))), (0, .ref y), (1, .int (nI w_2))]) hx hb dX5_kinds_16 rfl hl (by decide) rfl (fun ls hl => ?_)
    refine lv_iconst (v := (nI 0)) hx hb dX5_kinds_17 (by decide) ?_
    refine lv_istore_n (lv' := [(3, .int (nI 0)), (2, .int (nI (kd w_2))), (0, .ref y), (1, .int (nI w_2))]) hx hb dX5_kinds_18 rfl hl (by decide) rfl (fun ls hl => ?_)
    refine lv_iconst (v := (nI 0)) hx hb dX5_kinds_19 (by decide) ?_
    refine lv_istore (lv' := [(4, .int (nI 0)), (3, .int (nI 0)), (2, .int (nI (kd w_2))), (0, .ref y), (1, .int (nI w_2))]) hx hb dX5_kinds_20 hl (by decide) rfl (fun ls hl => ?_)
    have lp22 : ∀ (nn : Nat) (i : Nat) (h : Nat → Nat) (H : Heap) (locs : List Loc) (ls : Array Slot), (3 - i) < nn → (i ≤ 3) → (∀ v, va_up h w_2 v = va_up kd w_2 v) → PP g (wM g y ya yb yc yd ye yf yg yh yi yj yk yl ft tr lane ml cel np sl h hg ps rs rn rk rh lg fk gt tkn nr ru rl rm rd) H → va_D (inW (wM g y ya yb yc yd ye yf yg yh yi yj yk yl ft tr lane ml cel np sl kd hg ps rs rn rk rh lg fk gt tkn nr ru rl rm rd)) (wM g y ya yb yc yd ye yf yg yh yi yj yk yl ft tr lane ml cel np sl h hg ps rs rn rk rh lg fk gt tkn nr ru rl rm rd) → va_S (inW (wM g y ya yb yc yd ye yf yg yh yi yj yk yl ft tr lane ml cel np sl kd hg ps rs rn rk rh lg fk gt tkn nr ru rl rm rd)) s.heap H locs → lv_has ls 5 [(0, .ref y), (1, .int (nI w_2)), (2, .int (nI (kd w_2))), (3, .int (nI (bset (fun v => sof sl (va_up kd w_2 v) hg nr ru rl rm rd) i))), (4, .int (nI i))] → W P l E ({ frames := 4, cells := 0, slots := 0, locals := 94 } : Room) s mt [.ref y, .int (nI w_2)].toArray below meth cd H locs 0 0 (MQ below (va_Qi (fun (r : Int32) (uu : Unit) => r = sp_kinds np sl kd hg nr ru rl rm rd (nI w_2)) (fun (uu : Unit) t => PP g (wM g y ya yb yc yd ye yf yg yh yi yj yk yl ft tr lane ml cel np sl kd hg ps rs rn rk rh lg fk gt tkn nr ru rl rm rd) t.heap) (inW (wM g y ya yb yc yd ye yf yg yh yi yj yk yl ft tr lane ml cel np sl kd hg ps rs rn rk rh lg fk gt tkn nr ru rl rm rd))) [.ref y, .int (nI w_2)].toArray s 0 0 (inW (wM g y ya yb yc yd ye yf yg yh yi yj yk yl ft tr lane ml cel np sl kd hg ps rs rn rk rh lg fk gt tkn nr ru rl rm rd))) (F0 mt 22 ls []) := by
      intro nn
      induction nn with
      | zero => intro i h H locs ls hmu; exact absurd hmu (Nat.not_lt_zero _)
      | succ nn ih22 =>
        intro i h H locs ls hmu hi hh hP hD hS hl
        refine lv_iload hx hb dX5_kinds_22 (lv_at hl 4 rfl) ?_
        refine lv_iconst (v := (nI 3)) hx hb dX5_kinds_24 (by decide) ?_
        refine n_icmp_ge (a := i) (b := 3) (tgt := 60) hx hb (by omega) (by omega) dX5_kinds_25 (by decide) (fun c25 => ?_) (fun c25 => ?_)
        · obtain rfl : 3 = i := by omega
          refine lv_aload_n hx hb dX5_kinds_60 rfl (lv_at hl 0 rfl) ?_
          refine va_get (D := g.1) (ci := 5) (v := .ref yd) (C := RX5) (T := TX5) (N := 23) hx hb hts (fun _ h => (List.mem_cons_of_mem _ (List.mem_append_right _ h))) hown hK.1 hP 0 rfl rfl 7 (by decide) (hts _ (List.mem_of_getElem? (i := 1) rfl)) (fun _ h9 => h9) rfl dX5_kinds_61 ?_
          refine lv_iload_n hx hb dX5_kinds_64 rfl (lv_at hl 1 rfl) ?_
          refine lv_iload_n hx hb dX5_kinds_65 rfl (lv_at hl 2 rfl) ?_
          refine n_iast (i := w_2) (x := (nI (kd w_2))) (ws1 := wM g y ya yb yc yd ye yf yg yh yi yj yk yl ft tr lane ml cel np sl (va_up h w_2 (kd w_2)) hg ps rs rn rk rh lg fk gt tkn nr ru rl rm rd) hx hb hK.1 hP hD hS 4 0 rfl rfl (by omega) (by decide) (fun j => nI ((va_up h w_2 (kd w_2)) j)) (upd_nI _ _ _) rfl dX5_kinds_66 (fun H locs hP hD hS => ?_)
          rw [hh (kd w_2), va_up_same rfl] at hP hD
          refine lv_iload_n hx hb dX5_kinds_67 rfl (lv_at hl 3 rfl) ?_
          exact zretMI (w1 := fun (uu : Unit) => wM g y ya yb yc yd ye yf yg yh yi yj yk yl ft tr lane ml cel np sl kd hg ps rs rn rk rh lg fk gt tkn nr ru rl rm rd) () hx hb hr hlocks hS rfl (by rw [sp_kinds, if_pos (isP_of (by omega) hw_2), tN_nI (u := w_2) (by omega)]) hP dX5_kinds_68
        · refine lv_aload_n hx hb dX5_kinds_28 rfl (lv_at hl 0 rfl) ?_
          refine va_get (D := g.1) (ci := 5) (v := .ref yd) (C := RX5) (T := TX5) (N := 23) hx hb hts (fun _ h => (List.mem_cons_of_mem _ (List.mem_append_right _ h))) hown hK.1 hP 0 rfl rfl 7 (by decide) (hts _ (List.mem_of_getElem? (i := 1) rfl)) (fun _ h9 => h9) rfl dX5_kinds_29 ?_
          refine lv_iload_n hx hb dX5_kinds_32 rfl (lv_at hl 1 rfl) ?_
          refine lv_iload hx hb dX5_kinds_33 (lv_at hl 4 rfl) ?_
          refine n_iast (i := w_2) (x := (nI i)) (ws1 := wM g y ya yb yc yd ye yf yg yh yi yj yk yl ft tr lane ml cel np sl (va_up h w_2 i) hg ps rs rn rk rh lg fk gt tkn nr ru rl rm rd) hx hb hK.1 hP hD hS 4 0 rfl rfl (by omega) (by decide) (fun j => nI ((va_up h w_2 i) j)) (upd_nI _ _ _) rfl dX5_kinds_35 (fun H locs hP hD hS => ?_)
          rw [hh i] at hP hD
          refine lv_iload_n hx hb dX5_kinds_36 rfl (lv_at hl 3 rfl) ?_
          refine lv_aload_n hx hb dX5_kinds_37 rfl (lv_at hl 0 rfl) ?_
          have hPc : PP g (wM g y ya yb yc yd ye yf yg yh yi yj yk yl ft tr lane ml cel np sl (va_up kd w_2 i) hg ps rs rn rk rh lg fk gt tkn nr ru rl rm rd) _ := hP
          refine zcallR (va_runV (As := []) (rest := [.int (nI (bset (fun v => sof sl (va_up kd w_2 v) hg nr ru rl rm rd) i))]) (b := y) S0 (c_X5_areSo l g y ya yb yc yd ye yf yg yh yi yj yk yl ft tr lane ml cel np sl (va_up kd w_2 i) hg ps rs rn rk rh lg fk gt tkn nr ru rl rm rd hnp hsl (up_le hkd (by omega)) hhg hru hrl hrm hrd hnr) (cwV 0 hts gX5_kinds_X5_areSo rfl rfl rfl (by decide +kernel) ⟨by decide, by decide⟩) (zpreV hK hPc (va_recv hK.1 hPc (ci := 5) (q0 := 0) rfl rfl)) rfl rfl hl.1 rfl (lv_room (Nat.le_of_ble_eq_true rfl)) dX5_kinds_38 ⟨by decide, by decide⟩) (fun r38 h38 => ?_)
          subst h38
          have f1 := sof_le sl (va_up kd w_2 i) hg nr ru rl rm rd
          refine n_if_eq (a := (sof sl (va_up kd w_2 i) hg nr ru rl rm rd)) (tgt := 51) hx hb (by omega) dX5_kinds_41 (by decide) (fun c41 => ?_) (fun c41 => ?_)
          · refine lv_iconst (v := (nI 0)) hx hb dX5_kinds_51 (by decide) ?_
            refine ztopI (nI (bt (sof sl (va_up kd w_2 i) hg nr ru rl rm rd) i)) (by rw [bt, if_pos c41]) ?_
            refine n_ior (a := (bset (fun v => sof sl (va_up kd w_2 v) hg nr ru rl rm rd) i)) (b := (bt (sof sl (va_up kd w_2 i) hg nr ru rl rm rd) i)) hx hb dX5_kinds_52 ?_
            refine lv_istore_n (lv' := [(3, .int (nI ((bset (fun v => sof sl (va_up kd w_2 v) hg nr ru rl rm rd) i) ||| (bt (sof sl (va_up kd w_2 i) hg nr ru rl rm rd) i)))), (0, .ref y), (1, .int (nI w_2)), (2, .int (nI (kd w_2))), (4, .int (nI i))]) hx hb dX5_kinds_53 rfl hl (by decide) rfl (fun ls hl => ?_)
            refine n_iinc (a := i) (d := 1) (lv' := [(4, .int (nI (i + 1))), (3, .int (nI ((bset (fun v => sof sl (va_up kd w_2 v) hg nr ru rl rm rd) i) ||| (bt (sof sl (va_up kd w_2 i) hg nr ru rl rm rd) i)))), (0, .ref y), (1, .int (nI w_2)), (2, .int (nI (kd w_2)))]) hx hb dX5_kinds_54 hl (k := 4) rfl (by decide) (by decide) rfl (fun ls hl => ?_)
            refine lv_goto (tgt := 22) hx hb dX5_kinds_57 (by decide) ?_
            exact ih22 (i + 1) (va_up kd w_2 i) _ _ ls (by omega) (by omega) (fun v => va_up_2 kd w_2 i v) hP hD hS (lv_sub hl [2, 3, 4, 1, 0] rfl)
          · refine lv_iconst (v := (nI 1)) hx hb dX5_kinds_44 (by decide) ?_
            refine lv_iload hx hb dX5_kinds_45 (lv_at hl 4 rfl) ?_
            refine n_ishl1 (n := i) hx hb (by omega) dX5_kinds_47 ?_
            refine ztopI (nI (bt (sof sl (va_up kd w_2 i) hg nr ru rl rm rd) i)) (by rw [bt, if_neg c41]) ?_
            refine lv_goto (tgt := 52) hx hb dX5_kinds_48 (by decide) ?_
            refine n_ior (a := (bset (fun v => sof sl (va_up kd w_2 v) hg nr ru rl rm rd) i)) (b := (bt (sof sl (va_up kd w_2 i) hg nr ru rl rm rd) i)) hx hb dX5_kinds_52 ?_
            refine lv_istore_n (lv' := [(3, .int (nI ((bset (fun v => sof sl (va_up kd w_2 v) hg nr ru rl rm rd) i) ||| (bt (sof sl (va_up kd w_2 i) hg nr ru rl rm rd) i)))), (0, .ref y), (1, .int (nI w_2)), (2, .int (nI (kd w_2))), (4, .int (nI i))]) hx hb dX5_kinds_53 rfl hl (by decide) rfl (fun ls hl => ?_)
            refine n_iinc (a := i) (d := 1) (lv' := [(4, .int (nI (i + 1))), (3, .int (nI ((bset (fun v => sof sl (va_up kd w_2 v) hg nr ru rl rm rd) i) ||| (bt (sof sl (va_up kd w_2 i) hg nr ru rl rm rd) i)))), (0, .ref y), (1, .int (nI w_2)), (2, .int (nI (kd w_2)))]) hx hb dX5_kinds_54 hl (k := 4) rfl (by decide) (by decide) rfl (fun ls hl => ?_)
            refine lv_goto (tgt := 22) hx hb dX5_kinds_57 (by decide) ?_
            exact ih22 (i + 1) (va_up kd w_2 i) _ _ ls (by omega) (by omega) (fun v => va_up_2 kd w_2 i v) hP hD hS (lv_sub hl [2, 3, 4, 1, 0] rfl)
    exact lp22 (3 - 0 + 1) 0 kd _ _ ls (Nat.lt_succ_self _) (by omega) (fun _ => rfl) hP hD hS (lv_sub hl [3, 4, 2, 1, 0] rfl)
  · refine lv_if_ne (tgt := 10) hx hb dX5_kinds_5 (by decide) (fun c5 => ?_) (fun c5 => ?_)
    · exact absurd c5 (by decide)
    refine lv_iconst (v := (-1)) hx hb dX5_kinds_8 (by decide) ?_
    exact zretMI (w1 := fun (uu : Unit) => wM g y ya yb yc yd ye yf yg yh yi yj yk yl ft tr lane ml cel np sl kd hg ps rs rn rk rh lg fk gt tkn nr ru rl rm rd) () hx hb hr hlocks hS rfl (by rw [sp_kinds, if_neg hn_2]) hP dX5_kinds_9

set_option maxHeartbeats 4000000 in
set_option maxRecDepth 100000 in
theorem c_X5_slacks (l : Launch) (g : Gx) (y : Nat) (ya : Nat) (yb : Nat) (yc : Nat) (yd : Nat) (ye : Nat) (yf : Nat) (yg : Nat) (yh : Nat) (yi : Nat) (yj : Nat) (yk : Nat) (yl : Nat) (ft : Nat) (tr : Int32) (lane : Nat → Nat) (ml : Nat → Nat) (cel : Nat → Nat → Int32) (np : Nat) (sl : Nat) (kd : Nat → Nat) (hg : Nat → Nat) (ps : Nat) (rs : Int32) (rn : Nat) (rk : Nat → Int32) (rh : Nat → Int32) (lg : Int32) (fk : Int32) (gt : Int32) (tkn : Nat → Int32) (nr : Nat) (ru : Nat → Nat) (rl : Nat → Nat) (rm : Nat → Nat) (rd : Nat → Nat) (hG : Gd np sl kd hg nr ru rl rm rd lane ml) : Met l yX5_slacks wsX5_slacks ({ frames := 4, cells := 0, slots := 0, locals := 94 } : Room) (PcM g [.ref y] (wM g y ya yb yc yd ye yf yg yh yi yj yk yl ft tr lane ml cel np sl kd hg ps rs rn rk rh lg fk gt tkn nr ru rl rm rd)) (va_Qi (fun (r : Int32) (uu : Unit) => r = sp_slacks np kd hg nr ru rl rm rd) (fun (uu : Unit) t => PP g (wM g y ya yb yc yd ye yf yg yh yi yj yk yl ft tr lane ml cel np sl kd hg ps rs rn rk rh lg fk gt tkn nr ru rl rm rd) t.heap) (inW (wM g y ya yb yc yd ye yf yg yh yi yj yk yl ft tr lane ml cel np sl kd hg ps rs rn rk rh lg fk gt tkn nr ru rl rm rd))) 0 0 (inW (wM g y ya yb yc yd ye yf yg yh yi yj yk yl ft tr lane ml cel np sl kd hg ps rs rn rk rh lg fk gt tkn nr ru rl rm rd)) := by
  refine zenterM (cc := cX5_slacks) (maxL := 4) (ret := (some .int)) (by decide) rfl (Nat.le_of_ble_eq_true rfl) ?_
  intro P E s mt below meth cd ls hx hb hml hown hts hr hlocks hP hK hD hS hl
  skip
  have hl : lv_has ls 4 [(0, .ref y)] := hl
  have S0 : CallFix P mt cd cX5_slacks 4 s [.ref y].toArray wsX5_slacks RX5 := ⟨hx, hb, hml, hown, hts⟩
  obtain ⟨hnp, hsl, hkd, hhg, hnr, hru, hrl, hrm, hrd, hla, hmz⟩ := hG
  refine lv_aload_n hx hb dX5_slacks_0 rfl (lv_at hl 0 rfl) ?_
  refine va_get (D := g.1) (ci := 5) (v := .int (nI np)) (C := RX5) (T := TX5) (N := 23) hx hb hts (fun _ h => (List.mem_cons_of_mem _ (List.mem_append_right _ h))) hown hK.1 hP 0 rfl rfl 5 (by decide) (hts _ (List.mem_of_getElem? (i := 1) rfl)) (fun _ h9 => h9) rfl dX5_slacks_1 ?_
  refine n_if_ne (a := np) (tgt := 10) hx hb (by omega) dX5_slacks_4 (by decide) (fun c4 => ?_) (fun c4 => ?_)
  · refine lv_aload_n hx hb dX5_slacks_10 rfl (lv_at hl 0 rfl) ?_
    refine va_get (D := g.1) (ci := 5) (v := .int (nI sl)) (C := RX5) (T := TX5) (N := 23) hx hb hts (fun _ h => (List.mem_cons_of_mem _ (List.mem_append_right _ h))) hown hK.1 hP 0 rfl rfl 6 (by decide) (hts _ (List.mem_of_getElem? (i := 2) rfl)) (fun _ h9 => h9) rfl dX5_slacks_11 ?_
    refine lv_istore_n (lv' := [(1, .int (nI sl)), (0, .ref y)]) hx hb dX5_slacks_14 rfl hl (by decide) rfl (fun ls hl => ?_)
    refine lv_iconst (v := (nI 0)) hx hb dX5_slacks_15 (by decide) ?_
    refine lv_istore_n (lv' := [(2, .int (nI 0)), (1, .int (nI sl)), (0, .ref y)]) hx hb dX5_slacks_16 rfl hl (by decide) rfl (fun ls hl => ?_)
    refine lv_iconst (v := (nI 0)) hx hb dX5_slacks_17 (by decide) ?_
    refine lv_istore_n (lv' := [(3, .int (nI 0)), (2, .int (nI 0)), (1, .int (nI sl)), (0, .ref y)]) hx hb dX5_slacks_18 rfl hl (by decide) rfl (fun ls hl => ?_)
    have lp19 : ∀ (nn : Nat) (i : Nat) (t : Nat) (H : Heap) (locs : List Loc) (ls : Array Slot), (10 - i) < nn → (i ≤ 10) → PP g (wM g y ya yb yc yd ye yf yg yh yi yj yk yl ft tr lane ml cel np t kd hg ps rs rn rk rh lg fk gt tkn nr ru rl rm rd) H → va_D (inW (wM g y ya yb yc yd ye yf yg yh yi yj yk yl ft tr lane ml cel np sl kd hg ps rs rn rk rh lg fk gt tkn nr ru rl rm rd)) (wM g y ya yb yc yd ye yf yg yh yi yj yk yl ft tr lane ml cel np t kd hg ps rs rn rk rh lg fk gt tkn nr ru rl rm rd) → va_S (inW (wM g y ya yb yc yd ye yf yg yh yi yj yk yl ft tr lane ml cel np sl kd hg ps rs rn rk rh lg fk gt tkn nr ru rl rm rd)) s.heap H locs → lv_has ls 4 [(0, .ref y), (1, .int (nI sl)), (2, .int (nI (bset (fun v => sof v kd hg nr ru rl rm rd) i))), (3, .int (nI i))] → W P l E ({ frames := 4, cells := 0, slots := 0, locals := 94 } : Room) s mt [.ref y].toArray below meth cd H locs 0 0 (MQ below (va_Qi (fun (r : Int32) (uu : Unit) => r = sp_slacks np kd hg nr ru rl rm rd) (fun (uu : Unit) t => PP g (wM g y ya yb yc yd ye yf yg yh yi yj yk yl ft tr lane ml cel np sl kd hg ps rs rn rk rh lg fk gt tkn nr ru rl rm rd) t.heap) (inW (wM g y ya yb yc yd ye yf yg yh yi yj yk yl ft tr lane ml cel np sl kd hg ps rs rn rk rh lg fk gt tkn nr ru rl rm rd))) [.ref y].toArray s 0 0 (inW (wM g y ya yb yc yd ye yf yg yh yi yj yk yl ft tr lane ml cel np sl kd hg ps rs rn rk rh lg fk gt tkn nr ru rl rm rd))) (F0 mt 19 ls []) := by
      intro nn
      induction nn with
      | zero => intro i t H locs ls hmu; exact absurd hmu (Nat.not_lt_zero _)
      | succ nn ih19 =>
        intro i t H locs ls hmu hi hP hD hS hl
        refine lv_iload_n hx hb dX5_slacks_19 rfl (lv_at hl 3 rfl) ?_
        refine lv_bipush (v := (nI 9)) hx hb dX5_slacks_20 (by decide) ?_
        refine n_icmp_gt (a := i) (b := 9) (tgt := 53) hx hb (by omega) (by omega) dX5_slacks_22 (by decide) (fun c22 => ?_) (fun c22 => ?_)
        · obtain rfl : 10 = i := by omega
          refine lv_aload_n hx hb dX5_slacks_53 rfl (lv_at hl 0 rfl) ?_
          refine lv_iload_n hx hb dX5_slacks_54 rfl (lv_at hl 1 rfl) ?_
          refine n_put (D := g.1) (ci := 5) (v := .int (nI sl)) (ty := .int) (C := RX5) (T := TX5) (N := 23) (ws1 := wM g y ya yb yc yd ye yf yg yh yi yj yk yl ft tr lane ml cel np sl kd hg ps rs rn rk rh lg fk gt tkn nr ru rl rm rd) hx hb hts (fun _ h => (List.mem_cons_of_mem _ (List.mem_append_right _ h))) tyX5 tyX5_ok nmX5 hown hK.1 hP hD hS 0 rfl rfl 6 (by decide) (hts _ (List.mem_of_getElem? (i := 2) rfl)) (fun _ h9 => h9) rfl (by decide +kernel) rfl rfl (Nat.le_of_ble_eq_true rfl) rfl dX5_slacks_55 (fun H locs hP hD hS => ?_)
          refine lv_iload_n hx hb dX5_slacks_58 rfl (lv_at hl 2 rfl) ?_
          exact zretMI (w1 := fun (uu : Unit) => wM g y ya yb yc yd ye yf yg yh yi yj yk yl ft tr lane ml cel np sl kd hg ps rs rn rk rh lg fk gt tkn nr ru rl rm rd) () hx hb hr hlocks hS rfl (by rw [sp_slacks, if_pos (by omega)]) hP dX5_slacks_59
        · refine lv_aload_n hx hb dX5_slacks_25 rfl (lv_at hl 0 rfl) ?_
          refine lv_iload_n hx hb dX5_slacks_26 rfl (lv_at hl 3 rfl) ?_
          refine n_put (D := g.1) (ci := 5) (v := .int (nI i)) (ty := .int) (C := RX5) (T := TX5) (N := 23) (ws1 := wM g y ya yb yc yd ye yf yg yh yi yj yk yl ft tr lane ml cel np i kd hg ps rs rn rk rh lg fk gt tkn nr ru rl rm rd) hx hb hts (fun _ h => (List.mem_cons_of_mem _ (List.mem_append_right _ h))) tyX5 tyX5_ok nmX5 hown hK.1 hP hD hS 0 rfl rfl 6 (by decide) (hts _ (List.mem_of_getElem? (i := 2) rfl)) (fun _ h9 => h9) rfl (by decide +kernel) rfl rfl (Nat.le_of_ble_eq_true rfl) rfl dX5_slacks_27 (fun H locs hP hD hS => ?_)
          refine lv_iload_n hx hb dX5_slacks_30 rfl (lv_at hl 2 rfl) ?_
          refine lv_aload_n hx hb dX5_slacks_31 rfl (lv_at hl 0 rfl) ?_
          have hPc : PP g (wM g y ya yb yc yd ye yf yg yh yi yj yk yl ft tr lane ml cel np i kd hg ps rs rn rk rh lg fk gt tkn nr ru rl rm rd) _ := hP
          refine zcallR (va_runV (As := []) (rest := [.int (nI (bset (fun v => sof v kd hg nr ru rl rm rd) i))]) (b := y) S0 (c_X5_areSo l g y ya yb yc yd ye yf yg yh yi yj yk yl ft tr lane ml cel np i kd hg ps rs rn rk rh lg fk gt tkn nr ru rl rm rd hnp (by omega) hkd hhg hru hrl hrm hrd hnr) (cwV 0 hts gX5_slacks_X5_areSo rfl rfl rfl (by decide +kernel) ⟨by decide, by decide⟩) (zpreV hK hPc (va_recv hK.1 hPc (ci := 5) (q0 := 0) rfl rfl)) rfl rfl hl.1 rfl (lv_room (Nat.le_of_ble_eq_true rfl)) dX5_slacks_32 ⟨by decide, by decide⟩) (fun r32 h32 => ?_)
          subst h32
          have f1 := sof_le i kd hg nr ru rl rm rd
          refine n_if_eq (a := (sof i kd hg nr ru rl rm rd)) (tgt := 44) hx hb (by omega) dX5_slacks_35 (by decide) (fun c35 => ?_) (fun c35 => ?_)
          · refine lv_iconst (v := (nI 0)) hx hb dX5_slacks_44 (by decide) ?_
            refine ztopI (nI (bt (sof i kd hg nr ru rl rm rd) i)) (by rw [bt, if_pos c35]) ?_
            refine n_ior (a := (bset (fun v => sof v kd hg nr ru rl rm rd) i)) (b := (bt (sof i kd hg nr ru rl rm rd) i)) hx hb dX5_slacks_45 ?_
            refine lv_istore_n (lv' := [(2, .int (nI ((bset (fun v => sof v kd hg nr ru rl rm rd) i) ||| (bt (sof i kd hg nr ru rl rm rd) i)))), (0, .ref y), (1, .int (nI sl)), (3, .int (nI i))]) hx hb dX5_slacks_46 rfl hl (by decide) rfl (fun ls hl => ?_)
            refine n_iinc (a := i) (d := 1) (lv' := [(3, .int (nI (i + 1))), (2, .int (nI ((bset (fun v => sof v kd hg nr ru rl rm rd) i) ||| (bt (sof i kd hg nr ru rl rm rd) i)))), (0, .ref y), (1, .int (nI sl))]) hx hb dX5_slacks_47 hl (k := 3) rfl (by decide) (by decide) rfl (fun ls hl => ?_)
            refine lv_goto (tgt := 19) hx hb dX5_slacks_50 (by decide) ?_
            exact ih19 (i + 1) i _ _ ls (by omega) (by omega) hP hD hS (lv_sub hl [2, 3, 1, 0] rfl)
          · refine lv_iconst (v := (nI 1)) hx hb dX5_slacks_38 (by decide) ?_
            refine lv_iload_n hx hb dX5_slacks_39 rfl (lv_at hl 3 rfl) ?_
            refine n_ishl1 (n := i) hx hb (by omega) dX5_slacks_40 ?_
            refine ztopI (nI (bt (sof i kd hg nr ru rl rm rd) i)) (by rw [bt, if_neg c35]) ?_
            refine lv_goto (tgt := 45) hx hb dX5_slacks_41 (by decide) ?_
            refine n_ior (a := (bset (fun v => sof v kd hg nr ru rl rm rd) i)) (b := (bt (sof i kd hg nr ru rl rm rd) i)) hx hb dX5_slacks_45 ?_
            refine lv_istore_n (lv' := [(2, .int (nI ((bset (fun v => sof v kd hg nr ru rl rm rd) i) ||| (bt (sof i kd hg nr ru rl rm rd) i)))), (0, .ref y), (1, .int (nI sl)), (3, .int (nI i))]) hx hb dX5_slacks_46 rfl hl (by decide) rfl (fun ls hl => ?_)
            refine n_iinc (a := i) (d := 1) (lv' := [(3, .int (nI (i + 1))), (2, .int (nI ((bset (fun v => sof v kd hg nr ru rl rm rd) i) ||| (bt (sof i kd hg nr ru rl rm rd) i)))), (0, .ref y), (1, .int (nI sl))]) hx hb dX5_slacks_47 hl (k := 3) rfl (by decide) (by decide) rfl (fun ls hl => ?_)
            refine lv_goto (tgt := 19) hx hb dX5_slacks_50 (by decide) ?_
            exact ih19 (i + 1) i _ _ ls (by omega) (by omega) hP hD hS (lv_sub hl [2, 3, 1, 0] rfl)
    exact lp19 (10 - 0 + 1) 0 sl _ _ ls (Nat.lt_succ_self _) (by omega) hP hD hS (lv_sub hl [3, 2, 1, 0] rfl)
  · refine lv_bipush (v := (-3)) hx hb dX5_slacks_7 (by decide) ?_
    exact zretMI (w1 := fun (uu : Unit) => wM g y ya yb yc yd ye yf yg yh yi yj yk yl ft tr lane ml cel np sl kd hg ps rs rn rk rh lg fk gt tkn nr ru rl rm rd) () hx hb hr hlocks hS rfl (by rw [sp_slacks, if_neg (by omega)]) hP dX5_slacks_9

set_option maxHeartbeats 4000000 in
set_option maxRecDepth 100000 in
theorem c_X5_tell (l : Launch) (g : Gx) (y : Nat) (ya : Nat) (yb : Nat) (yc : Nat) (yd : Nat) (ye : Nat) (yf : Nat) (yg : Nat) (yh : Nat) (yi : Nat) (yj : Nat) (yk : Nat) (yl : Nat) (ft : Nat) (tr : Int32) (lane : Nat → Nat) (ml : Nat → Nat) (cel : Nat → Nat → Int32) (np : Nat) (sl : Nat) (kd : Nat → Nat) (hg : Nat → Nat) (ps : Nat) (rs : Int32) (rn : Nat) (rk : Nat → Int32) (rh : Nat → Int32) (lg : Int32) (fk : Int32) (gt : Int32) (tkn : Nat → Int32) (nr : Nat) (ru : Nat → Nat) (rl : Nat → Nat) (rm : Nat → Nat) (rd : Nat → Nat) (p : Int32) (hG : Gd np sl kd hg nr ru rl rm rd lane ml) : Met l yX5_tell wsX5_tell ({ frames := 1, cells := 0, slots := 0, locals := 21 } : Room) (PcM g [.ref y, .int p] (wM g y ya yb yc yd ye yf yg yh yi yj yk yl ft tr lane ml cel np sl kd hg ps rs rn rk rh lg fk gt tkn nr ru rl rm rd)) (va_Qi (fun (r : Int32) (uu : Unit) => r = sp_tell np kd hg p) (fun (uu : Unit) t => PP g (wM g y ya yb yc yd ye yf yg yh yi yj yk yl ft (st_tell np kd tr p) lane ml cel np sl kd hg ps rs rn rk rh lg fk gt tkn nr ru rl rm rd) t.heap) (inW (wM g y ya yb yc yd ye yf yg yh yi yj yk yl ft tr lane ml cel np sl kd hg ps rs rn rk rh lg fk gt tkn nr ru rl rm rd))) 0 0 (inW (wM g y ya yb yc yd ye yf yg yh yi yj yk yl ft tr lane ml cel np sl kd hg ps rs rn rk rh lg fk gt tkn nr ru rl rm rd)) := by
  refine zenterM (cc := cX5_tell) (maxL := 3) (ret := (some .int)) (by decide) rfl (Nat.le_of_ble_eq_true rfl) ?_
  intro P E s mt below meth cd ls hx hb hml hown hts hr hlocks hP hK hD hS hl
  skip
  have hl : lv_has ls 3 [(0, .ref y), (1, .int p)] := hl
  have S0 : CallFix P mt cd cX5_tell 3 s [.ref y, .int p].toArray wsX5_tell RX5 := ⟨hx, hb, hml, hown, hts⟩
  obtain ⟨hnp, hsl, hkd, hhg, hnr, hru, hrl, hrm, hrd, hla, hmz⟩ := hG
  refine lv_aload_n hx hb dX5_tell_0 rfl (lv_at hl 0 rfl) ?_
  refine lv_iload_n hx hb dX5_tell_1 rfl (lv_at hl 1 rfl) ?_
  have hPc : PP g (wM g y ya yb yc yd ye yf yg yh yi yj yk yl ft tr lane ml cel np sl kd hg ps rs rn rk rh lg fk gt tkn nr ru rl rm rd) _ := hP
  refine zcallR (va_runV (As := [.int p]) (rest := []) (b := y) S0 (c_X5_isPass l g y ya yb yc yd ye yf yg yh yi yj yk yl ft tr lane ml cel np sl kd hg ps rs rn rk rh lg fk gt tkn nr ru rl rm rd p hnp) (cwV 1 hts gX5_tell_X5_isPass rfl rfl rfl (by decide +kernel) ⟨by decide, by decide⟩) (zpreV hK hPc (va_recv hK.1 hPc (ci := 5) (q0 := 0) rfl rfl)) rfl rfl hl.1 rfl (lv_room (Nat.le_of_ble_eq_true rfl)) dX5_tell_2 ⟨by decide, by decide⟩) (fun r2 h2 => ?_)
  rcases h2 with ⟨w_2, hw_2, hv_2, rfl⟩ | ⟨hn_2, rfl⟩
  · subst hv_2
    refine lv_if_ne (tgt := 10) hx hb dX5_tell_5 (by decide) (fun c5 => ?_) (fun c5 => ?_)
    rotate_left
    · exact absurd c5 (by decide)
    refine lv_aload_n hx hb dX5_tell_10 rfl (lv_at hl 0 rfl) ?_
    refine va_get (D := g.1) (ci := 5) (v := .ref ye) (C := RX5) (T := TX5) (N := 23) hx hb hts (fun _ h => (List.mem_cons_of_mem _ (List.mem_append_right _ h))) hown hK.1 hP 0 rfl rfl 8 (by decide) (hts _ (List.mem_of_getElem? (i := 1) rfl)) (fun _ h9 => h9) rfl dX5_tell_11 ?_
    refine lv_iconst (v := (nI 3)) hx hb dX5_tell_14 (by decide) ?_
    refine lv_iload_n hx hb dX5_tell_15 rfl (lv_at hl 1 rfl) ?_
    refine n_imul (a := 3) (b := w_2) hx hb dX5_tell_16 ?_
    refine n_iald (i := (3 * w_2)) (v := (nI (hg (3 * w_2)))) hx hb hK.1 hP 5 0 rfl rfl (by omega) (by decide) rfl dX5_tell_17 ?_
    refine lv_aload_n hx hb dX5_tell_18 rfl (lv_at hl 0 rfl) ?_
    refine va_get (D := g.1) (ci := 5) (v := .ref ye) (C := RX5) (T := TX5) (N := 23) hx hb hts (fun _ h => (List.mem_cons_of_mem _ (List.mem_append_right _ h))) hown hK.1 hP 0 rfl rfl 8 (by decide) (hts _ (List.mem_of_getElem? (i := 1) rfl)) (fun _ h9 => h9) rfl dX5_tell_19 ?_
    refine lv_iconst (v := (nI 3)) hx hb dX5_tell_22 (by decide) ?_
    refine lv_iload_n hx hb dX5_tell_23 rfl (lv_at hl 1 rfl) ?_
    refine n_imul (a := 3) (b := w_2) hx hb dX5_tell_24 ?_
    refine lv_iconst (v := (nI 1)) hx hb dX5_tell_25 (by decide) ?_
    refine n_iadd (a := (3 * w_2)) (b := 1) hx hb dX5_tell_26 ?_
    refine n_iald (i := ((3 * w_2) + 1)) (v := (nI (hg ((3 * w_2) + 1)))) hx hb hK.1 hP 5 0 rfl rfl (by omega) (by decide) rfl dX5_tell_27 ?_
    refine n_iadd (a := (hg (3 * w_2))) (b := (hg ((3 * w_2) + 1))) hx hb dX5_tell_28 ?_
    refine lv_aload_n hx hb dX5_tell_29 rfl (lv_at hl 0 rfl) ?_
    refine va_get (D := g.1) (ci := 5) (v := .ref ye) (C := RX5) (T := TX5) (N := 23) hx hb hts (fun _ h => (List.mem_cons_of_mem _ (List.mem_append_right _ h))) hown hK.1 hP 0 rfl rfl 8 (by decide) (hts _ (List.mem_of_getElem? (i := 1) rfl)) (fun _ h9 => h9) rfl dX5_tell_30 ?_
    refine lv_iconst (v := (nI 3)) hx hb dX5_tell_33 (by decide) ?_
    refine lv_iload_n hx hb dX5_tell_34 rfl (lv_at hl 1 rfl) ?_
    refine n_imul (a := 3) (b := w_2) hx hb dX5_tell_35 ?_
    refine lv_iconst (v := (nI 2)) hx hb dX5_tell_36 (by decide) ?_
    refine n_iadd (a := (3 * w_2)) (b := 2) hx hb dX5_tell_37 ?_
    refine n_iald (i := ((3 * w_2) + 2)) (v := (nI (hg ((3 * w_2) + 2)))) hx hb hK.1 hP 5 0 rfl rfl (by omega) (by decide) rfl dX5_tell_38 ?_
    refine n_iadd (a := ((hg (3 * w_2)) + (hg ((3 * w_2) + 1)))) (b := (hg ((3 * w_2) + 2))) hx hb dX5_tell_39 ?_
    refine lv_istore_n (lv' := [(2, .int (nI (((hg (3 * w_2)) + (hg ((3 * w_2) + 1))) + (hg ((3 * w_2) + 2))))), (0, .ref y), (1, .int (nI w_2))]) hx hb dX5_tell_40 rfl hl (by decide) rfl (fun ls hl => ?_)
    refine lv_aload_n hx hb dX5_tell_41 rfl (lv_at hl 1 rfl) ?_
    refine va_get (D := g.1) (ci := 5) (v := .ref yd) (C := RX5) (T := TX5) (N := 23) hx hb hts (fun _ h => (List.mem_cons_of_mem _ (List.mem_append_right _ h))) hown hK.1 hP 0 rfl rfl 7 (by decide) (hts _ (List.mem_of_getElem? (i := 2) rfl)) (fun _ h9 => h9) rfl dX5_tell_42 ?_
    refine lv_iload_n hx hb dX5_tell_45 rfl (lv_at hl 2 rfl) ?_
    refine n_iald (i := w_2) (v := (nI (kd w_2))) hx hb hK.1 hP 4 0 rfl rfl (by omega) (by decide) rfl dX5_tell_46 ?_
    have hk5 := hkd w_2
    have ehs : hsum hg w_2 = hg (3 * w_2) + hg (3 * w_2 + 1) + hg (3 * w_2 + 2) := by show 0 + hg (3 * w_2 + 0) + hg (3 * w_2 + 1) + hg (3 * w_2 + 2) = _; rw [Nat.zero_add, Nat.add_zero]
    by_cases c47_1 : (kd w_2) = 1
    · refine ztopI (nI 1) (by rw [c47_1]) ?_
      refine lv_lookup (off := 25) (tgt := 72) hx hb dX5_tell_47 (by decide) (by decide) (by decide) ?_
      refine lv_aload_n hx hb dX5_tell_72 rfl (lv_at hl 1 rfl) ?_
      refine lv_iconst (v := (nI 2)) hx hb dX5_tell_73 (by decide) ?_
      have hPc : PP g (wM g y ya yb yc yd ye yf yg yh yi yj yk yl ft tr lane ml cel np sl kd hg ps rs rn rk rh lg fk gt tkn nr ru rl rm rd) _ := P_sub hP [0, 1, 2, 3, 4, 5, 6, 7, 8, 9, 10, 11, 12] rfl
      refine zcallMv (w := wM g y ya yb yc yd ye yf yg yh yi yj yk yl ft tr lane ml cel np sl kd hg ps rs rn rk rh lg fk gt tkn nr ru rl rm rd) (va_runV (As := [.int (nI 2)]) (rest := []) (b := y) S0 (c_X5_begins l g y ya yb yc yd ye yf yg yh yi yj yk yl ft tr lane ml cel np sl kd hg ps rs rn rk rh lg fk gt tkn nr ru rl rm rd 2) (cwV 1 hts gX5_tell_X5_begins rfl rfl rfl (by decide +kernel) ⟨by decide, by decide⟩) (zpreVM hK hP hD [0, 1, 2, 3, 4, 5, 6, 7, 8, 9, 10, 11, 12] rfl (by decide) (va_recv hK.1 hPc (ci := 5) (q0 := 0) rfl rfl)) rfl rfl hl.1 rfl (lv_room (Nat.le_of_ble_eq_true rfl)) dX5_tell_74 ⟨by decide, by decide⟩) hP hD hS [0, 1, 2, 3, 4, 5, 6, 7, 8, 9, 10, 11, 12] rfl (fun uu74 => wM g y ya yb yc yd ye yf yg yh yi yj yk yl ft (lv tr 2) lane ml cel np sl kd hg ps rs rn rk rh lg fk gt tkn nr ru rl rm rd) (fun _ => lz_wM.trans lz_wM.symm) (fun _ => rfl) (fun _ => ad_wM.trans ad_wM.symm) (fun uu74 H locs h74 hP hD hS => ?_)
      refine lv_aload_n hx hb dX5_tell_77 rfl (lv_at hl 1 rfl) ?_
      refine lv_iconst (v := (nI 1)) hx hb dX5_tell_78 (by decide) ?_
      have hPc : PP g (wM g y ya yb yc yd ye yf yg yh yi yj yk yl ft (lv tr 2) lane ml cel np sl kd hg ps rs rn rk rh lg fk gt tkn nr ru rl rm rd) _ := P_sub hP [0, 1, 2, 3, 4, 5, 6, 7, 8, 9, 10, 11, 12] rfl
      refine zcallMv (w := wM g y ya yb yc yd ye yf yg yh yi yj yk yl ft (lv tr 2) lane ml cel np sl kd hg ps rs rn rk rh lg fk gt tkn nr ru rl rm rd) (va_runV (As := [.int (nI 1)]) (rest := []) (b := y) S0 (c_X5_begins l g y ya yb yc yd ye yf yg yh yi yj yk yl ft (lv tr 2) lane ml cel np sl kd hg ps rs rn rk rh lg fk gt tkn nr ru rl rm rd 1) (cwV 1 hts gX5_tell_X5_begins rfl rfl rfl (by decide +kernel) ⟨by decide, by decide⟩) (zpreVM hK hP hD [0, 1, 2, 3, 4, 5, 6, 7, 8, 9, 10, 11, 12] rfl (by decide) (va_recv hK.1 hPc (ci := 5) (q0 := 0) rfl rfl)) rfl rfl hl.1 rfl (lv_room (Nat.le_of_ble_eq_true rfl)) dX5_tell_79 ⟨by decide, by decide⟩) hP hD hS [0, 1, 2, 3, 4, 5, 6, 7, 8, 9, 10, 11, 12] rfl (fun uu79 => wM g y ya yb yc yd ye yf yg yh yi yj yk yl ft (lv (lv tr 2) 1) lane ml cel np sl kd hg ps rs rn rk rh lg fk gt tkn nr ru rl rm rd) (fun _ => lz_wM.trans lz_wM.symm) (fun _ => rfl) (fun _ => ad_wM.trans ad_wM.symm) (fun uu79 H locs h79 hP hD hS => ?_)
      refine lv_iload_n hx hb dX5_tell_82 rfl (lv_at hl 0 rfl) ?_
      refine lv_bipush (v := (nI 100)) hx hb dX5_tell_83 (by decide) ?_
      refine n_iadd (a := (((hg (3 * w_2)) + (hg ((3 * w_2) + 1))) + (hg ((3 * w_2) + 2)))) (b := 100) hx hb dX5_tell_85 ?_
      exact zretMI (w1 := fun (uu : Unit) => wM g y ya yb yc yd ye yf yg yh yi yj yk yl ft (st_tell np kd tr (nI w_2)) lane ml cel np sl kd hg ps rs rn rk rh lg fk gt tkn nr ru rl rm rd) () hx hb hr hlocks hS rfl (by rw [sp_tell, if_pos (isP_of (by omega) hw_2), tN_nI (u := w_2) (by omega), if_neg (by omega), if_pos c47_1, ehs]) (by rw [st_tell, if_pos (isP_of (by omega) hw_2), tN_nI (u := w_2) (by omega), if_neg (by omega), if_pos c47_1]; exact hP) dX5_tell_86
    by_cases c47_2 : (kd w_2) = 2
    · refine ztopI (nI 2) (by rw [c47_2]) ?_
      refine lv_lookup (off := 40) (tgt := 87) hx hb dX5_tell_47 (by decide) (by decide) (by decide) ?_
      refine lv_aload_n hx hb dX5_tell_87 rfl (lv_at hl 1 rfl) ?_
      refine lv_iconst (v := (nI 3)) hx hb dX5_tell_88 (by decide) ?_
      have hPc : PP g (wM g y ya yb yc yd ye yf yg yh yi yj yk yl ft tr lane ml cel np sl kd hg ps rs rn rk rh lg fk gt tkn nr ru rl rm rd) _ := P_sub hP [0, 1, 2, 3, 4, 5, 6, 7, 8, 9, 10, 11, 12] rfl
      refine zcallMv (w := wM g y ya yb yc yd ye yf yg yh yi yj yk yl ft tr lane ml cel np sl kd hg ps rs rn rk rh lg fk gt tkn nr ru rl rm rd) (va_runV (As := [.int (nI 3)]) (rest := []) (b := y) S0 (c_X5_begins l g y ya yb yc yd ye yf yg yh yi yj yk yl ft tr lane ml cel np sl kd hg ps rs rn rk rh lg fk gt tkn nr ru rl rm rd 3) (cwV 1 hts gX5_tell_X5_begins rfl rfl rfl (by decide +kernel) ⟨by decide, by decide⟩) (zpreVM hK hP hD [0, 1, 2, 3, 4, 5, 6, 7, 8, 9, 10, 11, 12] rfl (by decide) (va_recv hK.1 hPc (ci := 5) (q0 := 0) rfl rfl)) rfl rfl hl.1 rfl (lv_room (Nat.le_of_ble_eq_true rfl)) dX5_tell_89 ⟨by decide, by decide⟩) hP hD hS [0, 1, 2, 3, 4, 5, 6, 7, 8, 9, 10, 11, 12] rfl (fun uu89 => wM g y ya yb yc yd ye yf yg yh yi yj yk yl ft (lv tr 3) lane ml cel np sl kd hg ps rs rn rk rh lg fk gt tkn nr ru rl rm rd) (fun _ => lz_wM.trans lz_wM.symm) (fun _ => rfl) (fun _ => ad_wM.trans ad_wM.symm) (fun uu89 H locs h89 hP hD hS => ?_)
      refine lv_aload_n hx hb dX5_tell_92 rfl (lv_at hl 1 rfl) ?_
      refine lv_iconst (v := (nI 2)) hx hb dX5_tell_93 (by decide) ?_
      have hPc : PP g (wM g y ya yb yc yd ye yf yg yh yi yj yk yl ft (lv tr 3) lane ml cel np sl kd hg ps rs rn rk rh lg fk gt tkn nr ru rl rm rd) _ := P_sub hP [0, 1, 2, 3, 4, 5, 6, 7, 8, 9, 10, 11, 12] rfl
      refine zcallMv (w := wM g y ya yb yc yd ye yf yg yh yi yj yk yl ft (lv tr 3) lane ml cel np sl kd hg ps rs rn rk rh lg fk gt tkn nr ru rl rm rd) (va_runV (As := [.int (nI 2)]) (rest := []) (b := y) S0 (c_X5_begins l g y ya yb yc yd ye yf yg yh yi yj yk yl ft (lv tr 3) lane ml cel np sl kd hg ps rs rn rk rh lg fk gt tkn nr ru rl rm rd 2) (cwV 1 hts gX5_tell_X5_begins rfl rfl rfl (by decide +kernel) ⟨by decide, by decide⟩) (zpreVM hK hP hD [0, 1, 2, 3, 4, 5, 6, 7, 8, 9, 10, 11, 12] rfl (by decide) (va_recv hK.1 hPc (ci := 5) (q0 := 0) rfl rfl)) rfl rfl hl.1 rfl (lv_room (Nat.le_of_ble_eq_true rfl)) dX5_tell_94 ⟨by decide, by decide⟩) hP hD hS [0, 1, 2, 3, 4, 5, 6, 7, 8, 9, 10, 11, 12] rfl (fun uu94 => wM g y ya yb yc yd ye yf yg yh yi yj yk yl ft (lv (lv tr 3) 2) lane ml cel np sl kd hg ps rs rn rk rh lg fk gt tkn nr ru rl rm rd) (fun _ => lz_wM.trans lz_wM.symm) (fun _ => rfl) (fun _ => ad_wM.trans ad_wM.symm) (fun uu94 H locs h94 hP hD hS => ?_)
      refine lv_aload_n hx hb dX5_tell_97 rfl (lv_at hl 1 rfl) ?_
      refine lv_iconst (v := (nI 1)) hx hb dX5_tell_98 (by decide) ?_
      have hPc : PP g (wM g y ya yb yc yd ye yf yg yh yi yj yk yl ft (lv (lv tr 3) 2) lane ml cel np sl kd hg ps rs rn rk rh lg fk gt tkn nr ru rl rm rd) _ := P_sub hP [0, 1, 2, 3, 4, 5, 6, 7, 8, 9, 10, 11, 12] rfl
      refine zcallMv (w := wM g y ya yb yc yd ye yf yg yh yi yj yk yl ft (lv (lv tr 3) 2) lane ml cel np sl kd hg ps rs rn rk rh lg fk gt tkn nr ru rl rm rd) (va_runV (As := [.int (nI 1)]) (rest := []) (b := y) S0 (c_X5_begins l g y ya yb yc yd ye yf yg yh yi yj yk yl ft (lv (lv tr 3) 2) lane ml cel np sl kd hg ps rs rn rk rh lg fk gt tkn nr ru rl rm rd 1) (cwV 1 hts gX5_tell_X5_begins rfl rfl rfl (by decide +kernel) ⟨by decide, by decide⟩) (zpreVM hK hP hD [0, 1, 2, 3, 4, 5, 6, 7, 8, 9, 10, 11, 12] rfl (by decide) (va_recv hK.1 hPc (ci := 5) (q0 := 0) rfl rfl)) rfl rfl hl.1 rfl (lv_room (Nat.le_of_ble_eq_true rfl)) dX5_tell_99 ⟨by decide, by decide⟩) hP hD hS [0, 1, 2, 3, 4, 5, 6, 7, 8, 9, 10, 11, 12] rfl (fun uu99 => wM g y ya yb yc yd ye yf yg yh yi yj yk yl ft (lv (lv (lv tr 3) 2) 1) lane ml cel np sl kd hg ps rs rn rk rh lg fk gt tkn nr ru rl rm rd) (fun _ => lz_wM.trans lz_wM.symm) (fun _ => rfl) (fun _ => ad_wM.trans ad_wM.symm) (fun uu99 H locs h99 hP hD hS => ?_)
      refine lv_aload_n hx hb dX5_tell_102 rfl (lv_at hl 1 rfl) ?_
      refine lv_iconst (v := (nI 1)) hx hb dX5_tell_103 (by decide) ?_
      have hPc : PP g (wM g y ya yb yc yd ye yf yg yh yi yj yk yl ft (lv (lv (lv tr 3) 2) 1) lane ml cel np sl kd hg ps rs rn rk rh lg fk gt tkn nr ru rl rm rd) _ := P_sub hP [0, 1, 2, 3, 4, 5, 6, 7, 8, 9, 10, 11, 12] rfl
      refine zcallMv (w := wM g y ya yb yc yd ye yf yg yh yi yj yk yl ft (lv (lv (lv tr 3) 2) 1) lane ml cel np sl kd hg ps rs rn rk rh lg fk gt tkn nr ru rl rm rd) (va_runV (As := [.int (nI 1)]) (rest := []) (b := y) S0 (c_X5_begins l g y ya yb yc yd ye yf yg yh yi yj yk yl ft (lv (lv (lv tr 3) 2) 1) lane ml cel np sl kd hg ps rs rn rk rh lg fk gt tkn nr ru rl rm rd 1) (cwV 1 hts gX5_tell_X5_begins rfl rfl rfl (by decide +kernel) ⟨by decide, by decide⟩) (zpreVM hK hP hD [0, 1, 2, 3, 4, 5, 6, 7, 8, 9, 10, 11, 12] rfl (by decide) (va_recv hK.1 hPc (ci := 5) (q0 := 0) rfl rfl)) rfl rfl hl.1 rfl (lv_room (Nat.le_of_ble_eq_true rfl)) dX5_tell_104 ⟨by decide, by decide⟩) hP hD hS [0, 1, 2, 3, 4, 5, 6, 7, 8, 9, 10, 11, 12] rfl (fun uu104 => wM g y ya yb yc yd ye yf yg yh yi yj yk yl ft (lv (lv (lv (lv tr 3) 2) 1) 1) lane ml cel np sl kd hg ps rs rn rk rh lg fk gt tkn nr ru rl rm rd) (fun _ => lz_wM.trans lz_wM.symm) (fun _ => rfl) (fun _ => ad_wM.trans ad_wM.symm) (fun uu104 H locs h104 hP hD hS => ?_)
      refine lv_iconst (v := (nI 2)) hx hb dX5_tell_107 (by decide) ?_
      refine lv_iload_n hx hb dX5_tell_108 rfl (lv_at hl 0 rfl) ?_
      refine n_imul (a := 2) (b := (((hg (3 * w_2)) + (hg ((3 * w_2) + 1))) + (hg ((3 * w_2) + 2)))) hx hb dX5_tell_109 ?_
      refine lv_bipush (v := (nI 100)) hx hb dX5_tell_110 (by decide) ?_
      refine n_iadd (a := (2 * (((hg (3 * w_2)) + (hg ((3 * w_2) + 1))) + (hg ((3 * w_2) + 2))))) (b := 100) hx hb dX5_tell_112 ?_
      exact zretMI (w1 := fun (uu : Unit) => wM g y ya yb yc yd ye yf yg yh yi yj yk yl ft (st_tell np kd tr (nI w_2)) lane ml cel np sl kd hg ps rs rn rk rh lg fk gt tkn nr ru rl rm rd) () hx hb hr hlocks hS rfl (by rw [sp_tell, if_pos (isP_of (by omega) hw_2), tN_nI (u := w_2) (by omega), if_pos c47_2, ehs]) (by rw [st_tell, if_pos (isP_of (by omega) hw_2), tN_nI (u := w_2) (by omega), if_pos c47_2]; exact hP) dX5_tell_113
    refine lv_lookup (off := 67) (tgt := 114) hx hb dX5_tell_47 (by decide) (by rw [lv_osw (k := nI 1) (nI_neI (by omega) (by decide) c47_1) (by decide)]; rw [lv_osw (k := nI 2) (nI_neI (by omega) (by decide) c47_2) (by decide)]; rfl) (by decide) ?_
    refine lv_aload_n hx hb dX5_tell_114 rfl (lv_at hl 1 rfl) ?_
    refine lv_iconst (v := (nI 1)) hx hb dX5_tell_115 (by decide) ?_
    have hPc : PP g (wM g y ya yb yc yd ye yf yg yh yi yj yk yl ft tr lane ml cel np sl kd hg ps rs rn rk rh lg fk gt tkn nr ru rl rm rd) _ := P_sub hP [0, 1, 2, 3, 4, 5, 6, 7, 8, 9, 10, 11, 12] rfl
    refine zcallMv (w := wM g y ya yb yc yd ye yf yg yh yi yj yk yl ft tr lane ml cel np sl kd hg ps rs rn rk rh lg fk gt tkn nr ru rl rm rd) (va_runV (As := [.int (nI 1)]) (rest := []) (b := y) S0 (c_X5_begins l g y ya yb yc yd ye yf yg yh yi yj yk yl ft tr lane ml cel np sl kd hg ps rs rn rk rh lg fk gt tkn nr ru rl rm rd 1) (cwV 1 hts gX5_tell_X5_begins rfl rfl rfl (by decide +kernel) ⟨by decide, by decide⟩) (zpreVM hK hP hD [0, 1, 2, 3, 4, 5, 6, 7, 8, 9, 10, 11, 12] rfl (by decide) (va_recv hK.1 hPc (ci := 5) (q0 := 0) rfl rfl)) rfl rfl hl.1 rfl (lv_room (Nat.le_of_ble_eq_true rfl)) dX5_tell_116 ⟨by decide, by decide⟩) hP hD hS [0, 1, 2, 3, 4, 5, 6, 7, 8, 9, 10, 11, 12] rfl (fun uu116 => wM g y ya yb yc yd ye yf yg yh yi yj yk yl ft (lv tr 1) lane ml cel np sl kd hg ps rs rn rk rh lg fk gt tkn nr ru rl rm rd) (fun _ => lz_wM.trans lz_wM.symm) (fun _ => rfl) (fun _ => ad_wM.trans ad_wM.symm) (fun uu116 H locs h116 hP hD hS => ?_)
    refine lv_iload_n hx hb dX5_tell_119 rfl (lv_at hl 0 rfl) ?_
    exact zretMI (w1 := fun (uu : Unit) => wM g y ya yb yc yd ye yf yg yh yi yj yk yl ft (st_tell np kd tr (nI w_2)) lane ml cel np sl kd hg ps rs rn rk rh lg fk gt tkn nr ru rl rm rd) () hx hb hr hlocks hS rfl (by rw [sp_tell, if_pos (isP_of (by omega) hw_2), tN_nI (u := w_2) (by omega), if_neg c47_2, if_neg c47_1, ehs]) (by rw [st_tell, if_pos (isP_of (by omega) hw_2), tN_nI (u := w_2) (by omega), if_neg c47_2, if_neg c47_1]; exact hP) dX5_tell_120
  · refine lv_if_ne (tgt := 10) hx hb dX5_tell_5 (by decide) (fun c5 => ?_) (fun c5 => ?_)
    · exact absurd c5 (by decide)
    refine lv_iconst (v := (-1)) hx hb dX5_tell_8 (by decide) ?_
    exact zretMI (w1 := fun (uu : Unit) => wM g y ya yb yc yd ye yf yg yh yi yj yk yl ft (st_tell np kd tr p) lane ml cel np sl kd hg ps rs rn rk rh lg fk gt tkn nr ru rl rm rd) () hx hb hr hlocks hS rfl (by rw [sp_tell, if_neg hn_2]) (by rw [st_tell, if_neg hn_2]; exact hP) dX5_tell_9

set_option maxHeartbeats 4000000 in
set_option maxRecDepth 100000 in
theorem c_X5_seal (l : Launch) (g : Gx) (y : Nat) (ya : Nat) (yb : Nat) (yc : Nat) (yd : Nat) (ye : Nat) (yf : Nat) (yg : Nat) (yh : Nat) (yi : Nat) (yj : Nat) (yk : Nat) (yl : Nat) (ft : Nat) (tr : Int32) (lane : Nat → Nat) (ml : Nat → Nat) (cel : Nat → Nat → Int32) (np : Nat) (sl : Nat) (kd : Nat → Nat) (hg : Nat → Nat) (ps : Nat) (rs : Int32) (rn : Nat) (rk : Nat → Int32) (rh : Nat → Int32) (lg : Int32) (fk : Int32) (gt : Int32) (tkn : Nat → Int32) (nr : Nat) (ru : Nat → Nat) (rl : Nat → Nat) (rm : Nat → Nat) (rd : Nat → Nat) (p : Int32) (hG : Gd np sl kd hg nr ru rl rm rd lane ml) : Met l yX5_seal wsX5_seal ({ frames := 1, cells := 0, slots := 0, locals := 21 } : Room) (PcM g [.ref y, .int p] (wM g y ya yb yc yd ye yf yg yh yi yj yk yl ft tr lane ml cel np sl kd hg ps rs rn rk rh lg fk gt tkn nr ru rl rm rd)) (va_Qi (fun (r : Int32) (uu : Unit) => r = sp_seal np kd p) (fun (uu : Unit) t => PP g (wM g y ya yb yc yd ye yf yg yh yi yj yk yl ft (st_seal np kd tr p) lane ml cel np sl kd hg ps rs rn rk rh lg fk gt tkn nr ru rl rm rd) t.heap) (inW (wM g y ya yb yc yd ye yf yg yh yi yj yk yl ft tr lane ml cel np sl kd hg ps rs rn rk rh lg fk gt tkn nr ru rl rm rd))) 0 0 (inW (wM g y ya yb yc yd ye yf yg yh yi yj yk yl ft tr lane ml cel np sl kd hg ps rs rn rk rh lg fk gt tkn nr ru rl rm rd)) := by
  refine zenterM (cc := cX5_seal) (maxL := 2) (ret := (some .int)) (by decide) rfl (Nat.le_of_ble_eq_true rfl) ?_
  intro P E s mt below meth cd ls hx hb hml hown hts hr hlocks hP hK hD hS hl
  skip
  have hl : lv_has ls 2 [(0, .ref y), (1, .int p)] := hl
  have S0 : CallFix P mt cd cX5_seal 2 s [.ref y, .int p].toArray wsX5_seal RX5 := ⟨hx, hb, hml, hown, hts⟩
  obtain ⟨hnp, hsl, hkd, hhg, hnr, hru, hrl, hrm, hrd, hla, hmz⟩ := hG
  refine lv_aload_n hx hb dX5_seal_0 rfl (lv_at hl 0 rfl) ?_
  refine lv_iload_n hx hb dX5_seal_1 rfl (lv_at hl 1 rfl) ?_
  have hPc : PP g (wM g y ya yb yc yd ye yf yg yh yi yj yk yl ft tr lane ml cel np sl kd hg ps rs rn rk rh lg fk gt tkn nr ru rl rm rd) _ := hP
  refine zcallR (va_runV (As := [.int p]) (rest := []) (b := y) S0 (c_X5_isPass l g y ya yb yc yd ye yf yg yh yi yj yk yl ft tr lane ml cel np sl kd hg ps rs rn rk rh lg fk gt tkn nr ru rl rm rd p hnp) (cwV 1 hts gX5_seal_X5_isPass rfl rfl rfl (by decide +kernel) ⟨by decide, by decide⟩) (zpreV hK hPc (va_recv hK.1 hPc (ci := 5) (q0 := 0) rfl rfl)) rfl rfl hl.1 rfl (lv_room (Nat.le_of_ble_eq_true rfl)) dX5_seal_2 ⟨by decide, by decide⟩) (fun r2 h2 => ?_)
  rcases h2 with ⟨w_2, hw_2, hv_2, rfl⟩ | ⟨hn_2, rfl⟩
  · subst hv_2
    refine lv_if_ne (tgt := 10) hx hb dX5_seal_5 (by decide) (fun c5 => ?_) (fun c5 => ?_)
    rotate_left
    · exact absurd c5 (by decide)
    refine lv_aload_n hx hb dX5_seal_10 rfl (lv_at hl 0 rfl) ?_
    refine lv_aload_n hx hb dX5_seal_11 rfl (lv_at hl 0 rfl) ?_
    refine va_get (D := g.1) (ci := 5) (v := .ref yd) (C := RX5) (T := TX5) (N := 23) hx hb hts (fun _ h => (List.mem_cons_of_mem _ (List.mem_append_right _ h))) hown hK.1 hP 0 rfl rfl 7 (by decide) (hts _ (List.mem_of_getElem? (i := 1) rfl)) (fun _ h9 => h9) rfl dX5_seal_12 ?_
    refine lv_iload_n hx hb dX5_seal_15 rfl (lv_at hl 1 rfl) ?_
    refine n_iald (i := w_2) (v := (nI (kd w_2))) hx hb hK.1 hP 4 0 rfl rfl (by omega) (by decide) rfl dX5_seal_16 ?_
    have hk5 := hkd w_2
    refine lv_iconst (v := (nI 2)) hx hb dX5_seal_17 (by decide) ?_
    refine n_icmp_ne (a := (kd w_2)) (b := 2) (tgt := 25) hx hb (by omega) (by omega) dX5_seal_18 (by decide) (fun c18 => ?_) (fun c18 => ?_)
    · refine lv_iconst (v := (nI 4)) hx hb dX5_seal_25 (by decide) ?_
      have hPc : PP g (wM g y ya yb yc yd ye yf yg yh yi yj yk yl ft tr lane ml cel np sl kd hg ps rs rn rk rh lg fk gt tkn nr ru rl rm rd) _ := P_sub hP [0, 1, 2, 3, 4, 5, 6, 7, 8, 9, 10, 11, 12] rfl
      refine zcallMv (w := wM g y ya yb yc yd ye yf yg yh yi yj yk yl ft tr lane ml cel np sl kd hg ps rs rn rk rh lg fk gt tkn nr ru rl rm rd) (va_runV (As := [.int (nI 4)]) (rest := []) (b := y) S0 (c_X5_begins l g y ya yb yc yd ye yf yg yh yi yj yk yl ft tr lane ml cel np sl kd hg ps rs rn rk rh lg fk gt tkn nr ru rl rm rd 4) (cwV 1 hts gX5_seal_X5_begins rfl rfl rfl (by decide +kernel) ⟨by decide, by decide⟩) (zpreVM hK hP hD [0, 1, 2, 3, 4, 5, 6, 7, 8, 9, 10, 11, 12] rfl (by decide) (va_recv hK.1 hPc (ci := 5) (q0 := 0) rfl rfl)) rfl rfl hl.1 rfl (lv_room (Nat.le_of_ble_eq_true rfl)) dX5_seal_26 ⟨by decide, by decide⟩) hP hD hS [0, 1, 2, 3, 4, 5, 6, 7, 8, 9, 10, 11, 12] rfl (fun uu26 => wM g y ya yb yc yd ye yf yg yh yi yj yk yl ft (lv tr 4) lane ml cel np sl kd hg ps rs rn rk rh lg fk gt tkn nr ru rl rm rd) (fun _ => lz_wM.trans lz_wM.symm) (fun _ => rfl) (fun _ => ad_wM.trans ad_wM.symm) (fun uu26 H locs h26 hP hD hS => ?_)
      refine lv_aload_n hx hb dX5_seal_29 rfl (lv_at hl 0 rfl) ?_
      refine va_get (D := g.1) (ci := 5) (v := .ref yd) (C := RX5) (T := TX5) (N := 23) hx hb hts (fun _ h => (List.mem_cons_of_mem _ (List.mem_append_right _ h))) hown hK.1 hP 0 rfl rfl 7 (by decide) (hts _ (List.mem_of_getElem? (i := 1) rfl)) (fun _ h9 => h9) rfl dX5_seal_30 ?_
      refine lv_iload_n hx hb dX5_seal_33 rfl (lv_at hl 1 rfl) ?_
      refine n_iald (i := w_2) (v := (nI (kd w_2))) hx hb hK.1 hP 4 0 rfl rfl (by omega) (by decide) rfl dX5_seal_34 ?_
      refine lv_iconst (v := (nI 2)) hx hb dX5_seal_35 (by decide) ?_
      refine n_icmp_ne (a := (kd w_2)) (b := 2) (tgt := 44) hx hb (by omega) (by omega) dX5_seal_36 (by decide) (fun c36 => ?_) (fun c36 => ?_)
      · refine lv_iload_n hx hb dX5_seal_44 rfl (lv_at hl 1 rfl) ?_
        exact zretMI (w1 := fun (uu : Unit) => wM g y ya yb yc yd ye yf yg yh yi yj yk yl ft (st_seal np kd tr (nI w_2)) lane ml cel np sl kd hg ps rs rn rk rh lg fk gt tkn nr ru rl rm rd) () hx hb hr hlocks hS rfl (by rw [sp_seal, if_pos (isP_of (by omega) hw_2), tN_nI (u := w_2) (by omega), if_neg c18]) (by rw [st_seal, if_pos (isP_of (by omega) hw_2), tN_nI (u := w_2) (by omega), if_neg c18]; exact hP) dX5_seal_45
      · exact absurd c36 c18
    · refine lv_iconst (v := (nI 5)) hx hb dX5_seal_21 (by decide) ?_
      refine lv_goto (tgt := 26) hx hb dX5_seal_22 (by decide) ?_
      have hPc : PP g (wM g y ya yb yc yd ye yf yg yh yi yj yk yl ft tr lane ml cel np sl kd hg ps rs rn rk rh lg fk gt tkn nr ru rl rm rd) _ := P_sub hP [0, 1, 2, 3, 4, 5, 6, 7, 8, 9, 10, 11, 12] rfl
      refine zcallMv (w := wM g y ya yb yc yd ye yf yg yh yi yj yk yl ft tr lane ml cel np sl kd hg ps rs rn rk rh lg fk gt tkn nr ru rl rm rd) (va_runV (As := [.int (nI 5)]) (rest := []) (b := y) S0 (c_X5_begins l g y ya yb yc yd ye yf yg yh yi yj yk yl ft tr lane ml cel np sl kd hg ps rs rn rk rh lg fk gt tkn nr ru rl rm rd 5) (cwV 1 hts gX5_seal_X5_begins rfl rfl rfl (by decide +kernel) ⟨by decide, by decide⟩) (zpreVM hK hP hD [0, 1, 2, 3, 4, 5, 6, 7, 8, 9, 10, 11, 12] rfl (by decide) (va_recv hK.1 hPc (ci := 5) (q0 := 0) rfl rfl)) rfl rfl hl.1 rfl (lv_room (Nat.le_of_ble_eq_true rfl)) dX5_seal_26 ⟨by decide, by decide⟩) hP hD hS [0, 1, 2, 3, 4, 5, 6, 7, 8, 9, 10, 11, 12] rfl (fun uu26 => wM g y ya yb yc yd ye yf yg yh yi yj yk yl ft (lv tr 5) lane ml cel np sl kd hg ps rs rn rk rh lg fk gt tkn nr ru rl rm rd) (fun _ => lz_wM.trans lz_wM.symm) (fun _ => rfl) (fun _ => ad_wM.trans ad_wM.symm) (fun uu26 H locs h26 hP hD hS => ?_)
      refine lv_aload_n hx hb dX5_seal_29 rfl (lv_at hl 0 rfl) ?_
      refine va_get (D := g.1) (ci := 5) (v := .ref yd) (C := RX5) (T := TX5) (N := 23) hx hb hts (fun _ h => (List.mem_cons_of_mem _ (List.mem_append_right _ h))) hown hK.1 hP 0 rfl rfl 7 (by decide) (hts _ (List.mem_of_getElem? (i := 1) rfl)) (fun _ h9 => h9) rfl dX5_seal_30 ?_
      refine lv_iload_n hx hb dX5_seal_33 rfl (lv_at hl 1 rfl) ?_
      refine n_iald (i := w_2) (v := (nI (kd w_2))) hx hb hK.1 hP 4 0 rfl rfl (by omega) (by decide) rfl dX5_seal_34 ?_
      refine lv_iconst (v := (nI 2)) hx hb dX5_seal_35 (by decide) ?_
      refine n_icmp_ne (a := (kd w_2)) (b := 2) (tgt := 44) hx hb (by omega) (by omega) dX5_seal_36 (by decide) (fun c36 => ?_) (fun c36 => ?_)
      · exact absurd c18 c36
      · refine lv_bipush (v := (nI 70)) hx hb dX5_seal_39 (by decide) ?_
        refine lv_goto (tgt := 45) hx hb dX5_seal_41 (by decide) ?_
        exact zretMI (w1 := fun (uu : Unit) => wM g y ya yb yc yd ye yf yg yh yi yj yk yl ft (st_seal np kd tr (nI w_2)) lane ml cel np sl kd hg ps rs rn rk rh lg fk gt tkn nr ru rl rm rd) () hx hb hr hlocks hS rfl (by rw [sp_seal, if_pos (isP_of (by omega) hw_2), tN_nI (u := w_2) (by omega), if_pos c18]) (by rw [st_seal, if_pos (isP_of (by omega) hw_2), tN_nI (u := w_2) (by omega), if_pos c18]; exact hP) dX5_seal_45
  · refine lv_if_ne (tgt := 10) hx hb dX5_seal_5 (by decide) (fun c5 => ?_) (fun c5 => ?_)
    · exact absurd c5 (by decide)
    refine lv_iconst (v := (-1)) hx hb dX5_seal_8 (by decide) ?_
    exact zretMI (w1 := fun (uu : Unit) => wM g y ya yb yc yd ye yf yg yh yi yj yk yl ft (st_seal np kd tr p) lane ml cel np sl kd hg ps rs rn rk rh lg fk gt tkn nr ru rl rm rd) () hx hb hr hlocks hS rfl (by rw [sp_seal, if_neg hn_2]) (by rw [st_seal, if_neg hn_2]; exact hP) dX5_seal_9

set_option maxHeartbeats 4000000 in
set_option maxRecDepth 100000 in
theorem c_X5_as (l : Launch) (g : Gx) (y : Nat) (ya : Nat) (yb : Nat) (yc : Nat) (yd : Nat) (ye : Nat) (yf : Nat) (yg : Nat) (yh : Nat) (yi : Nat) (yj : Nat) (yk : Nat) (yl : Nat) (ft : Nat) (tr : Int32) (lane : Nat → Nat) (ml : Nat → Nat) (cel : Nat → Nat → Int32) (np : Nat) (sl : Nat) (kd : Nat → Nat) (hg : Nat → Nat) (ps : Nat) (rs : Int32) (rn : Nat) (rk : Nat → Int32) (rh : Nat → Int32) (lg : Int32) (fk : Int32) (gt : Int32) (tkn : Nat → Int32) (nr : Nat) (ru : Nat → Nat) (rl : Nat → Nat) (rm : Nat → Nat) (rd : Nat → Nat) (p : Int32) (k : Int32) (hG : Gd np sl kd hg nr ru rl rm rd lane ml) : Met l yX5_as wsX5_as ({ frames := 1, cells := 0, slots := 0, locals := 22 } : Room) (PcM g [.ref y, .int p, .int k] (wM g y ya yb yc yd ye yf yg yh yi yj yk yl ft tr lane ml cel np sl kd hg ps rs rn rk rh lg fk gt tkn nr ru rl rm rd)) (va_Qi (fun (r : Int32) (uu : Unit) => r = sp_as np kd p k) (fun (uu : Unit) t => PP g (wM g y ya yb yc yd ye yf yg yh yi yj yk yl (ft_as np kd p k) tr lane ml cel np sl kd hg ps rs rn rk rh lg fk gt tkn nr ru rl rm rd) t.heap) (inW (wM g y ya yb yc yd ye yf yg yh yi yj yk yl ft tr lane ml cel np sl kd hg ps rs rn rk rh lg fk gt tkn nr ru rl rm rd))) 0 0 (inW (wM g y ya yb yc yd ye yf yg yh yi yj yk yl ft tr lane ml cel np sl kd hg ps rs rn rk rh lg fk gt tkn nr ru rl rm rd)) := by
  refine zenterM (cc := cX5_as) (maxL := 3) (ret := (some .int)) (by decide) rfl (Nat.le_of_ble_eq_true rfl) ?_
  intro P E s mt below meth cd ls hx hb hml hown hts hr hlocks hP hK hD hS hl
  skip
  have hl : lv_has ls 3 [(0, .ref y), (1, .int p), (2, .int k)] := hl
  have S0 : CallFix P mt cd cX5_as 3 s [.ref y, .int p, .int k].toArray wsX5_as RX5 := ⟨hx, hb, hml, hown, hts⟩
  obtain ⟨hnp, hsl, hkd, hhg, hnr, hru, hrl, hrm, hrd, hla, hmz⟩ := hG
  refine lv_aload_n hx hb dX5_as_0 rfl (lv_at hl 0 rfl) ?_
  refine lv_iconst (v := (nI 0)) hx hb dX5_as_1 (by decide) ?_
  refine n_put (D := g.1) (ci := 5) (v := .int (nI 0)) (ty := .int) (C := RX5) (T := TX5) (N := 23) (ws1 := wM g y ya yb yc yd ye yf yg yh yi yj yk yl 0 tr lane ml cel np sl kd hg ps rs rn rk rh lg fk gt tkn nr ru rl rm rd) hx hb hts (fun _ h => (List.mem_cons_of_mem _ (List.mem_append_right _ h))) tyX5 tyX5_ok nmX5 hown hK.1 hP hD hS 0 rfl rfl 0 (by decide) (hts _ (List.mem_of_getElem? (i := 1) rfl)) (fun _ h9 => h9) rfl (by decide +kernel) rfl rfl (Nat.le_of_ble_eq_true rfl) rfl dX5_as_2 (fun H locs hP hD hS => ?_)
  refine lv_aload_n hx hb dX5_as_5 rfl (lv_at hl 0 rfl) ?_
  refine lv_iload_n hx hb dX5_as_6 rfl (lv_at hl 1 rfl) ?_
  have hPc : PP g (wM g y ya yb yc yd ye yf yg yh yi yj yk yl 0 tr lane ml cel np sl kd hg ps rs rn rk rh lg fk gt tkn nr ru rl rm rd) _ := hP
  refine zcallR (va_runV (As := [.int p]) (rest := []) (b := y) S0 (c_X5_isPass l g y ya yb yc yd ye yf yg yh yi yj yk yl 0 tr lane ml cel np sl kd hg ps rs rn rk rh lg fk gt tkn nr ru rl rm rd p hnp) (cwV 1 hts gX5_as_X5_isPass rfl rfl rfl (by decide +kernel) ⟨by decide, by decide⟩) (zpreV hK hPc (va_recv hK.1 hPc (ci := 5) (q0 := 0) rfl rfl)) rfl rfl hl.1 rfl (lv_room (Nat.le_of_ble_eq_true rfl)) dX5_as_7 ⟨by decide, by decide⟩) (fun r7 h7 => ?_)
  rcases h7 with ⟨w_7, hw_7, hv_7, rfl⟩ | ⟨hn_7, rfl⟩
  · subst hv_7
    refine lv_if_ne (tgt := 15) hx hb dX5_as_10 (by decide) (fun c10 => ?_) (fun c10 => ?_)
    rotate_left
    · exact absurd c10 (by decide)
    refine lv_iload_n hx hb dX5_as_15 rfl (lv_at hl 2 rfl) ?_
    refine lv_iconst (v := (nI 0)) hx hb dX5_as_16 (by decide) ?_
    refine lv_iconst (v := (nI 2)) hx hb dX5_as_17 (by decide) ?_
    refine zcallR (va_runS (As := [.int k, .int (nI 0), .int (nI 2)]) (rest := []) S0 (c_X5_within_r0 l g k 2 (by omega)) (va_cwS 3 hts gX5_as_X5_within rfl rfl rfl (by decide +kernel) ⟨by decide, by decide⟩) (zpreS hK (P_nil _)) rfl rfl hl.1 rfl (lv_room (Nat.le_of_ble_eq_true rfl)) dX5_as_18 ⟨by decide, by decide⟩) (fun r18 h18 => ?_)
    rcases h18 with ⟨w_18, hw_18, hv_18, rfl⟩ | ⟨hn_18, rfl⟩
    · subst hv_18
      refine lv_if_ne (tgt := 27) hx hb dX5_as_21 (by decide) (fun c21 => ?_) (fun c21 => ?_)
      rotate_left
      · exact absurd c21 (by decide)
      refine lv_aload_n hx hb dX5_as_27 rfl (lv_at hl 0 rfl) ?_
      refine va_get (D := g.1) (ci := 5) (v := .ref yd) (C := RX5) (T := TX5) (N := 23) hx hb hts (fun _ h => (List.mem_cons_of_mem _ (List.mem_append_right _ h))) hown hK.1 hP 0 rfl rfl 7 (by decide) (hts _ (List.mem_of_getElem? (i := 2) rfl)) (fun _ h9 => h9) rfl dX5_as_28 ?_
      refine lv_iload_n hx hb dX5_as_31 rfl (lv_at hl 1 rfl) ?_
      refine n_iald (i := w_7) (v := (nI (kd w_7))) hx hb hK.1 hP 4 0 rfl rfl (by omega) (by decide) rfl dX5_as_32 ?_
      have hk5 := hkd w_7
      refine lv_iload_n hx hb dX5_as_33 rfl (lv_at hl 2 rfl) ?_
      refine n_icmp_lt (a := (kd w_7)) (b := w_18) (tgt := 41) hx hb (by omega) (by omega) dX5_as_34 (by decide) (fun c34 => ?_) (fun c34 => ?_)
      · refine lv_aload_n hx hb dX5_as_41 rfl (lv_at hl 0 rfl) ?_
        refine lv_iconst (v := (nI 2)) hx hb dX5_as_42 (by decide) ?_
        have hPc : PP g (wM g y ya yb yc yd ye yf yg yh yi yj yk yl 0 tr lane ml cel np sl kd hg ps rs rn rk rh lg fk gt tkn nr ru rl rm rd) _ := P_sub hP [0, 1, 2, 3, 4, 5, 6, 7, 8, 9, 10, 11, 12] rfl
        refine zcallM (w := wM g y ya yb yc yd ye yf yg yh yi yj yk yl 0 tr lane ml cel np sl kd hg ps rs rn rk rh lg fk gt tkn nr ru rl rm rd) (va_runV (As := [.int (nI 2)]) (rest := []) (b := y) S0 (c_X5_fails l g y ya yb yc yd ye yf yg yh yi yj yk yl 0 tr lane ml cel np sl kd hg ps rs rn rk rh lg fk gt tkn nr ru rl rm rd 2) (cwV 1 hts gX5_as_X5_fails rfl rfl rfl (by decide +kernel) ⟨by decide, by decide⟩) (zpreVM hK hP hD [0, 1, 2, 3, 4, 5, 6, 7, 8, 9, 10, 11, 12] rfl (by decide) (va_recv hK.1 hPc (ci := 5) (q0 := 0) rfl rfl)) rfl rfl hl.1 rfl (lv_room (Nat.le_of_ble_eq_true rfl)) dX5_as_43 ⟨by decide, by decide⟩) hP hD hS [0, 1, 2, 3, 4, 5, 6, 7, 8, 9, 10, 11, 12] rfl (fun uu43 => wM g y ya yb yc yd ye yf yg yh yi yj yk yl 2 tr lane ml cel np sl kd hg ps rs rn rk rh lg fk gt tkn nr ru rl rm rd) (fun _ => lz_wM.trans lz_wM.symm) (fun _ => rfl) (fun _ => ad_wM.trans ad_wM.symm) (fun r43 uu43 H locs h43 hP hD hS => ?_)
        subst h43
        exact zretMI (w1 := fun (uu : Unit) => wM g y ya yb yc yd ye yf yg yh yi yj yk yl (ft_as np kd (nI w_7) (nI w_18)) tr lane ml cel np sl kd hg ps rs rn rk rh lg fk gt tkn nr ru rl rm rd) () hx hb hr hlocks hS rfl (by rw [sp_as, if_pos (isP_of (by omega) hw_7), if_pos (isP_of (by omega) hw_18), tN_nI (u := w_7) (by omega), tN_nI (u := w_18) (by omega), if_neg (by omega)]) (by rw [ft_as, if_pos (isP_of (by omega) hw_7), if_pos (isP_of (by omega) hw_18), tN_nI (u := w_7) (by omega), tN_nI (u := w_18) (by omega), if_neg (by omega)]; exact hP) dX5_as_46
      · refine lv_iconst (v := (nI 1)) hx hb dX5_as_37 (by decide) ?_
        refine lv_goto (tgt := 46) hx hb dX5_as_38 (by decide) ?_
        exact zretMI (w1 := fun (uu : Unit) => wM g y ya yb yc yd ye yf yg yh yi yj yk yl (ft_as np kd (nI w_7) (nI w_18)) tr lane ml cel np sl kd hg ps rs rn rk rh lg fk gt tkn nr ru rl rm rd) () hx hb hr hlocks hS rfl (by rw [sp_as, if_pos (isP_of (by omega) hw_7), if_pos (isP_of (by omega) hw_18), tN_nI (u := w_7) (by omega), tN_nI (u := w_18) (by omega), if_pos c34]) (by rw [ft_as, if_pos (isP_of (by omega) hw_7), if_pos (isP_of (by omega) hw_18), tN_nI (u := w_7) (by omega), tN_nI (u := w_18) (by omega), if_pos c34]; exact hP) dX5_as_46
    · refine lv_if_ne (tgt := 27) hx hb dX5_as_21 (by decide) (fun c21 => ?_) (fun c21 => ?_)
      · exact absurd c21 (by decide)
      refine lv_bipush (v := (-2)) hx hb dX5_as_24 (by decide) ?_
      exact zretMI (w1 := fun (uu : Unit) => wM g y ya yb yc yd ye yf yg yh yi yj yk yl (ft_as np kd (nI w_7) k) tr lane ml cel np sl kd hg ps rs rn rk rh lg fk gt tkn nr ru rl rm rd) () hx hb hr hlocks hS rfl (by rw [sp_as, if_pos (isP_of (by omega) hw_7), if_neg hn_18]) (by rw [ft_as, if_pos (isP_of (by omega) hw_7), if_neg hn_18]; exact hP) dX5_as_26
  · refine lv_if_ne (tgt := 15) hx hb dX5_as_10 (by decide) (fun c10 => ?_) (fun c10 => ?_)
    · exact absurd c10 (by decide)
    refine lv_iconst (v := (-1)) hx hb dX5_as_13 (by decide) ?_
    exact zretMI (w1 := fun (uu : Unit) => wM g y ya yb yc yd ye yf yg yh yi yj yk yl (ft_as np kd p k) tr lane ml cel np sl kd hg ps rs rn rk rh lg fk gt tkn nr ru rl rm rd) () hx hb hr hlocks hS rfl (by rw [sp_as, if_neg hn_7]) (by rw [ft_as, if_neg hn_7]; exact hP) dX5_as_14

set_option maxHeartbeats 4000000 in
set_option maxRecDepth 100000 in
theorem c_X5_trace (l : Launch) (g : Gx) (y : Nat) (ya : Nat) (yb : Nat) (yc : Nat) (yd : Nat) (ye : Nat) (yf : Nat) (yg : Nat) (yh : Nat) (yi : Nat) (yj : Nat) (yk : Nat) (yl : Nat) (ft : Nat) (tr : Int32) (lane : Nat → Nat) (ml : Nat → Nat) (cel : Nat → Nat → Int32) (np : Nat) (sl : Nat) (kd : Nat → Nat) (hg : Nat → Nat) (ps : Nat) (rs : Int32) (rn : Nat) (rk : Nat → Int32) (rh : Nat → Int32) (lg : Int32) (fk : Int32) (gt : Int32) (tkn : Nat → Int32) (nr : Nat) (ru : Nat → Nat) (rl : Nat → Nat) (rm : Nat → Nat) (rd : Nat → Nat) : Met l yX5_trace wsX5_trace ({ frames := 0, cells := 0, slots := 0, locals := 0 } : Room) (PcR g [.ref y] (wM g y ya yb yc yd ye yf yg yh yi yj yk yl ft tr lane ml cel np sl kd hg ps rs rn rk rh lg fk gt tkn nr ru rl rm rd)) (vp_Si (fun r => r = tr)) 0 0 (fun _ => False) := by
  refine zenterR (cc := cX5_trace) (maxL := 1) (ret := (some .int)) (by decide) rfl (Nat.le_of_ble_eq_true rfl) ?_
  intro P E s mt below meth cd ls hx hb hml hown hts hr hlocks hP hK hl
  have hl : lv_has ls 1 [(0, .ref y)] := hl
  have S0 : CallFix P mt cd cX5_trace 1 s [.ref y].toArray wsX5_trace RX5 := ⟨hx, hb, hml, hown, hts⟩
  refine lv_aload_n hx hb dX5_trace_0 rfl (lv_at hl 0 rfl) ?_
  refine va_get (D := g.1) (ci := 5) (v := .int tr) (C := RX5) (T := TX5) (N := 23) hx hb hts (fun _ h => (List.mem_cons_of_mem _ (List.mem_append_right _ h))) hown hK.1 hP 0 rfl rfl 1 (by decide) (hts _ (List.mem_of_getElem? (i := 1) rfl)) (fun _ h9 => h9) rfl dX5_trace_1 ?_
  exact zretI hx hb hr hlocks rfl (by rfl) dX5_trace_4

set_option maxHeartbeats 4000000 in
set_option maxRecDepth 100000 in
theorem c_X5_fault (l : Launch) (g : Gx) (y : Nat) (ya : Nat) (yb : Nat) (yc : Nat) (yd : Nat) (ye : Nat) (yf : Nat) (yg : Nat) (yh : Nat) (yi : Nat) (yj : Nat) (yk : Nat) (yl : Nat) (ft : Nat) (tr : Int32) (lane : Nat → Nat) (ml : Nat → Nat) (cel : Nat → Nat → Int32) (np : Nat) (sl : Nat) (kd : Nat → Nat) (hg : Nat → Nat) (ps : Nat) (rs : Int32) (rn : Nat) (rk : Nat → Int32) (rh : Nat → Int32) (lg : Int32) (fk : Int32) (gt : Int32) (tkn : Nat → Int32) (nr : Nat) (ru : Nat → Nat) (rl : Nat → Nat) (rm : Nat → Nat) (rd : Nat → Nat) : Met l yX5_fault wsX5_fault ({ frames := 0, cells := 0, slots := 0, locals := 0 } : Room) (PcR g [.ref y] (wM g y ya yb yc yd ye yf yg yh yi yj yk yl ft tr lane ml cel np sl kd hg ps rs rn rk rh lg fk gt tkn nr ru rl rm rd)) (vp_Si (fun r => r = nI ft)) 0 0 (fun _ => False) := by
  refine zenterR (cc := cX5_fault) (maxL := 1) (ret := (some .int)) (by decide) rfl (Nat.le_of_ble_eq_true rfl) ?_
  intro P E s mt below meth cd ls hx hb hml hown hts hr hlocks hP hK hl
  have hl : lv_has ls 1 [(0, .ref y)] := hl
  have S0 : CallFix P mt cd cX5_fault 1 s [.ref y].toArray wsX5_fault RX5 := ⟨hx, hb, hml, hown, hts⟩
  refine lv_aload_n hx hb dX5_fault_0 rfl (lv_at hl 0 rfl) ?_
  refine va_get (D := g.1) (ci := 5) (v := .int (nI ft)) (C := RX5) (T := TX5) (N := 23) hx hb hts (fun _ h => (List.mem_cons_of_mem _ (List.mem_append_right _ h))) hown hK.1 hP 0 rfl rfl 0 (by decide) (hts _ (List.mem_of_getElem? (i := 1) rfl)) (fun _ h9 => h9) rfl dX5_fault_1 ?_
  exact zretI hx hb hr hlocks rfl (by rfl) dX5_fault_4

set_option maxHeartbeats 4000000 in
set_option maxRecDepth 100000 in
theorem c_X5_many (l : Launch) (g : Gx) (y : Nat) (ya : Nat) (yb : Nat) (yc : Nat) (yd : Nat) (ye : Nat) (yf : Nat) (yg : Nat) (yh : Nat) (yi : Nat) (yj : Nat) (yk : Nat) (yl : Nat) (ft : Nat) (tr : Int32) (lane : Nat → Nat) (ml : Nat → Nat) (cel : Nat → Nat → Int32) (np : Nat) (sl : Nat) (kd : Nat → Nat) (hg : Nat → Nat) (ps : Nat) (rs : Int32) (rn : Nat) (rk : Nat → Int32) (rh : Nat → Int32) (lg : Int32) (fk : Int32) (gt : Int32) (tkn : Nat → Int32) (nr : Nat) (ru : Nat → Nat) (rl : Nat → Nat) (rm : Nat → Nat) (rd : Nat → Nat) (w : Int32) : Met l yX5_many wsX5_many ({ frames := 0, cells := 0, slots := 0, locals := 0 } : Room) (PcR g [.ref y, .int w] (wM g y ya yb yc yd ye yf yg yh yi yj yk yl ft tr lane ml cel np sl kd hg ps rs rn rk rh lg fk gt tkn nr ru rl rm rd)) (vp_Si (fun r => r = sp_many np sl nr w)) 0 0 (fun _ => False) := by
  refine zenterR (cc := cX5_many) (maxL := 2) (ret := (some .int)) (by decide) rfl (Nat.le_of_ble_eq_true rfl) ?_
  intro P E s mt below meth cd ls hx hb hml hown hts hr hlocks hP hK hl
  have hl : lv_has ls 2 [(0, .ref y), (1, .int w)] := hl
  have S0 : CallFix P mt cd cX5_many 2 s [.ref y, .int w].toArray wsX5_many RX5 := ⟨hx, hb, hml, hown, hts⟩
  refine lv_iload_n hx hb dX5_many_0 rfl (lv_at hl 1 rfl) ?_
  refine lv_if_ne (tgt := 11) hx hb dX5_many_1 (by decide) (fun c1 => ?_) (fun c1 => ?_)
  · refine lv_iload_n hx hb dX5_many_11 rfl (lv_at hl 1 rfl) ?_
    refine lv_iconst (v := (nI 1)) hx hb dX5_many_12 (by decide) ?_
    refine lv_icmp_ne (tgt := 23) hx hb dX5_many_13 (by decide) (fun c13 => ?_) (fun c13 => ?_)
    · refine lv_iload_n hx hb dX5_many_23 rfl (lv_at hl 1 rfl) ?_
      refine lv_iconst (v := (nI 2)) hx hb dX5_many_24 (by decide) ?_
      refine lv_icmp_ne (tgt := 35) hx hb dX5_many_25 (by decide) (fun c25 => ?_) (fun c25 => ?_)
      · refine lv_bipush (v := (-2)) hx hb dX5_many_35 (by decide) ?_
        exact zretI hx hb hr hlocks rfl (by rw [sp_many, if_neg (by rw [nI_0]; exact c1), if_neg c13, if_neg c25]) dX5_many_37
      · refine lv_aload_n hx hb dX5_many_28 rfl (lv_at hl 0 rfl) ?_
        refine va_get (D := g.1) (ci := 5) (v := .int (nI nr)) (C := RX5) (T := TX5) (N := 23) hx hb hts (fun _ h => (List.mem_cons_of_mem _ (List.mem_append_right _ h))) hown hK.1 hP 0 rfl rfl 18 (by decide) (hts _ (List.mem_of_getElem? (i := 3) rfl)) (fun _ h9 => h9) rfl dX5_many_29 ?_
        refine lv_goto (tgt := 37) hx hb dX5_many_32 (by decide) ?_
        exact zretI hx hb hr hlocks rfl (by rw [sp_many, if_neg (by rw [nI_0]; exact c1), if_neg c13, if_pos c25]) dX5_many_37
    · refine lv_aload_n hx hb dX5_many_16 rfl (lv_at hl 0 rfl) ?_
      refine va_get (D := g.1) (ci := 5) (v := .int (nI sl)) (C := RX5) (T := TX5) (N := 23) hx hb hts (fun _ h => (List.mem_cons_of_mem _ (List.mem_append_right _ h))) hown hK.1 hP 0 rfl rfl 6 (by decide) (hts _ (List.mem_of_getElem? (i := 2) rfl)) (fun _ h9 => h9) rfl dX5_many_17 ?_
      refine lv_goto (tgt := 37) hx hb dX5_many_20 (by decide) ?_
      exact zretI hx hb hr hlocks rfl (by rw [sp_many, if_neg (by rw [nI_0]; exact c1), if_pos c13]) dX5_many_37
  · refine lv_aload_n hx hb dX5_many_4 rfl (lv_at hl 0 rfl) ?_
    refine va_get (D := g.1) (ci := 5) (v := .int (nI np)) (C := RX5) (T := TX5) (N := 23) hx hb hts (fun _ h => (List.mem_cons_of_mem _ (List.mem_append_right _ h))) hown hK.1 hP 0 rfl rfl 5 (by decide) (hts _ (List.mem_of_getElem? (i := 1) rfl)) (fun _ h9 => h9) rfl dX5_many_5 ?_
    refine lv_goto (tgt := 37) hx hb dX5_many_8 (by decide) ?_
    exact zretI hx hb hr hlocks rfl (by rw [sp_many, if_pos (by rw [nI_0]; exact c1)]) dX5_many_37
