set_option maxHeartbeats 4000000 in
set_option maxRecDepth 100000 in
theorem c_X5_tellVoyages (l : Launch) (g : Gx) (y : Nat) (ya : Nat) (yb : Nat) (yc : Nat) (yd : Nat) (ye : Nat) (yf : Nat) (yg : Nat) (yh : Nat) (yi : Nat) (yj : Nat) (yk : Nat) (yl : Nat) (ft : Nat) (tr : Int32) (lane : Nat → Nat) (ml : Nat → Nat) (cel : Nat → Nat → Int32) (np : Nat) (sl : Nat) (kd : Nat → Nat) (hg : Nat → Nat) (ps : Nat) (rs : Int32) (rn : Nat) (rk : Nat → Int32) (rh : Nat → Int32) (lg : Int32) (fk : Int32) (gt : Int32) (tkn : Nat → Int32) (nr : Nat) (ru : Nat → Nat) (rl : Nat → Nat) (rm : Nat → Nat) (rd : Nat → Nat) (w : Nat) (hnp : np ≤ 6) (hw16 : w < 16) : Met l yX5_tellVoyages wsX5_tellVoyages ({ frames := 1, cells := 0, slots := 0, locals := 21 } : Room) (PcR g [.ref y, .int (nI w)] (wM g y ya yb yc yd ye yf yg yh yi yj yk yl ft tr lane ml cel np sl kd hg ps rs rn rk rh lg fk gt tkn nr ru rl rm rd)) (vp_Si (fun r => r = (if 10 ≤ w then (if w - 10 < np then tkn (w - 10) else -9) else if w = 0 then lg else if w = 2 then fk else gt))) 0 0 (fun _ => False) := by
  refine zenterR (cc := cX5_tellVoyages) (maxL := 2) (ret := (some .int)) (by decide) rfl (Nat.le_of_ble_eq_true rfl) ?_
  intro P E s mt below meth cd ls hx hb hml hown hts hr hlocks hP hK hl
  have hl : lv_has ls 2 [(0, .ref y), (1, .int (nI w))] := hl
  have S0 : CallFix P mt cd cX5_tellVoyages 2 s [.ref y, .int (nI w)].toArray wsX5_tellVoyages RX5 := ⟨hx, hb, hml, hown, hts⟩
  refine lv_iload_n hx hb dX5_tellVoyages_0 rfl (lv_at hl 1 rfl) ?_
  refine lv_bipush (v := (nI 10)) hx hb dX5_tellVoyages_1 (by decide) ?_
  refine n_icmp_lt (a := w) (b := 10) (tgt := 32) hx hb (by omega) (by omega) dX5_tellVoyages_3 (by decide) (fun c3 => ?_) (fun c3 => ?_)
  · refine lv_iload_n hx hb dX5_tellVoyages_32 rfl (lv_at hl 1 rfl) ?_
    refine n_if_ne (a := w) (tgt := 43) hx hb (by omega) dX5_tellVoyages_33 (by decide) (fun c33 => ?_) (fun c33 => ?_)
    · refine lv_iload_n hx hb dX5_tellVoyages_43 rfl (lv_at hl 1 rfl) ?_
      refine lv_iconst (v := (nI 2)) hx hb dX5_tellVoyages_44 (by decide) ?_
      refine n_icmp_ne (a := w) (b := 2) (tgt := 55) hx hb (by omega) (by omega) dX5_tellVoyages_45 (by decide) (fun c45 => ?_) (fun c45 => ?_)
      · refine lv_aload_n hx hb dX5_tellVoyages_55 rfl (lv_at hl 0 rfl) ?_
        refine va_get (D := g.1) (ci := 5) (v := .int gt) (C := RX5) (T := TX5) (N := 23) hx hb hts (fun _ h => (List.mem_cons_of_mem _ (List.mem_append_right _ h))) hown hK.1 hP 0 rfl rfl 16 (by decide) (hts _ (List.mem_of_getElem? (i := 4) rfl)) (fun _ h9 => h9) rfl dX5_tellVoyages_56 ?_
        exact zretI hx hb hr hlocks rfl (by rw [if_neg (c := 10 ≤ w) (by omega), if_neg (c := w = 0) (by omega), if_neg (c := w = 2) (by omega)]) dX5_tellVoyages_59
      · refine lv_aload_n hx hb dX5_tellVoyages_48 rfl (lv_at hl 0 rfl) ?_
        refine va_get (D := g.1) (ci := 5) (v := .int fk) (C := RX5) (T := TX5) (N := 23) hx hb hts (fun _ h => (List.mem_cons_of_mem _ (List.mem_append_right _ h))) hown hK.1 hP 0 rfl rfl 15 (by decide) (hts _ (List.mem_of_getElem? (i := 3) rfl)) (fun _ h9 => h9) rfl dX5_tellVoyages_49 ?_
        refine lv_goto (tgt := 59) hx hb dX5_tellVoyages_52 (by decide) ?_
        exact zretI hx hb hr hlocks rfl (by rw [if_neg (c := 10 ≤ w) (by omega), if_neg (c := w = 0) (by omega), if_pos (c := w = 2) (by omega)]) dX5_tellVoyages_59
    · refine lv_aload_n hx hb dX5_tellVoyages_36 rfl (lv_at hl 0 rfl) ?_
      refine va_get (D := g.1) (ci := 5) (v := .int lg) (C := RX5) (T := TX5) (N := 23) hx hb hts (fun _ h => (List.mem_cons_of_mem _ (List.mem_append_right _ h))) hown hK.1 hP 0 rfl rfl 14 (by decide) (hts _ (List.mem_of_getElem? (i := 2) rfl)) (fun _ h9 => h9) rfl dX5_tellVoyages_37 ?_
      refine lv_goto (tgt := 59) hx hb dX5_tellVoyages_40 (by decide) ?_
      exact zretI hx hb hr hlocks rfl (by rw [if_neg (c := 10 ≤ w) (by omega), if_pos (c := w = 0) (by omega)]) dX5_tellVoyages_59
  · refine lv_aload_n hx hb dX5_tellVoyages_6 rfl (lv_at hl 0 rfl) ?_
    refine lv_iload_n hx hb dX5_tellVoyages_7 rfl (lv_at hl 1 rfl) ?_
    refine lv_bipush (v := (nI 10)) hx hb dX5_tellVoyages_8 (by decide) ?_
    refine n_isub (a := w) (b := 10) hx hb (by omega) dX5_tellVoyages_10 ?_
    have hPc : PP g (wM g y ya yb yc yd ye yf yg yh yi yj yk yl ft tr lane ml cel np sl kd hg ps rs rn rk rh lg fk gt tkn nr ru rl rm rd) _ := hP
    refine zcallR (va_runV (As := [.int (nI (w - 10))]) (rest := []) (b := y) S0 (c_X5_isPass l g y ya yb yc yd ye yf yg yh yi yj yk yl ft tr lane ml cel np sl kd hg ps rs rn rk rh lg fk gt tkn nr ru rl rm rd (nI (w - 10)) hnp) (cwV 1 hts gX5_tellVoyages_X5_isPass rfl rfl rfl (by decide +kernel) ⟨by decide, by decide⟩) (zpreV hK hPc (va_recv hK.1 hPc (ci := 5) (q0 := 0) rfl rfl)) rfl rfl hl.1 rfl (lv_room (Nat.le_of_ble_eq_true rfl)) dX5_tellVoyages_11 ⟨by decide, by decide⟩) (fun r11 h11 => ?_)
    rcases h11 with ⟨w_11, hw_11, hv_11, rfl⟩ | ⟨hn_11, rfl⟩
    · refine lv_if_eq (tgt := 29) hx hb dX5_tellVoyages_14 (by decide) (fun c14 => ?_) (fun c14 => ?_)
      · exact absurd c14 (by decide)
      refine lv_aload_n hx hb dX5_tellVoyages_17 rfl (lv_at hl 0 rfl) ?_
      refine va_get (D := g.1) (ci := 5) (v := .ref yh) (C := RX5) (T := TX5) (N := 23) hx hb hts (fun _ h => (List.mem_cons_of_mem _ (List.mem_append_right _ h))) hown hK.1 hP 0 rfl rfl 17 (by decide) (hts _ (List.mem_of_getElem? (i := 1) rfl)) (fun _ h9 => h9) rfl dX5_tellVoyages_18 ?_
      refine lv_iload_n hx hb dX5_tellVoyages_21 rfl (lv_at hl 1 rfl) ?_
      refine lv_bipush (v := (nI 10)) hx hb dX5_tellVoyages_22 (by decide) ?_
      refine n_isub (a := w) (b := 10) hx hb (by omega) dX5_tellVoyages_24 ?_
      refine n_iald (i := (w - 10)) (v := (tkn (w - 10))) hx hb hK.1 hP 8 0 rfl rfl (by omega) (by decide) rfl dX5_tellVoyages_25 ?_
      refine lv_goto (tgt := 31) hx hb dX5_tellVoyages_26 (by decide) ?_
      exact zretI hx hb hr hlocks rfl (by rw [if_pos (c := 10 ≤ w) (by omega), if_pos (c := w - 10 < np) (by have e := (nI_eq (by omega) (by omega)).mp hv_11; omega)]) dX5_tellVoyages_31
    · refine lv_if_eq (tgt := 29) hx hb dX5_tellVoyages_14 (by decide) (fun c14 => ?_) (fun c14 => ?_)
      rotate_left
      · exact absurd (by decide) c14
      refine lv_bipush (v := (-9)) hx hb dX5_tellVoyages_29 (by decide) ?_
      exact zretI hx hb hr hlocks rfl (by rw [if_pos (c := 10 ≤ w) (by omega), if_neg (c := w - 10 < np) (fun z => hn_11 (isP_of (by omega) z))]) dX5_tellVoyages_31
