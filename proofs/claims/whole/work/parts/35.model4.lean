theorem lN_ne0 {z : Nat} (h : 0 < z) (h2 : z < 2 ^ 31) : ¬ lN z = 0 := fun q => absurd ((lN_eq h2 (by decide)).mp (show lN z = lN 0 from q)) (by omega)
set_option maxHeartbeats 4000000 in
set_option maxRecDepth 100000 in
theorem c_X5_against (l : Launch) (g : Gx) (y : Nat) (ya : Nat) (yb : Nat) (yc : Nat) (yd : Nat) (ye : Nat) (yf : Nat) (yg : Nat) (yh : Nat) (yi : Nat) (yj : Nat) (yk : Nat) (yl : Nat) (ft : Nat) (tr : Int32) (lane : Nat → Nat) (ml : Nat → Nat) (cel : Nat → Nat → Int32) (np : Nat) (sl : Nat) (kd : Nat → Nat) (hg : Nat → Nat) (ps : Nat) (rs : Int32) (rn : Nat) (rk : Nat → Int32) (rh : Nat → Int32) (lg : Int32) (fk : Int32) (gt : Int32) (tkn : Nat → Int32) (nr : Nat) (ru : Nat → Nat) (rl : Nat → Nat) (rm : Nat → Nat) (rd : Nat → Nat) (k : Nat) (z : Nat) (i : Int32) (n : Int32) (hk4 : k < 4) (hz3 : z < 3) (hla : ∀ k, lane k ≤ 3) (hmz : ∀ k, ml k ≤ 60) : Met l yX5_against wsX5_against ({ frames := 0, cells := 0, slots := 0, locals := 0 } : Room) (PcR g [.ref y, .int (nI k), .int (nI z), .int i, .int n] (wM g y ya yb yc yd ye yf yg yh yi yj yk yl ft tr lane ml cel np sl kd hg ps rs rn rk rh lg fk gt tkn nr ru rl rm rd)) (vp_Si (fun r => r = nI (fT (lane k) (ml k) z i n))) 0 0 (fun _ => False) := by
  refine zenterR (cc := cX5_against) (maxL := 5) (ret := (some .int)) (by decide) rfl (Nat.le_of_ble_eq_true rfl) ?_
  intro P E s mt below meth cd ls hx hb hml hown hts hr hlocks hP hK hl
  have hl : lv_has ls 5 [(0, .ref y), (1, .int (nI k)), (2, .int (nI z)), (3, .int i), (4, .int n)] := hl
  have S0 : CallFix P mt cd cX5_against 5 s [.ref y, .int (nI k), .int (nI z), .int i, .int n].toArray wsX5_against RX5 := ⟨hx, hb, hml, hown, hts⟩
  refine lv_aload_n hx hb dX5_against_0 rfl (lv_at hl 0 rfl) ?_
  refine va_get (D := g.1) (ci := 5) (v := .ref ya) (C := RX5) (T := TX5) (N := 23) hx hb hts (fun _ h => (List.mem_cons_of_mem _ (List.mem_append_right _ h))) hown hK.1 hP 0 rfl rfl 2 (by decide) (hts _ (List.mem_of_getElem? (i := 1) rfl)) (fun _ h9 => h9) rfl dX5_against_1 ?_
  refine lv_iload_n hx hb dX5_against_4 rfl (lv_at hl 1 rfl) ?_
  refine n_iald (i := k) (v := (sM (lane k))) hx hb hK.1 hP 1 0 rfl rfl (by omega) (by decide) rfl dX5_against_5 ?_
  refine lv_bipush (v := (-9)) hx hb dX5_against_6 (by decide) ?_
  refine lv_icmp_eq (tgt := 23) hx hb dX5_against_8 (by decide) (fun c8 => ?_) (fun c8 => ?_)
  · have h3 : lane k = 3 := (sM_9 (hla k)).mp c8
    refine lv_aload_n hx hb dX5_against_23 rfl (lv_at hl 0 rfl) ?_
    refine va_get (D := g.1) (ci := 5) (v := .ref ya) (C := RX5) (T := TX5) (N := 23) hx hb hts (fun _ h => (List.mem_cons_of_mem _ (List.mem_append_right _ h))) hown hK.1 hP 0 rfl rfl 2 (by decide) (hts _ (List.mem_of_getElem? (i := 1) rfl)) (fun _ h9 => h9) rfl dX5_against_24 ?_
    refine lv_iload_n hx hb dX5_against_27 rfl (lv_at hl 1 rfl) ?_
    refine n_iald (i := k) (v := (sM (lane k))) hx hb hK.1 hP 1 0 rfl rfl (by omega) (by decide) rfl dX5_against_28 ?_
    refine lv_bipush (v := (-9)) hx hb dX5_against_29 (by decide) ?_
    refine lv_icmp_ne (tgt := 36) hx hb dX5_against_31 (by decide) (fun c31 => ?_) (fun c31 => ?_)
    · exact absurd c8 c31
    · refine lv_iconst (v := (nI 1)) hx hb dX5_against_34 (by decide) ?_
      exact zretI hx hb hr hlocks rfl (fT_null h3) dX5_against_35
  · have h3 : lane k ≠ 3 := fun q => c8 ((sM_9 (hla k)).mpr q)
    refine lv_aload_n hx hb dX5_against_11 rfl (lv_at hl 0 rfl) ?_
    refine va_get (D := g.1) (ci := 5) (v := .ref ya) (C := RX5) (T := TX5) (N := 23) hx hb hts (fun _ h => (List.mem_cons_of_mem _ (List.mem_append_right _ h))) hown hK.1 hP 0 rfl rfl 2 (by decide) (hts _ (List.mem_of_getElem? (i := 1) rfl)) (fun _ h9 => h9) rfl dX5_against_12 ?_
    refine lv_iload_n hx hb dX5_against_15 rfl (lv_at hl 1 rfl) ?_
    refine n_iald (i := k) (v := (sM (lane k))) hx hb hK.1 hP 1 0 rfl rfl (by omega) (by decide) rfl dX5_against_16 ?_
    refine lv_iload_n hx hb dX5_against_17 rfl (lv_at hl 2 rfl) ?_
    refine lv_icmp_eq (tgt := 23) hx hb dX5_against_18 (by decide) (fun c18 => ?_) (fun c18 => ?_)
    · have hq : lane k = z := (sM_z (hla k) h3 hz3).mp c18
      refine lv_aload_n hx hb dX5_against_23 rfl (lv_at hl 0 rfl) ?_
      refine va_get (D := g.1) (ci := 5) (v := .ref ya) (C := RX5) (T := TX5) (N := 23) hx hb hts (fun _ h => (List.mem_cons_of_mem _ (List.mem_append_right _ h))) hown hK.1 hP 0 rfl rfl 2 (by decide) (hts _ (List.mem_of_getElem? (i := 1) rfl)) (fun _ h9 => h9) rfl dX5_against_24 ?_
      refine lv_iload_n hx hb dX5_against_27 rfl (lv_at hl 1 rfl) ?_
      refine n_iald (i := k) (v := (sM (lane k))) hx hb hK.1 hP 1 0 rfl rfl (by omega) (by decide) rfl dX5_against_28 ?_
      refine lv_bipush (v := (-9)) hx hb dX5_against_29 (by decide) ?_
      refine lv_icmp_ne (tgt := 36) hx hb dX5_against_31 (by decide) (fun c31 => ?_) (fun c31 => ?_)
      · refine lv_iload hx hb dX5_against_36 (lv_at hl 4 rfl) ?_
        refine lv_if_ge (tgt := 43) hx hb dX5_against_38 (by decide) (fun c38 => ?_) (fun c38 => ?_)
        · refine lv_iload_n hx hb dX5_against_43 rfl (lv_at hl 3 rfl) ?_
          refine lv_if_lt (tgt := 70) hx hb dX5_against_44 (by decide) (fun c44 => ?_) (fun c44 => ?_)
          · refine lv_iconst (v := (nI 3)) hx hb dX5_against_70 (by decide) ?_
            refine lv_goto (tgt := 75) hx hb dX5_against_71 (by decide) ?_
            exact zretI hx hb hr hlocks rfl (fT_no h3 hq c38 (fun w => w.1 c44)) dX5_against_75
          · refine lv_iload_n hx hb dX5_against_47 rfl (lv_at hl 3 rfl) ?_
            refine lv_aload_n hx hb dX5_against_48 rfl (lv_at hl 0 rfl) ?_
            refine va_get (D := g.1) (ci := 5) (v := .ref yb) (C := RX5) (T := TX5) (N := 23) hx hb hts (fun _ h => (List.mem_cons_of_mem _ (List.mem_append_right _ h))) hown hK.1 hP 0 rfl rfl 3 (by decide) (hts _ (List.mem_of_getElem? (i := 2) rfl)) (fun _ h9 => h9) rfl dX5_against_49 ?_
            refine lv_iload_n hx hb dX5_against_52 rfl (lv_at hl 1 rfl) ?_
            refine n_iald (i := k) (v := (nI (ml k))) hx hb hK.1 hP 2 0 rfl rfl (by omega) (by decide) rfl dX5_against_53 ?_
            refine lv_icmp_gt (tgt := 70) hx hb dX5_against_54 (by decide) (fun c54 => ?_) (fun c54 => ?_)
            · refine lv_iconst (v := (nI 3)) hx hb dX5_against_70 (by decide) ?_
              refine lv_goto (tgt := 75) hx hb dX5_against_71 (by decide) ?_
              exact zretI hx hb hr hlocks rfl (fT_no h3 hq c38 (fun w => w.2.1 c54)) dX5_against_75
            · refine lv_iload hx hb dX5_against_57 (lv_at hl 4 rfl) ?_
              refine lv_aload_n hx hb dX5_against_59 rfl (lv_at hl 0 rfl) ?_
              refine va_get (D := g.1) (ci := 5) (v := .ref yb) (C := RX5) (T := TX5) (N := 23) hx hb hts (fun _ h => (List.mem_cons_of_mem _ (List.mem_append_right _ h))) hown hK.1 hP 0 rfl rfl 3 (by decide) (hts _ (List.mem_of_getElem? (i := 2) rfl)) (fun _ h9 => h9) rfl dX5_against_60 ?_
              refine lv_iload_n hx hb dX5_against_63 rfl (lv_at hl 1 rfl) ?_
              refine n_iald (i := k) (v := (nI (ml k))) hx hb hK.1 hP 2 0 rfl rfl (by omega) (by decide) rfl dX5_against_64 ?_
              refine lv_iload_n hx hb dX5_against_65 rfl (lv_at hl 3 rfl) ?_
              refine lv_isub hx hb dX5_against_66 ?_
              refine lv_icmp_le (tgt := 74) hx hb dX5_against_67 (by decide) (fun c67 => ?_) (fun c67 => ?_)
              · refine lv_iconst (v := (nI 0)) hx hb dX5_against_74 (by decide) ?_
                exact zretI hx hb hr hlocks rfl (fT_yes h3 hq c38 ⟨c44, c54, Int32.not_lt.mpr c38, Int32.not_lt.mpr c67⟩) dX5_against_75
              · refine lv_iconst (v := (nI 3)) hx hb dX5_against_70 (by decide) ?_
                refine lv_goto (tgt := 75) hx hb dX5_against_71 (by decide) ?_
                exact zretI hx hb hr hlocks rfl (fT_no h3 hq c38 (fun w => w.2.2.2 (Int32.not_le.mp c67))) dX5_against_75
        · refine lv_iconst (v := (nI 4)) hx hb dX5_against_41 (by decide) ?_
          exact zretI hx hb hr hlocks rfl (fT_size h3 hq c38) dX5_against_42
      · exact absurd c31 c8
    · have hq : lane k ≠ z := fun q => c18 ((sM_z (hla k) h3 hz3).mpr q)
      refine lv_iconst (v := (nI 2)) hx hb dX5_against_21 (by decide) ?_
      exact zretI hx hb hr hlocks rfl (fT_cast h3 hq) dX5_against_22

set_option maxHeartbeats 4000000 in
set_option maxRecDepth 100000 in
theorem c_X5_sheet (l : Launch) (g : Gx) (y : Nat) (ya : Nat) (yb : Nat) (yc : Nat) (yd : Nat) (ye : Nat) (yf : Nat) (yg : Nat) (yh : Nat) (yi : Nat) (yj : Nat) (yk : Nat) (yl : Nat) (ft : Nat) (tr : Int32) (lane : Nat → Nat) (ml : Nat → Nat) (cel : Nat → Nat → Int32) (np : Nat) (sl : Nat) (kd : Nat → Nat) (hg : Nat → Nat) (ps : Nat) (rs : Int32) (rn : Nat) (rk : Nat → Int32) (rh : Nat → Int32) (lg : Int32) (fk : Int32) (gt : Int32) (tkn : Nat → Int32) (nr : Nat) (ru : Nat → Nat) (rl : Nat → Nat) (rm : Nat → Nat) (rd : Nat → Nat) (k : Int32) (q : Int32) (n : Int32) (hG : Gd np sl kd hg nr ru rl rm rd lane ml) : Met l yX5_sheet wsX5_sheet ({ frames := 2, cells := 0, slots := 0, locals := 42 } : Room) (PcM g [.ref y, .int k, .int q, .int n] (wM g y ya yb yc yd ye yf yg yh yi yj yk yl ft tr lane ml cel np sl kd hg ps rs rn rk rh lg fk gt tkn nr ru rl rm rd)) (va_Qi (fun (r : Int32) (uu : Unit) => r = sp_sheet k q n) (fun (uu : Unit) t => PP g (wM g y ya yb yc yd ye yf yg yh yi yj yk yl (ft_sheet k q n) tr (st_lane lane k q n) (st_ml ml k q n) (st_cel cel k q n) np sl kd hg ps rs rn rk rh lg fk gt tkn nr ru rl rm rd) t.heap) (inW (wM g y ya yb yc yd ye yf yg yh yi yj yk yl ft tr lane ml cel np sl kd hg ps rs rn rk rh lg fk gt tkn nr ru rl rm rd))) 0 0 (inW (wM g y ya yb yc yd ye yf yg yh yi yj yk yl ft tr lane ml cel np sl kd hg ps rs rn rk rh lg fk gt tkn nr ru rl rm rd)) := by
  refine zenterM (cc := cX5_sheet) (maxL := 5) (ret := (some .int)) (by decide) rfl (Nat.le_of_ble_eq_true rfl) ?_
  intro P E s mt below meth cd ls hx hb hml hown hts hr hlocks hP hK hD hS hl
  skip
  have hl : lv_has ls 5 [(0, .ref y), (1, .int k), (2, .int q), (3, .int n)] := hl
  have S0 : CallFix P mt cd cX5_sheet 5 s [.ref y, .int k, .int q, .int n].toArray wsX5_sheet RX5 := ⟨hx, hb, hml, hown, hts⟩
  obtain ⟨hnp, hsl, hkd, hhg, hnr, hru, hrl, hrm, hrd, hla, hmz⟩ := hG
  refine lv_aload_n hx hb dX5_sheet_0 rfl (lv_at hl 0 rfl) ?_
  refine lv_iconst (v := (nI 0)) hx hb dX5_sheet_1 (by decide) ?_
  refine n_put (D := g.1) (ci := 5) (v := .int (nI 0)) (ty := .int) (C := RX5) (T := TX5) (N := 23) (ws1 := wM g y ya yb yc yd ye yf yg yh yi yj yk yl 0 tr lane ml cel np sl kd hg ps rs rn rk rh lg fk gt tkn nr ru rl rm rd) hx hb hts (fun _ h => (List.mem_cons_of_mem _ (List.mem_append_right _ h))) tyX5 tyX5_ok nmX5 hown hK.1 hP hD hS 0 rfl rfl 0 (by decide) (hts _ (List.mem_of_getElem? (i := 1) rfl)) (fun _ h9 => h9) rfl (by decide +kernel) rfl rfl (Nat.le_of_ble_eq_true rfl) rfl dX5_sheet_2 (fun H locs hP hD hS => ?_)
  refine lv_iload_n hx hb dX5_sheet_5 rfl (lv_at hl 1 rfl) ?_
  refine zcallR (va_runS (As := [.int k]) (rest := []) S0 (c_X5_isSheet l g k) (va_cwS 1 hts gX5_sheet_X5_isSheet rfl rfl rfl (by decide +kernel) ⟨by decide, by decide⟩) (zpreS hK (P_nil _)) rfl rfl hl.1 rfl (lv_room (Nat.le_of_ble_eq_true rfl)) dX5_sheet_6 ⟨by decide, by decide⟩) (fun r6 h6 => ?_)
  rcases h6 with ⟨w_6, hw_6, hv_6, rfl⟩ | ⟨hn_6, rfl⟩
  · subst hv_6
    refine lv_if_ne (tgt := 14) hx hb dX5_sheet_9 (by decide) (fun c9 => ?_) (fun c9 => ?_)
    rotate_left
    · exact absurd c9 (by decide)
    refine lv_iload_n hx hb dX5_sheet_14 rfl (lv_at hl 2 rfl) ?_
    refine zcallR (va_runS (As := [.int q]) (rest := []) S0 (c_X5_isSort l g q) (va_cwS 1 hts gX5_sheet_X5_isSort rfl rfl rfl (by decide +kernel) ⟨by decide, by decide⟩) (zpreS hK (P_nil _)) rfl rfl hl.1 rfl (lv_room (Nat.le_of_ble_eq_true rfl)) dX5_sheet_15 ⟨by decide, by decide⟩) (fun r15 h15 => ?_)
    rcases h15 with ⟨w_15, hw_15, hv_15, rfl⟩ | ⟨hn_15, rfl⟩
    · subst hv_15
      refine lv_if_eq (tgt := 27) hx hb dX5_sheet_18 (by decide) (fun c18 => ?_) (fun c18 => ?_)
      · exact absurd c18 (by decide)
      refine lv_iload_n hx hb dX5_sheet_21 rfl (lv_at hl 3 rfl) ?_
      refine lv_bipush (v := (nI 60)) hx hb dX5_sheet_22 (by decide) ?_
      refine lv_icmp_le (tgt := 30) hx hb dX5_sheet_24 (by decide) (fun c24 => ?_) (fun c24 => ?_)
      · refine lv_iload_n hx hb dX5_sheet_30 rfl (lv_at hl 3 rfl) ?_
        refine lv_if_ge (tgt := 40) hx hb dX5_sheet_31 (by decide) (fun c31 => ?_) (fun c31 => ?_)
        · obtain ⟨wn, hj_wn, e_wn⟩ := nI_btw (n := 60) (by decide) (i_nlt.mpr c31) c24
          subst e_wn
          refine lv_aload_n hx hb dX5_sheet_40 rfl (lv_at hl 0 rfl) ?_
          refine va_get (D := g.1) (ci := 5) (v := .ref ya) (C := RX5) (T := TX5) (N := 23) hx hb hts (fun _ h => (List.mem_cons_of_mem _ (List.mem_append_right _ h))) hown hK.1 hP 0 rfl rfl 2 (by decide) (hts _ (List.mem_of_getElem? (i := 2) rfl)) (fun _ h9 => h9) rfl dX5_sheet_41 ?_
          refine lv_iload_n hx hb dX5_sheet_44 rfl (lv_at hl 1 rfl) ?_
          refine lv_iload_n hx hb dX5_sheet_45 rfl (lv_at hl 2 rfl) ?_
          refine n_iast (i := w_6) (x := (nI w_15)) (ws1 := wM g y ya yb yc yd ye yf yg yh yi yj yk yl 0 tr (va_up lane w_6 w_15) ml cel np sl kd hg ps rs rn rk rh lg fk gt tkn nr ru rl rm rd) hx hb hK.1 hP hD hS 1 0 rfl rfl (by omega) (by decide) (fun j => sM ((va_up lane w_6 w_15) j)) (upd_sM lane (by omega)) rfl dX5_sheet_46 (fun H locs hP hD hS => ?_)
          refine lv_aload_n hx hb dX5_sheet_47 rfl (lv_at hl 0 rfl) ?_
          refine va_get (D := g.1) (ci := 5) (v := .ref yb) (C := RX5) (T := TX5) (N := 23) hx hb hts (fun _ h => (List.mem_cons_of_mem _ (List.mem_append_right _ h))) hown hK.1 hP 0 rfl rfl 3 (by decide) (hts _ (List.mem_of_getElem? (i := 3) rfl)) (fun _ h9 => h9) rfl dX5_sheet_48 ?_
          refine lv_iload_n hx hb dX5_sheet_51 rfl (lv_at hl 1 rfl) ?_
          refine lv_iload_n hx hb dX5_sheet_52 rfl (lv_at hl 3 rfl) ?_
          refine n_iast (i := w_6) (x := (nI wn)) (ws1 := wM g y ya yb yc yd ye yf yg yh yi yj yk yl 0 tr (va_up lane w_6 w_15) (va_up ml w_6 wn) cel np sl kd hg ps rs rn rk rh lg fk gt tkn nr ru rl rm rd) hx hb hK.1 hP hD hS 2 0 rfl rfl (by omega) (by decide) (fun j => nI ((va_up ml w_6 wn) j)) (upd_nI _ _ _) rfl dX5_sheet_53 (fun H locs hP hD hS => ?_)
          refine lv_iconst (v := (nI 0)) hx hb dX5_sheet_54 (by decide) ?_
          refine lv_istore (lv' := [(4, .int (nI 0)), (0, .ref y), (1, .int (nI w_6)), (2, .int (nI w_15)), (3, .int (nI wn))]) hx hb dX5_sheet_55 hl (by decide) rfl (fun ls hl => ?_)
          have lp57 : ∀ (nn : Nat) (i : Nat) (H : Heap) (locs : List Loc) (ls : Array Slot), (60 - i) < nn → (i ≤ 60) → PP g (wM g y ya yb yc yd ye yf yg yh yi yj yk yl 0 tr (va_up lane w_6 w_15) (va_up ml w_6 wn) (va_up cel w_6 (filI (fun _ => nI 0) (cel w_6) i)) np sl kd hg ps rs rn rk rh lg fk gt tkn nr ru rl rm rd) H → va_D (inW (wM g y ya yb yc yd ye yf yg yh yi yj yk yl ft tr lane ml cel np sl kd hg ps rs rn rk rh lg fk gt tkn nr ru rl rm rd)) (wM g y ya yb yc yd ye yf yg yh yi yj yk yl 0 tr (va_up lane w_6 w_15) (va_up ml w_6 wn) (va_up cel w_6 (filI (fun _ => nI 0) (cel w_6) i)) np sl kd hg ps rs rn rk rh lg fk gt tkn nr ru rl rm rd) → va_S (inW (wM g y ya yb yc yd ye yf yg yh yi yj yk yl ft tr lane ml cel np sl kd hg ps rs rn rk rh lg fk gt tkn nr ru rl rm rd)) s.heap H locs → lv_has ls 5 [(0, .ref y), (1, .int (nI w_6)), (2, .int (nI w_15)), (3, .int (nI wn)), (4, .int (nI i))] → W P l E ({ frames := 2, cells := 0, slots := 0, locals := 42 } : Room) s mt [.ref y, .int (nI w_6), .int (nI w_15), .int (nI wn)].toArray below meth cd H locs 0 0 (MQ below (va_Qi (fun (r : Int32) (uu : Unit) => r = sp_sheet (nI w_6) (nI w_15) (nI wn)) (fun (uu : Unit) t => PP g (wM g y ya yb yc yd ye yf yg yh yi yj yk yl (ft_sheet (nI w_6) (nI w_15) (nI wn)) tr (st_lane lane (nI w_6) (nI w_15) (nI wn)) (st_ml ml (nI w_6) (nI w_15) (nI wn)) (st_cel cel (nI w_6) (nI w_15) (nI wn)) np sl kd hg ps rs rn rk rh lg fk gt tkn nr ru rl rm rd) t.heap) (inW (wM g y ya yb yc yd ye yf yg yh yi yj yk yl ft tr lane ml cel np sl kd hg ps rs rn rk rh lg fk gt tkn nr ru rl rm rd))) [.ref y, .int (nI w_6), .int (nI w_15), .int (nI wn)].toArray s 0 0 (inW (wM g y ya yb yc yd ye yf yg yh yi yj yk yl ft tr lane ml cel np sl kd hg ps rs rn rk rh lg fk gt tkn nr ru rl rm rd))) (F0 mt 57 ls []) := by
            intro nn
            induction nn with
            | zero => intro i H locs ls hmu; exact absurd hmu (Nat.not_lt_zero _)
            | succ nn ih57 =>
              intro i H locs ls hmu hi hP hD hS hl
              refine lv_iload hx hb dX5_sheet_57 (lv_at hl 4 rfl) ?_
              refine lv_bipush (v := (nI 60)) hx hb dX5_sheet_59 (by decide) ?_
              refine n_icmp_ge (a := i) (b := 60) (tgt := 83) hx hb (by omega) (by omega) dX5_sheet_61 (by decide) (fun c61 => ?_) (fun c61 => ?_)
              · obtain rfl : 60 = i := by omega
                refine lv_iconst (v := (nI 1)) hx hb dX5_sheet_83 (by decide) ?_
                exact zretMI (w1 := fun (uu : Unit) => wM g y ya yb yc yd ye yf yg yh yi yj yk yl (ft_sheet (nI w_6) (nI w_15) (nI wn)) tr (st_lane lane (nI w_6) (nI w_15) (nI wn)) (st_ml ml (nI w_6) (nI w_15) (nI wn)) (st_cel cel (nI w_6) (nI w_15) (nI wn)) np sl kd hg ps rs rn rk rh lg fk gt tkn nr ru rl rm rd) () hx hb hr hlocks hS rfl (by rw [sp_sheet, if_pos (isP_of (by omega) hw_6), if_pos ⟨(isP_of (by omega) hw_15), nI_nlt (by omega) (by decide)⟩, if_neg (nI_pos (n := wn) (by omega))]) (by simp only [st_lane, st_ml, st_cel, ft_sheet, if_pos (c := c_sheet (nI w_6) (nI w_15) (nI wn)) ⟨(isP_of (by omega) hw_6), (isP_of (by omega) hw_15), isP_of (by decide) (by omega)⟩, if_pos (c := isP 4 (nI w_6)) (isP_of (by omega) hw_6), if_pos (c := isP 3 (nI w_15) ∧ ¬ nI 60 < nI wn) ⟨(isP_of (by omega) hw_15), nI_nlt (by omega) (by decide)⟩, if_neg (nI_pos (n := wn) (by omega)), tN_nI (u := w_6) (by omega), tN_nI (u := w_15) (by omega), tN_nI (u := wn) (by omega)]; exact hP) dX5_sheet_84
              · refine lv_aload_n hx hb dX5_sheet_64 rfl (lv_at hl 0 rfl) ?_
                refine va_get (D := g.1) (ci := 5) (v := .ref yc) (C := RX5) (T := TX5) (N := 23) hx hb hts (fun _ h => (List.mem_cons_of_mem _ (List.mem_append_right _ h))) hown hK.1 hP 0 rfl rfl 4 (by decide) (hts _ (List.mem_of_getElem? (i := 4) rfl)) (fun _ h9 => h9) rfl dX5_sheet_65 ?_
                refine lv_bipush (v := (nI 60)) hx hb dX5_sheet_68 (by decide) ?_
                refine lv_iload_n hx hb dX5_sheet_70 rfl (lv_at hl 1 rfl) ?_
                refine n_imul (a := 60) (b := w_6) hx hb dX5_sheet_71 ?_
                refine lv_iload hx hb dX5_sheet_72 (lv_at hl 4 rfl) ?_
                refine n_iadd (a := (60 * w_6)) (b := i) hx hb dX5_sheet_74 ?_
                refine lv_iconst (v := (nI 0)) hx hb dX5_sheet_75 (by decide) ?_
                refine n_iast (i := ((60 * w_6) + i)) (x := (nI 0)) (ws1 := wM g y ya yb yc yd ye yf yg yh yi yj yk yl 0 tr (va_up lane w_6 w_15) (va_up ml w_6 wn) (va_up (va_up cel w_6 (filI (fun _ => nI 0) (cel w_6) i)) w_6 (upd ((va_up cel w_6 (filI (fun _ => nI 0) (cel w_6) i)) w_6) i (nI 0))) np sl kd hg ps rs rn rk rh lg fk gt tkn nr ru rl rm rd) hx hb hK.1 hP hD hS 3 0 rfl rfl (by omega) (by decide) (fun j => (va_up (va_up cel w_6 (filI (fun _ => nI 0) (cel w_6) i)) w_6 (upd ((va_up cel w_6 (filI (fun _ => nI 0) (cel w_6) i)) w_6) i (nI 0))) (j / 60) (j % 60)) (upd_cel (va_up cel w_6 (filI (fun _ => nI 0) (cel w_6) i)) (nI 0) (by omega)) rfl dX5_sheet_76 (fun H locs hP hD hS => ?_)
                refine n_iinc (a := i) (d := 1) (lv' := [(4, .int (nI (i + 1))), (0, .ref y), (1, .int (nI w_6)), (2, .int (nI w_15)), (3, .int (nI wn))]) hx hb dX5_sheet_77 hl (k := 4) rfl (by decide) (by decide) rfl (fun ls hl => ?_)
                refine lv_goto (tgt := 57) hx hb dX5_sheet_80 (by decide) ?_
                rw [va_up_2, va_up_self, filI_up (fun _ => nI 0) (cel w_6) i] at hP hD
                exact ih57 (i + 1) _ _ ls (by omega) (by omega) hP hD hS (lv_sub hl [1, 2, 3, 4, 0] rfl)
          exact lp57 (60 - 0 + 1) 0 _ _ ls (Nat.lt_succ_self _) (by omega) (by rw [filI_0, va_up_same rfl]; exact hP) (by rw [filI_0, va_up_same rfl]; exact hD) hS (lv_sub hl [1, 2, 3, 4, 0] rfl)
        · refine lv_aload_n hx hb dX5_sheet_34 rfl (lv_at hl 0 rfl) ?_
          refine lv_iconst (v := (nI 4)) hx hb dX5_sheet_35 (by decide) ?_
          have hPc : PP g (wM g y ya yb yc yd ye yf yg yh yi yj yk yl 0 tr lane ml cel np sl kd hg ps rs rn rk rh lg fk gt tkn nr ru rl rm rd) _ := P_sub hP [0, 1, 2, 3, 4, 5, 6, 7, 8, 9, 10, 11, 12] rfl
          refine zcallM (w := wM g y ya yb yc yd ye yf yg yh yi yj yk yl 0 tr lane ml cel np sl kd hg ps rs rn rk rh lg fk gt tkn nr ru rl rm rd) (va_runV (As := [.int (nI 4)]) (rest := []) (b := y) S0 (c_X5_fails l g y ya yb yc yd ye yf yg yh yi yj yk yl 0 tr lane ml cel np sl kd hg ps rs rn rk rh lg fk gt tkn nr ru rl rm rd 4) (cwV 1 hts gX5_sheet_X5_fails rfl rfl rfl (by decide +kernel) ⟨by decide, by decide⟩) (zpreVM hK hP hD [0, 1, 2, 3, 4, 5, 6, 7, 8, 9, 10, 11, 12] rfl (by decide) (va_recv hK.1 hPc (ci := 5) (q0 := 0) rfl rfl)) rfl rfl hl.1 rfl (lv_room (Nat.le_of_ble_eq_true rfl)) dX5_sheet_36 ⟨by decide, by decide⟩) hP hD hS [0, 1, 2, 3, 4, 5, 6, 7, 8, 9, 10, 11, 12] rfl (fun uu36 => wM g y ya yb yc yd ye yf yg yh yi yj yk yl 4 tr lane ml cel np sl kd hg ps rs rn rk rh lg fk gt tkn nr ru rl rm rd) (fun _ => lz_wM.trans lz_wM.symm) (fun _ => rfl) (fun _ => ad_wM.trans ad_wM.symm) (fun r36 uu36 H locs h36 hP hD hS => ?_)
          subst h36
          exact zretMI (w1 := fun (uu : Unit) => wM g y ya yb yc yd ye yf yg yh yi yj yk yl (ft_sheet (nI w_6) (nI w_15) n) tr (st_lane lane (nI w_6) (nI w_15) n) (st_ml ml (nI w_6) (nI w_15) n) (st_cel cel (nI w_6) (nI w_15) n) np sl kd hg ps rs rn rk rh lg fk gt tkn nr ru rl rm rd) () hx hb hr hlocks hS rfl (by rw [sp_sheet, if_pos (isP_of (by omega) hw_6), if_pos ⟨(isP_of (by omega) hw_15), i_nlt.mpr c24⟩, if_pos (i_nle.mp c31)]) (by simp only [st_lane, st_ml, st_cel, ft_sheet, if_neg (c := c_sheet (nI w_6) (nI w_15) n) (fun z => z.2.2.1 (i_nle.mp c31)), if_pos (c := isP 4 (nI w_6)) (isP_of (by omega) hw_6), if_pos (c := isP 3 (nI w_15) ∧ ¬ nI 60 < n) ⟨(isP_of (by omega) hw_15), i_nlt.mpr c24⟩, if_pos (i_nle.mp c31)]; exact hP) dX5_sheet_39
      · refine lv_bipush (v := (-2)) hx hb dX5_sheet_27 (by decide) ?_
        exact zretMI (w1 := fun (uu : Unit) => wM g y ya yb yc yd ye yf yg yh yi yj yk yl (ft_sheet (nI w_6) (nI w_15) n) tr (st_lane lane (nI w_6) (nI w_15) n) (st_ml ml (nI w_6) (nI w_15) n) (st_cel cel (nI w_6) (nI w_15) n) np sl kd hg ps rs rn rk rh lg fk gt tkn nr ru rl rm rd) () hx hb hr hlocks hS rfl (by rw [sp_sheet, if_pos (isP_of (by omega) hw_6), if_neg (fun z => z.2 (i_nle.mp c24))]) (by simp only [st_lane, st_ml, st_cel, ft_sheet, if_neg (c := c_sheet (nI w_6) (nI w_15) n) (fun z => c24 (P61 z.2.2)), if_pos (c := isP 4 (nI w_6)) (isP_of (by omega) hw_6), if_neg (c := isP 3 (nI w_15) ∧ ¬ nI 60 < n) (fun z => z.2 (i_nle.mp c24))]; exact hP) dX5_sheet_29
    · refine lv_if_eq (tgt := 27) hx hb dX5_sheet_18 (by decide) (fun c18 => ?_) (fun c18 => ?_)
      rotate_left
      · exact absurd (by decide) c18
      refine lv_bipush (v := (-2)) hx hb dX5_sheet_27 (by decide) ?_
      exact zretMI (w1 := fun (uu : Unit) => wM g y ya yb yc yd ye yf yg yh yi yj yk yl (ft_sheet (nI w_6) q n) tr (st_lane lane (nI w_6) q n) (st_ml ml (nI w_6) q n) (st_cel cel (nI w_6) q n) np sl kd hg ps rs rn rk rh lg fk gt tkn nr ru rl rm rd) () hx hb hr hlocks hS rfl (by rw [sp_sheet, if_pos (isP_of (by omega) hw_6), if_neg (fun z => hn_15 z.1)]) (by simp only [st_lane, st_ml, st_cel, ft_sheet, if_neg (c := c_sheet (nI w_6) q n) (fun z => hn_15 z.2.1), if_pos (c := isP 4 (nI w_6)) (isP_of (by omega) hw_6), if_neg (c := isP 3 q ∧ ¬ nI 60 < n) (fun z => hn_15 z.1)]; exact hP) dX5_sheet_29
  · refine lv_if_ne (tgt := 14) hx hb dX5_sheet_9 (by decide) (fun c9 => ?_) (fun c9 => ?_)
    · exact absurd c9 (by decide)
    refine lv_iconst (v := (-1)) hx hb dX5_sheet_12 (by decide) ?_
    exact zretMI (w1 := fun (uu : Unit) => wM g y ya yb yc yd ye yf yg yh yi yj yk yl (ft_sheet k q n) tr (st_lane lane k q n) (st_ml ml k q n) (st_cel cel k q n) np sl kd hg ps rs rn rk rh lg fk gt tkn nr ru rl rm rd) () hx hb hr hlocks hS rfl (by rw [sp_sheet, if_neg hn_6]) (by simp only [st_lane, st_ml, st_cel, ft_sheet, if_neg (c := c_sheet k q n) (fun z => hn_6 z.1), if_neg hn_6]; exact hP) dX5_sheet_13

set_option maxHeartbeats 4000000 in
set_option maxRecDepth 100000 in
theorem c_X5_lose (l : Launch) (g : Gx) (y : Nat) (ya : Nat) (yb : Nat) (yc : Nat) (yd : Nat) (ye : Nat) (yf : Nat) (yg : Nat) (yh : Nat) (yi : Nat) (yj : Nat) (yk : Nat) (yl : Nat) (ft : Nat) (tr : Int32) (lane : Nat → Nat) (ml : Nat → Nat) (cel : Nat → Nat → Int32) (np : Nat) (sl : Nat) (kd : Nat → Nat) (hg : Nat → Nat) (ps : Nat) (rs : Int32) (rn : Nat) (rk : Nat → Int32) (rh : Nat → Int32) (lg : Int32) (fk : Int32) (gt : Int32) (tkn : Nat → Int32) (nr : Nat) (ru : Nat → Nat) (rl : Nat → Nat) (rm : Nat → Nat) (rd : Nat → Nat) (k : Int32) (hG : Gd np sl kd hg nr ru rl rm rd lane ml) : Met l yX5_lose wsX5_lose ({ frames := 2, cells := 0, slots := 0, locals := 42 } : Room) (PcM g [.ref y, .int k] (wM g y ya yb yc yd ye yf yg yh yi yj yk yl ft tr lane ml cel np sl kd hg ps rs rn rk rh lg fk gt tkn nr ru rl rm rd)) (va_Qi (fun (r : Int32) (uu : Unit) => r = sp_lose lane k) (fun (uu : Unit) t => PP g (wM g y ya yb yc yd ye yf yg yh yi yj yk yl ft tr (st_lose lane k) ml cel np sl kd hg ps rs rn rk rh lg fk gt tkn nr ru rl rm rd) t.heap) (inW (wM g y ya yb yc yd ye yf yg yh yi yj yk yl ft tr lane ml cel np sl kd hg ps rs rn rk rh lg fk gt tkn nr ru rl rm rd))) 0 0 (inW (wM g y ya yb yc yd ye yf yg yh yi yj yk yl ft tr lane ml cel np sl kd hg ps rs rn rk rh lg fk gt tkn nr ru rl rm rd)) := by
  refine zenterM (cc := cX5_lose) (maxL := 3) (ret := (some .int)) (by decide) rfl (Nat.le_of_ble_eq_true rfl) ?_
  intro P E s mt below meth cd ls hx hb hml hown hts hr hlocks hP hK hD hS hl
  skip
  have hl : lv_has ls 3 [(0, .ref y), (1, .int k)] := hl
  have S0 : CallFix P mt cd cX5_lose 3 s [.ref y, .int k].toArray wsX5_lose RX5 := ⟨hx, hb, hml, hown, hts⟩
  obtain ⟨hnp, hsl, hkd, hhg, hnr, hru, hrl, hrm, hrd, hla, hmz⟩ := hG
  refine lv_iload_n hx hb dX5_lose_0 rfl (lv_at hl 1 rfl) ?_
  refine zcallR (va_runS (As := [.int k]) (rest := []) S0 (c_X5_isSheet l g k) (va_cwS 1 hts gX5_lose_X5_isSheet rfl rfl rfl (by decide +kernel) ⟨by decide, by decide⟩) (zpreS hK (P_nil _)) rfl rfl hl.1 rfl (lv_room (Nat.le_of_ble_eq_true rfl)) dX5_lose_1 ⟨by decide, by decide⟩) (fun r1 h1 => ?_)
  rcases h1 with ⟨w_1, hw_1, hv_1, rfl⟩ | ⟨hn_1, rfl⟩
  · subst hv_1
    refine lv_if_ne (tgt := 9) hx hb dX5_lose_4 (by decide) (fun c4 => ?_) (fun c4 => ?_)
    rotate_left
    · exact absurd c4 (by decide)
    refine lv_aload_n hx hb dX5_lose_9 rfl (lv_at hl 0 rfl) ?_
    refine va_get (D := g.1) (ci := 5) (v := .ref ya) (C := RX5) (T := TX5) (N := 23) hx hb hts (fun _ h => (List.mem_cons_of_mem _ (List.mem_append_right _ h))) hown hK.1 hP 0 rfl rfl 2 (by decide) (hts _ (List.mem_of_getElem? (i := 1) rfl)) (fun _ h9 => h9) rfl dX5_lose_10 ?_
    refine lv_iload_n hx hb dX5_lose_13 rfl (lv_at hl 1 rfl) ?_
    refine n_iald (i := w_1) (v := (sM (lane w_1))) hx hb hK.1 hP 1 0 rfl rfl (by omega) (by decide) rfl dX5_lose_14 ?_
    refine lv_bipush (v := (-9)) hx hb dX5_lose_15 (by decide) ?_
    refine lv_icmp_ne (tgt := 24) hx hb dX5_lose_17 (by decide) (fun c17 => ?_) (fun c17 => ?_)
    · have h3 : lane w_1 ≠ 3 := fun q => c17 ((sM_9 (hla _)).mpr q)
      refine lv_iconst (v := (nI 1)) hx hb dX5_lose_24 (by decide) ?_
      refine lv_istore_n (lv' := [(2, .int (nI 1)), (0, .ref y), (1, .int (nI w_1))]) hx hb dX5_lose_25 rfl hl (by decide) rfl (fun ls hl => ?_)
      refine lv_aload_n hx hb dX5_lose_26 rfl (lv_at hl 1 rfl) ?_
      refine va_get (D := g.1) (ci := 5) (v := .ref ya) (C := RX5) (T := TX5) (N := 23) hx hb hts (fun _ h => (List.mem_cons_of_mem _ (List.mem_append_right _ h))) hown hK.1 hP 0 rfl rfl 2 (by decide) (hts _ (List.mem_of_getElem? (i := 1) rfl)) (fun _ h9 => h9) rfl dX5_lose_27 ?_
      refine lv_iload_n hx hb dX5_lose_30 rfl (lv_at hl 2 rfl) ?_
      refine lv_bipush (v := (-9)) hx hb dX5_lose_31 (by decide) ?_
      refine n_iast (i := w_1) (x := (-9)) (ws1 := wM g y ya yb yc yd ye yf yg yh yi yj yk yl ft tr (va_up lane w_1 3) ml cel np sl kd hg ps rs rn rk rh lg fk gt tkn nr ru rl rm rd) hx hb hK.1 hP hD hS 1 0 rfl rfl (by omega) (by decide) (fun j => sM ((va_up lane w_1 3) j)) (upd_sM3 lane w_1) rfl dX5_lose_33 (fun H locs hP hD hS => ?_)
      refine lv_iload_n hx hb dX5_lose_34 rfl (lv_at hl 0 rfl) ?_
      exact zretMI (w1 := fun (uu : Unit) => wM g y ya yb yc yd ye yf yg yh yi yj yk yl ft tr (st_lose lane (nI w_1)) ml cel np sl kd hg ps rs rn rk rh lg fk gt tkn nr ru rl rm rd) () hx hb hr hlocks hS rfl (by rw [sp_lose, if_pos (isP_of (by omega) hw_1), tN_nI (u := w_1) (by omega), if_neg h3]) (by rw [st_lose, if_pos (isP_of (by omega) hw_1), tN_nI (u := w_1) (by omega)]; exact hP) dX5_lose_35
    · have h3 : lane w_1 = 3 := (sM_9 (hla _)).mp c17
      refine lv_iconst (v := (nI 0)) hx hb dX5_lose_20 (by decide) ?_
      refine lv_goto (tgt := 25) hx hb dX5_lose_21 (by decide) ?_
      refine lv_istore_n (lv' := [(2, .int (nI 0)), (0, .ref y), (1, .int (nI w_1))]) hx hb dX5_lose_25 rfl hl (by decide) rfl (fun ls hl => ?_)
      refine lv_aload_n hx hb dX5_lose_26 rfl (lv_at hl 1 rfl) ?_
      refine va_get (D := g.1) (ci := 5) (v := .ref ya) (C := RX5) (T := TX5) (N := 23) hx hb hts (fun _ h => (List.mem_cons_of_mem _ (List.mem_append_right _ h))) hown hK.1 hP 0 rfl rfl 2 (by decide) (hts _ (List.mem_of_getElem? (i := 1) rfl)) (fun _ h9 => h9) rfl dX5_lose_27 ?_
      refine lv_iload_n hx hb dX5_lose_30 rfl (lv_at hl 2 rfl) ?_
      refine lv_bipush (v := (-9)) hx hb dX5_lose_31 (by decide) ?_
      refine n_iast (i := w_1) (x := (-9)) (ws1 := wM g y ya yb yc yd ye yf yg yh yi yj yk yl ft tr (va_up lane w_1 3) ml cel np sl kd hg ps rs rn rk rh lg fk gt tkn nr ru rl rm rd) hx hb hK.1 hP hD hS 1 0 rfl rfl (by omega) (by decide) (fun j => sM ((va_up lane w_1 3) j)) (upd_sM3 lane w_1) rfl dX5_lose_33 (fun H locs hP hD hS => ?_)
      refine lv_iload_n hx hb dX5_lose_34 rfl (lv_at hl 0 rfl) ?_
      exact zretMI (w1 := fun (uu : Unit) => wM g y ya yb yc yd ye yf yg yh yi yj yk yl ft tr (st_lose lane (nI w_1)) ml cel np sl kd hg ps rs rn rk rh lg fk gt tkn nr ru rl rm rd) () hx hb hr hlocks hS rfl (by rw [sp_lose, if_pos (isP_of (by omega) hw_1), tN_nI (u := w_1) (by omega), if_pos h3]) (by rw [st_lose, if_pos (isP_of (by omega) hw_1), tN_nI (u := w_1) (by omega)]; exact hP) dX5_lose_35
  · refine lv_if_ne (tgt := 9) hx hb dX5_lose_4 (by decide) (fun c4 => ?_) (fun c4 => ?_)
    · exact absurd c4 (by decide)
    refine lv_iconst (v := (-1)) hx hb dX5_lose_7 (by decide) ?_
    exact zretMI (w1 := fun (uu : Unit) => wM g y ya yb yc yd ye yf yg yh yi yj yk yl ft tr (st_lose lane k) ml cel np sl kd hg ps rs rn rk rh lg fk gt tkn nr ru rl rm rd) () hx hb hr hlocks hS rfl (by rw [sp_lose, if_neg hn_1]) (by rw [st_lose, if_neg hn_1]; exact hP) dX5_lose_8

set_option maxHeartbeats 4000000 in
set_option maxRecDepth 100000 in
theorem c_X5_put (l : Launch) (g : Gx) (y : Nat) (ya : Nat) (yb : Nat) (yc : Nat) (yd : Nat) (ye : Nat) (yf : Nat) (yg : Nat) (yh : Nat) (yi : Nat) (yj : Nat) (yk : Nat) (yl : Nat) (ft : Nat) (tr : Int32) (lane : Nat → Nat) (ml : Nat → Nat) (cel : Nat → Nat → Int32) (np : Nat) (sl : Nat) (kd : Nat → Nat) (hg : Nat → Nat) (ps : Nat) (rs : Int32) (rn : Nat) (rk : Nat → Int32) (rh : Nat → Int32) (lg : Int32) (fk : Int32) (gt : Int32) (tkn : Nat → Int32) (nr : Nat) (ru : Nat → Nat) (rl : Nat → Nat) (rm : Nat → Nat) (rd : Nat → Nat) (k : Int32) (i : Int32) (v : Int32) (hG : Gd np sl kd hg nr ru rl rm rd lane ml) : Met l yX5_put wsX5_put ({ frames := 2, cells := 0, slots := 0, locals := 42 } : Room) (PcM g [.ref y, .int k, .int i, .int v] (wM g y ya yb yc yd ye yf yg yh yi yj yk yl ft tr lane ml cel np sl kd hg ps rs rn rk rh lg fk gt tkn nr ru rl rm rd)) (va_Qi (fun (r : Int32) (uu : Unit) => r = sp_put lane ml k i) (fun (uu : Unit) t => PP g (wM g y ya yb yc yd ye yf yg yh yi yj yk yl (ft_put lane ml k i) tr lane ml (st_put lane ml cel k i v) np sl kd hg ps rs rn rk rh lg fk gt tkn nr ru rl rm rd) t.heap) (inW (wM g y ya yb yc yd ye yf yg yh yi yj yk yl ft tr lane ml cel np sl kd hg ps rs rn rk rh lg fk gt tkn nr ru rl rm rd))) 0 0 (inW (wM g y ya yb yc yd ye yf yg yh yi yj yk yl ft tr lane ml cel np sl kd hg ps rs rn rk rh lg fk gt tkn nr ru rl rm rd)) := by
  refine zenterM (cc := cX5_put) (maxL := 4) (ret := (some .int)) (by decide) rfl (Nat.le_of_ble_eq_true rfl) ?_
  intro P E s mt below meth cd ls hx hb hml hown hts hr hlocks hP hK hD hS hl
  skip
  have hl : lv_has ls 4 [(0, .ref y), (1, .int k), (2, .int i), (3, .int v)] := hl
  have S0 : CallFix P mt cd cX5_put 4 s [.ref y, .int k, .int i, .int v].toArray wsX5_put RX5 := ⟨hx, hb, hml, hown, hts⟩
  obtain ⟨hnp, hsl, hkd, hhg, hnr, hru, hrl, hrm, hrd, hla, hmz⟩ := hG
  refine lv_aload_n hx hb dX5_put_0 rfl (lv_at hl 0 rfl) ?_
  refine lv_iconst (v := (nI 0)) hx hb dX5_put_1 (by decide) ?_
  refine n_put (D := g.1) (ci := 5) (v := .int (nI 0)) (ty := .int) (C := RX5) (T := TX5) (N := 23) (ws1 := wM g y ya yb yc yd ye yf yg yh yi yj yk yl 0 tr lane ml cel np sl kd hg ps rs rn rk rh lg fk gt tkn nr ru rl rm rd) hx hb hts (fun _ h => (List.mem_cons_of_mem _ (List.mem_append_right _ h))) tyX5 tyX5_ok nmX5 hown hK.1 hP hD hS 0 rfl rfl 0 (by decide) (hts _ (List.mem_of_getElem? (i := 1) rfl)) (fun _ h9 => h9) rfl (by decide +kernel) rfl rfl (Nat.le_of_ble_eq_true rfl) rfl dX5_put_2 (fun H locs hP hD hS => ?_)
  refine lv_iload_n hx hb dX5_put_5 rfl (lv_at hl 1 rfl) ?_
  refine zcallR (va_runS (As := [.int k]) (rest := []) S0 (c_X5_isSheet l g k) (va_cwS 1 hts gX5_put_X5_isSheet rfl rfl rfl (by decide +kernel) ⟨by decide, by decide⟩) (zpreS hK (P_nil _)) rfl rfl hl.1 rfl (lv_room (Nat.le_of_ble_eq_true rfl)) dX5_put_6 ⟨by decide, by decide⟩) (fun r6 h6 => ?_)
  rcases h6 with ⟨w_6, hw_6, hv_6, rfl⟩ | ⟨hn_6, rfl⟩
  · subst hv_6
    refine lv_if_ne (tgt := 14) hx hb dX5_put_9 (by decide) (fun c9 => ?_) (fun c9 => ?_)
    rotate_left
    · exact absurd c9 (by decide)
    refine lv_aload_n hx hb dX5_put_14 rfl (lv_at hl 0 rfl) ?_
    refine va_get (D := g.1) (ci := 5) (v := .ref ya) (C := RX5) (T := TX5) (N := 23) hx hb hts (fun _ h => (List.mem_cons_of_mem _ (List.mem_append_right _ h))) hown hK.1 hP 0 rfl rfl 2 (by decide) (hts _ (List.mem_of_getElem? (i := 2) rfl)) (fun _ h9 => h9) rfl dX5_put_15 ?_
    refine lv_iload_n hx hb dX5_put_18 rfl (lv_at hl 1 rfl) ?_
    refine n_iald (i := w_6) (v := (sM (lane w_6))) hx hb hK.1 hP 1 0 rfl rfl (by omega) (by decide) rfl dX5_put_19 ?_
    refine lv_bipush (v := (-9)) hx hb dX5_put_20 (by decide) ?_
    refine lv_icmp_ne (tgt := 31) hx hb dX5_put_22 (by decide) (fun c22 => ?_) (fun c22 => ?_)
    · have h3 : lane w_6 ≠ 3 := fun q => c22 ((sM_9 (hla _)).mpr q)
      have hm6 := hmz w_6
      have hl6 := hla w_6
      refine lv_iload_n hx hb dX5_put_31 rfl (lv_at hl 2 rfl) ?_
      refine lv_iconst (v := (nI 0)) hx hb dX5_put_32 (by decide) ?_
      refine lv_aload_n hx hb dX5_put_33 rfl (lv_at hl 0 rfl) ?_
      refine va_get (D := g.1) (ci := 5) (v := .ref yb) (C := RX5) (T := TX5) (N := 23) hx hb hts (fun _ h => (List.mem_cons_of_mem _ (List.mem_append_right _ h))) hown hK.1 hP 0 rfl rfl 3 (by decide) (hts _ (List.mem_of_getElem? (i := 3) rfl)) (fun _ h9 => h9) rfl dX5_put_34 ?_
      refine lv_iload_n hx hb dX5_put_37 rfl (lv_at hl 1 rfl) ?_
      refine n_iald (i := w_6) (v := (nI (ml w_6))) hx hb hK.1 hP 2 0 rfl rfl (by omega) (by decide) rfl dX5_put_38 ?_
      refine lv_iconst (v := (nI 1)) hx hb dX5_put_39 (by decide) ?_
      refine lv_isub hx hb dX5_put_40 ?_
      refine zcallR (va_runS (As := [.int i, .int (nI 0), .int ((nI (ml w_6)) - (nI 1))]) (rest := []) S0 (c_X5_within l g i (nI 0) ((nI (ml w_6)) - (nI 1))) (va_cwS 3 hts gX5_put_X5_within rfl rfl rfl (by decide +kernel) ⟨by decide, by decide⟩) (zpreS hK (P_nil _)) rfl rfl hl.1 rfl (lv_room (Nat.le_of_ble_eq_true rfl)) dX5_put_41 ⟨by decide, by decide⟩) (fun r41 h41 => ?_)
      subst h41
      have hbl := b01_le (nI 0 ≤ i ∧ i ≤ nI (ml w_6) - nI 1)
      refine n_if_ne (a := (b01 ((nI 0) ≤ i ∧ i ≤ ((nI (ml w_6)) - (nI 1))))) (tgt := 53) hx hb (by omega) dX5_put_44 (by decide) (fun c44 => ?_) (fun c44 => ?_)
      · obtain ⟨wi, hj_wi, e_wi⟩ := inM' (hmz _) ((inM (hmz _)).mp (b01_n0.mp c44))
        subst e_wi
        refine lv_aload_n hx hb dX5_put_53 rfl (lv_at hl 0 rfl) ?_
        refine va_get (D := g.1) (ci := 5) (v := .ref yc) (C := RX5) (T := TX5) (N := 23) hx hb hts (fun _ h => (List.mem_cons_of_mem _ (List.mem_append_right _ h))) hown hK.1 hP 0 rfl rfl 4 (by decide) (hts _ (List.mem_of_getElem? (i := 4) rfl)) (fun _ h9 => h9) rfl dX5_put_54 ?_
        refine lv_bipush (v := (nI 60)) hx hb dX5_put_57 (by decide) ?_
        refine lv_iload_n hx hb dX5_put_59 rfl (lv_at hl 1 rfl) ?_
        refine n_imul (a := 60) (b := w_6) hx hb dX5_put_60 ?_
        refine lv_iload_n hx hb dX5_put_61 rfl (lv_at hl 2 rfl) ?_
        refine n_iadd (a := (60 * w_6)) (b := wi) hx hb dX5_put_62 ?_
        refine lv_aload_n hx hb dX5_put_63 rfl (lv_at hl 0 rfl) ?_
        refine va_get (D := g.1) (ci := 5) (v := .ref ya) (C := RX5) (T := TX5) (N := 23) hx hb hts (fun _ h => (List.mem_cons_of_mem _ (List.mem_append_right _ h))) hown hK.1 hP 0 rfl rfl 2 (by decide) (hts _ (List.mem_of_getElem? (i := 2) rfl)) (fun _ h9 => h9) rfl dX5_put_64 ?_
        refine lv_iload_n hx hb dX5_put_67 rfl (lv_at hl 1 rfl) ?_
        refine n_iald (i := w_6) (v := (sM (lane w_6))) hx hb hK.1 hP 1 0 rfl rfl (by omega) (by decide) rfl dX5_put_68 ?_
        refine lv_if_ne (tgt := 77) hx hb dX5_put_69 (by decide) (fun c69 => ?_) (fun c69 => ?_)
        · refine lv_aload_n hx hb dX5_put_77 rfl (lv_at hl 0 rfl) ?_
          refine va_get (D := g.1) (ci := 5) (v := .ref ya) (C := RX5) (T := TX5) (N := 23) hx hb hts (fun _ h => (List.mem_cons_of_mem _ (List.mem_append_right _ h))) hown hK.1 hP 0 rfl rfl 2 (by decide) (hts _ (List.mem_of_getElem? (i := 2) rfl)) (fun _ h9 => h9) rfl dX5_put_78 ?_
          refine lv_iload_n hx hb dX5_put_81 rfl (lv_at hl 1 rfl) ?_
          refine n_iald (i := w_6) (v := (sM (lane w_6))) hx hb hK.1 hP 1 0 rfl rfl (by omega) (by decide) rfl dX5_put_82 ?_
          refine lv_iconst (v := (nI 1)) hx hb dX5_put_83 (by decide) ?_
          refine lv_icmp_ne (tgt := 92) hx hb dX5_put_84 (by decide) (fun c84 => ?_) (fun c84 => ?_)
          · refine lv_iload_n hx hb dX5_put_92 rfl (lv_at hl 3 rfl) ?_
            refine ztopI (cutI (nI (lane w_6)) v) (by rw [cutI, if_neg (by rw [← sM_n h3, nI_0]; exact c69), if_neg (by rw [← sM_n h3]; exact c84)]) ?_
            refine n_iast (i := ((60 * w_6) + wi)) (x := (cutI (nI (lane w_6)) v)) (ws1 := wM g y ya yb yc yd ye yf yg yh yi yj yk yl 0 tr lane ml (va_up cel w_6 (upd (cel w_6) wi (cutI (nI (lane w_6)) v))) np sl kd hg ps rs rn rk rh lg fk gt tkn nr ru rl rm rd) hx hb hK.1 hP hD hS 3 0 rfl rfl (by omega) (by decide) (fun j => (va_up cel w_6 (upd (cel w_6) wi (cutI (nI (lane w_6)) v))) (j / 60) (j % 60)) (upd_cel cel (cutI (nI (lane w_6)) v) (by omega)) rfl dX5_put_93 (fun H locs hP hD hS => ?_)
            refine lv_iconst (v := (nI 1)) hx hb dX5_put_94 (by decide) ?_
            exact zretMI (w1 := fun (uu : Unit) => wM g y ya yb yc yd ye yf yg yh yi yj yk yl (ft_put lane ml (nI w_6) (nI wi)) tr lane ml (st_put lane ml cel (nI w_6) (nI wi) v) np sl kd hg ps rs rn rk rh lg fk gt tkn nr ru rl rm rd) () hx hb hr hlocks hS rfl (by rw [sp_put, if_pos (isP_of (by omega) hw_6), tN_nI (u := w_6) (by omega), if_neg h3, if_pos (isP_of (by omega) hj_wi)]) (by simp only [st_put, ft_put, tN_nI (u := w_6) (by omega), tN_nI (u := wi) (by omega), if_pos (c := isP 4 (nI w_6) ∧ lane w_6 ≠ 3 ∧ isP (ml w_6) (nI wi)) ⟨(isP_of (by omega) hw_6), h3, isP_of (by omega) hj_wi⟩, if_pos (c := isP 4 (nI w_6)) (isP_of (by omega) hw_6), if_neg h3, if_pos (c := isP (ml w_6) (nI wi)) (isP_of (by omega) hj_wi)]; exact hP) dX5_put_95
          · refine lv_iload_n hx hb dX5_put_87 rfl (lv_at hl 3 rfl) ?_
            refine lv_i2s (v := v.toInt16.toInt32) hx hb dX5_put_88 rfl ?_
            refine ztopI (cutI (nI (lane w_6)) v) (by rw [cutI, if_neg (by rw [← sM_n h3, nI_0]; exact c69), if_pos (by rw [← sM_n h3]; exact c84)]) ?_
            refine lv_goto (tgt := 93) hx hb dX5_put_89 (by decide) ?_
            refine n_iast (i := ((60 * w_6) + wi)) (x := (cutI (nI (lane w_6)) v)) (ws1 := wM g y ya yb yc yd ye yf yg yh yi yj yk yl 0 tr lane ml (va_up cel w_6 (upd (cel w_6) wi (cutI (nI (lane w_6)) v))) np sl kd hg ps rs rn rk rh lg fk gt tkn nr ru rl rm rd) hx hb hK.1 hP hD hS 3 0 rfl rfl (by omega) (by decide) (fun j => (va_up cel w_6 (upd (cel w_6) wi (cutI (nI (lane w_6)) v))) (j / 60) (j % 60)) (upd_cel cel (cutI (nI (lane w_6)) v) (by omega)) rfl dX5_put_93 (fun H locs hP hD hS => ?_)
            refine lv_iconst (v := (nI 1)) hx hb dX5_put_94 (by decide) ?_
            exact zretMI (w1 := fun (uu : Unit) => wM g y ya yb yc yd ye yf yg yh yi yj yk yl (ft_put lane ml (nI w_6) (nI wi)) tr lane ml (st_put lane ml cel (nI w_6) (nI wi) v) np sl kd hg ps rs rn rk rh lg fk gt tkn nr ru rl rm rd) () hx hb hr hlocks hS rfl (by rw [sp_put, if_pos (isP_of (by omega) hw_6), tN_nI (u := w_6) (by omega), if_neg h3, if_pos (isP_of (by omega) hj_wi)]) (by simp only [st_put, ft_put, tN_nI (u := w_6) (by omega), tN_nI (u := wi) (by omega), if_pos (c := isP 4 (nI w_6) ∧ lane w_6 ≠ 3 ∧ isP (ml w_6) (nI wi)) ⟨(isP_of (by omega) hw_6), h3, isP_of (by omega) hj_wi⟩, if_pos (c := isP 4 (nI w_6)) (isP_of (by omega) hw_6), if_neg h3, if_pos (c := isP (ml w_6) (nI wi)) (isP_of (by omega) hj_wi)]; exact hP) dX5_put_95
        · refine lv_iload_n hx hb dX5_put_72 rfl (lv_at hl 3 rfl) ?_
          refine lv_i2b (v := v.toInt8.toInt32) hx hb dX5_put_73 rfl ?_
          refine ztopI (cutI (nI (lane w_6)) v) (by rw [cutI, if_pos (by rw [← sM_n h3, nI_0]; exact c69)]) ?_
          refine lv_goto (tgt := 93) hx hb dX5_put_74 (by decide) ?_
          refine n_iast (i := ((60 * w_6) + wi)) (x := (cutI (nI (lane w_6)) v)) (ws1 := wM g y ya yb yc yd ye yf yg yh yi yj yk yl 0 tr lane ml (va_up cel w_6 (upd (cel w_6) wi (cutI (nI (lane w_6)) v))) np sl kd hg ps rs rn rk rh lg fk gt tkn nr ru rl rm rd) hx hb hK.1 hP hD hS 3 0 rfl rfl (by omega) (by decide) (fun j => (va_up cel w_6 (upd (cel w_6) wi (cutI (nI (lane w_6)) v))) (j / 60) (j % 60)) (upd_cel cel (cutI (nI (lane w_6)) v) (by omega)) rfl dX5_put_93 (fun H locs hP hD hS => ?_)
          refine lv_iconst (v := (nI 1)) hx hb dX5_put_94 (by decide) ?_
          exact zretMI (w1 := fun (uu : Unit) => wM g y ya yb yc yd ye yf yg yh yi yj yk yl (ft_put lane ml (nI w_6) (nI wi)) tr lane ml (st_put lane ml cel (nI w_6) (nI wi) v) np sl kd hg ps rs rn rk rh lg fk gt tkn nr ru rl rm rd) () hx hb hr hlocks hS rfl (by rw [sp_put, if_pos (isP_of (by omega) hw_6), tN_nI (u := w_6) (by omega), if_neg h3, if_pos (isP_of (by omega) hj_wi)]) (by simp only [st_put, ft_put, tN_nI (u := w_6) (by omega), tN_nI (u := wi) (by omega), if_pos (c := isP 4 (nI w_6) ∧ lane w_6 ≠ 3 ∧ isP (ml w_6) (nI wi)) ⟨(isP_of (by omega) hw_6), h3, isP_of (by omega) hj_wi⟩, if_pos (c := isP 4 (nI w_6)) (isP_of (by omega) hw_6), if_neg h3, if_pos (c := isP (ml w_6) (nI wi)) (isP_of (by omega) hj_wi)]; exact hP) dX5_put_95
      · refine lv_aload_n hx hb dX5_put_47 rfl (lv_at hl 0 rfl) ?_
        refine lv_iconst (v := (nI 3)) hx hb dX5_put_48 (by decide) ?_
        have hPc : PP g (wM g y ya yb yc yd ye yf yg yh yi yj yk yl 0 tr lane ml cel np sl kd hg ps rs rn rk rh lg fk gt tkn nr ru rl rm rd) _ := P_sub hP [0, 1, 2, 3, 4, 5, 6, 7, 8, 9, 10, 11, 12] rfl
        refine zcallM (w := wM g y ya yb yc yd ye yf yg yh yi yj yk yl 0 tr lane ml cel np sl kd hg ps rs rn rk rh lg fk gt tkn nr ru rl rm rd) (va_runV (As := [.int (nI 3)]) (rest := []) (b := y) S0 (c_X5_fails l g y ya yb yc yd ye yf yg yh yi yj yk yl 0 tr lane ml cel np sl kd hg ps rs rn rk rh lg fk gt tkn nr ru rl rm rd 3) (cwV 1 hts gX5_put_X5_fails rfl rfl rfl (by decide +kernel) ⟨by decide, by decide⟩) (zpreVM hK hP hD [0, 1, 2, 3, 4, 5, 6, 7, 8, 9, 10, 11, 12] rfl (by decide) (va_recv hK.1 hPc (ci := 5) (q0 := 0) rfl rfl)) rfl rfl hl.1 rfl (lv_room (Nat.le_of_ble_eq_true rfl)) dX5_put_49 ⟨by decide, by decide⟩) hP hD hS [0, 1, 2, 3, 4, 5, 6, 7, 8, 9, 10, 11, 12] rfl (fun uu49 => wM g y ya yb yc yd ye yf yg yh yi yj yk yl 3 tr lane ml cel np sl kd hg ps rs rn rk rh lg fk gt tkn nr ru rl rm rd) (fun _ => lz_wM.trans lz_wM.symm) (fun _ => rfl) (fun _ => ad_wM.trans ad_wM.symm) (fun r49 uu49 H locs h49 hP hD hS => ?_)
        subst h49
        exact zretMI (w1 := fun (uu : Unit) => wM g y ya yb yc yd ye yf yg yh yi yj yk yl (ft_put lane ml (nI w_6) i) tr lane ml (st_put lane ml cel (nI w_6) i v) np sl kd hg ps rs rn rk rh lg fk gt tkn nr ru rl rm rd) () hx hb hr hlocks hS rfl (by rw [sp_put, if_pos (isP_of (by omega) hw_6), tN_nI (u := w_6) (by omega), if_neg h3, if_neg (fun z => b01_0.mp c44 ((inM (hmz _)).mpr z))]) (by simp only [st_put, ft_put, tN_nI (u := w_6) (by omega), if_neg (c := isP 4 (nI w_6) ∧ lane w_6 ≠ 3 ∧ isP (ml w_6) i) (fun z => b01_0.mp c44 ((inM (hmz _)).mpr z.2.2)), if_pos (c := isP 4 (nI w_6)) (isP_of (by omega) hw_6), if_neg h3, if_neg (c := isP (ml w_6) i) (fun z => b01_0.mp c44 ((inM (hmz _)).mpr z))]; exact hP) dX5_put_52
    · have h3 : lane w_6 = 3 := (sM_9 (hla _)).mp c22
      refine lv_aload_n hx hb dX5_put_25 rfl (lv_at hl 0 rfl) ?_
      refine lv_iconst (v := (nI 1)) hx hb dX5_put_26 (by decide) ?_
      have hPc : PP g (wM g y ya yb yc yd ye yf yg yh yi yj yk yl 0 tr lane ml cel np sl kd hg ps rs rn rk rh lg fk gt tkn nr ru rl rm rd) _ := P_sub hP [0, 1, 2, 3, 4, 5, 6, 7, 8, 9, 10, 11, 12] rfl
      refine zcallM (w := wM g y ya yb yc yd ye yf yg yh yi yj yk yl 0 tr lane ml cel np sl kd hg ps rs rn rk rh lg fk gt tkn nr ru rl rm rd) (va_runV (As := [.int (nI 1)]) (rest := []) (b := y) S0 (c_X5_fails l g y ya yb yc yd ye yf yg yh yi yj yk yl 0 tr lane ml cel np sl kd hg ps rs rn rk rh lg fk gt tkn nr ru rl rm rd 1) (cwV 1 hts gX5_put_X5_fails rfl rfl rfl (by decide +kernel) ⟨by decide, by decide⟩) (zpreVM hK hP hD [0, 1, 2, 3, 4, 5, 6, 7, 8, 9, 10, 11, 12] rfl (by decide) (va_recv hK.1 hPc (ci := 5) (q0 := 0) rfl rfl)) rfl rfl hl.1 rfl (lv_room (Nat.le_of_ble_eq_true rfl)) dX5_put_27 ⟨by decide, by decide⟩) hP hD hS [0, 1, 2, 3, 4, 5, 6, 7, 8, 9, 10, 11, 12] rfl (fun uu27 => wM g y ya yb yc yd ye yf yg yh yi yj yk yl 1 tr lane ml cel np sl kd hg ps rs rn rk rh lg fk gt tkn nr ru rl rm rd) (fun _ => lz_wM.trans lz_wM.symm) (fun _ => rfl) (fun _ => ad_wM.trans ad_wM.symm) (fun r27 uu27 H locs h27 hP hD hS => ?_)
      subst h27
      exact zretMI (w1 := fun (uu : Unit) => wM g y ya yb yc yd ye yf yg yh yi yj yk yl (ft_put lane ml (nI w_6) i) tr lane ml (st_put lane ml cel (nI w_6) i v) np sl kd hg ps rs rn rk rh lg fk gt tkn nr ru rl rm rd) () hx hb hr hlocks hS rfl (by rw [sp_put, if_pos (isP_of (by omega) hw_6), tN_nI (u := w_6) (by omega), if_pos h3]) (by simp only [st_put, ft_put, tN_nI (u := w_6) (by omega), if_neg (c := isP 4 (nI w_6) ∧ lane w_6 ≠ 3 ∧ isP (ml w_6) i) (fun z => z.2.1 h3), if_pos (c := isP 4 (nI w_6)) (isP_of (by omega) hw_6), if_pos h3]; exact hP) dX5_put_30
  · refine lv_if_ne (tgt := 14) hx hb dX5_put_9 (by decide) (fun c9 => ?_) (fun c9 => ?_)
    · exact absurd c9 (by decide)
    refine lv_iconst (v := (-1)) hx hb dX5_put_12 (by decide) ?_
    exact zretMI (w1 := fun (uu : Unit) => wM g y ya yb yc yd ye yf yg yh yi yj yk yl (ft_put lane ml k i) tr lane ml (st_put lane ml cel k i v) np sl kd hg ps rs rn rk rh lg fk gt tkn nr ru rl rm rd) () hx hb hr hlocks hS rfl (by rw [sp_put, if_neg hn_6]) (by simp only [st_put, ft_put, if_neg (c := isP 4 k ∧ lane (tN k) ≠ 3 ∧ isP (ml (tN k)) i) (fun z => hn_6 z.1), if_neg hn_6]; exact hP) dX5_put_13

set_option maxHeartbeats 4000000 in
set_option maxRecDepth 100000 in
theorem c_X5_cell (l : Launch) (g : Gx) (y : Nat) (ya : Nat) (yb : Nat) (yc : Nat) (yd : Nat) (ye : Nat) (yf : Nat) (yg : Nat) (yh : Nat) (yi : Nat) (yj : Nat) (yk : Nat) (yl : Nat) (ft : Nat) (tr : Int32) (lane : Nat → Nat) (ml : Nat → Nat) (cel : Nat → Nat → Int32) (np : Nat) (sl : Nat) (kd : Nat → Nat) (hg : Nat → Nat) (ps : Nat) (rs : Int32) (rn : Nat) (rk : Nat → Int32) (rh : Nat → Int32) (lg : Int32) (fk : Int32) (gt : Int32) (tkn : Nat → Int32) (nr : Nat) (ru : Nat → Nat) (rl : Nat → Nat) (rm : Nat → Nat) (rd : Nat → Nat) (k : Int32) (i : Int32) (q : Int32) (hG : Gd np sl kd hg nr ru rl rm rd lane ml) : Met l yX5_cell wsX5_cell ({ frames := 2, cells := 0, slots := 0, locals := 42 } : Room) (PcM g [.ref y, .int k, .int i, .int q] (wM g y ya yb yc yd ye yf yg yh yi yj yk yl ft tr lane ml cel np sl kd hg ps rs rn rk rh lg fk gt tkn nr ru rl rm rd)) (va_Ql (fun (r : Int64) (uu : Unit) => r = sp_cell lane ml cel k i q) (fun (uu : Unit) t => PP g (wM g y ya yb yc yd ye yf yg yh yi yj yk yl (ft_cell lane ml k i q) tr lane ml cel np sl kd hg ps rs rn rk rh lg fk gt tkn nr ru rl rm rd) t.heap) (inW (wM g y ya yb yc yd ye yf yg yh yi yj yk yl ft tr lane ml cel np sl kd hg ps rs rn rk rh lg fk gt tkn nr ru rl rm rd))) 0 0 (inW (wM g y ya yb yc yd ye yf yg yh yi yj yk yl ft tr lane ml cel np sl kd hg ps rs rn rk rh lg fk gt tkn nr ru rl rm rd)) := by
  refine zenterM (cc := cX5_cell) (maxL := 4) (ret := (some .long)) (by decide) rfl (Nat.le_of_ble_eq_true rfl) ?_
  intro P E s mt below meth cd ls hx hb hml hown hts hr hlocks hP hK hD hS hl
  skip
  have hl : lv_has ls 4 [(0, .ref y), (1, .int k), (2, .int i), (3, .int q)] := hl
  have S0 : CallFix P mt cd cX5_cell 4 s [.ref y, .int k, .int i, .int q].toArray wsX5_cell RX5 := ⟨hx, hb, hml, hown, hts⟩
  obtain ⟨hnp, hsl, hkd, hhg, hnr, hru, hrl, hrm, hrd, hla, hmz⟩ := hG
  refine lv_aload_n hx hb dX5_cell_0 rfl (lv_at hl 0 rfl) ?_
  refine lv_iconst (v := (nI 0)) hx hb dX5_cell_1 (by decide) ?_
  refine n_put (D := g.1) (ci := 5) (v := .int (nI 0)) (ty := .int) (C := RX5) (T := TX5) (N := 23) (ws1 := wM g y ya yb yc yd ye yf yg yh yi yj yk yl 0 tr lane ml cel np sl kd hg ps rs rn rk rh lg fk gt tkn nr ru rl rm rd) hx hb hts (fun _ h => (List.mem_cons_of_mem _ (List.mem_append_right _ h))) tyX5 tyX5_ok nmX5 hown hK.1 hP hD hS 0 rfl rfl 0 (by decide) (hts _ (List.mem_of_getElem? (i := 1) rfl)) (fun _ h9 => h9) rfl (by decide +kernel) rfl rfl (Nat.le_of_ble_eq_true rfl) rfl dX5_cell_2 (fun H locs hP hD hS => ?_)
  refine lv_iload_n hx hb dX5_cell_5 rfl (lv_at hl 1 rfl) ?_
  refine zcallR (va_runS (As := [.int k]) (rest := []) S0 (c_X5_isSheet l g k) (va_cwS 1 hts gX5_cell_X5_isSheet rfl rfl rfl (by decide +kernel) ⟨by decide, by decide⟩) (zpreS hK (P_nil _)) rfl rfl hl.1 rfl (lv_room (Nat.le_of_ble_eq_true rfl)) dX5_cell_6 ⟨by decide, by decide⟩) (fun r6 h6 => ?_)
  rcases h6 with ⟨w_6, hw_6, hv_6, rfl⟩ | ⟨hn_6, rfl⟩
  · subst hv_6
    refine lv_if_eq (tgt := 19) hx hb dX5_cell_9 (by decide) (fun c9 => ?_) (fun c9 => ?_)
    · exact absurd c9 (by decide)
    refine lv_iload_n hx hb dX5_cell_12 rfl (lv_at hl 3 rfl) ?_
    refine zcallR (va_runS (As := [.int q]) (rest := []) S0 (c_X5_isSort l g q) (va_cwS 1 hts gX5_cell_X5_isSort rfl rfl rfl (by decide +kernel) ⟨by decide, by decide⟩) (zpreS hK (P_nil _)) rfl rfl hl.1 rfl (lv_room (Nat.le_of_ble_eq_true rfl)) dX5_cell_13 ⟨by decide, by decide⟩) (fun r13 h13 => ?_)
    rcases h13 with ⟨w_13, hw_13, hv_13, rfl⟩ | ⟨hn_13, rfl⟩
    · subst hv_13
      refine lv_if_ne (tgt := 23) hx hb dX5_cell_16 (by decide) (fun c16 => ?_) (fun c16 => ?_)
      rotate_left
      · exact absurd c16 (by decide)
      refine lv_aload_n hx hb dX5_cell_23 rfl (lv_at hl 0 rfl) ?_
      refine va_get (D := g.1) (ci := 5) (v := .ref ya) (C := RX5) (T := TX5) (N := 23) hx hb hts (fun _ h => (List.mem_cons_of_mem _ (List.mem_append_right _ h))) hown hK.1 hP 0 rfl rfl 2 (by decide) (hts _ (List.mem_of_getElem? (i := 3) rfl)) (fun _ h9 => h9) rfl dX5_cell_24 ?_
      refine lv_iload_n hx hb dX5_cell_27 rfl (lv_at hl 1 rfl) ?_
      refine n_iald (i := w_6) (v := (sM (lane w_6))) hx hb hK.1 hP 1 0 rfl rfl (by omega) (by decide) rfl dX5_cell_28 ?_
      refine lv_bipush (v := (-9)) hx hb dX5_cell_29 (by decide) ?_
      refine lv_icmp_eq (tgt := 50) hx hb dX5_cell_31 (by decide) (fun c31 => ?_) (fun c31 => ?_)
      · have h3 : lane w_6 = 3 := (sM_9 (hla _)).mp c31
        refine lv_aload_n hx hb dX5_cell_50 rfl (lv_at hl 0 rfl) ?_
        refine va_get (D := g.1) (ci := 5) (v := .ref ya) (C := RX5) (T := TX5) (N := 23) hx hb hts (fun _ h => (List.mem_cons_of_mem _ (List.mem_append_right _ h))) hown hK.1 hP 0 rfl rfl 2 (by decide) (hts _ (List.mem_of_getElem? (i := 3) rfl)) (fun _ h9 => h9) rfl dX5_cell_51 ?_
        refine lv_iload_n hx hb dX5_cell_54 rfl (lv_at hl 1 rfl) ?_
        refine n_iald (i := w_6) (v := (sM (lane w_6))) hx hb hK.1 hP 1 0 rfl rfl (by omega) (by decide) rfl dX5_cell_55 ?_
        refine lv_bipush (v := (-9)) hx hb dX5_cell_56 (by decide) ?_
        refine lv_icmp_ne (tgt := 67) hx hb dX5_cell_58 (by decide) (fun c58 => ?_) (fun c58 => ?_)
        · exact absurd c31 c58
        · refine lv_aload_n hx hb dX5_cell_61 rfl (lv_at hl 0 rfl) ?_
          refine lv_iconst (v := (nI 1)) hx hb dX5_cell_62 (by decide) ?_
          have hPc : PP g (wM g y ya yb yc yd ye yf yg yh yi yj yk yl 0 tr lane ml cel np sl kd hg ps rs rn rk rh lg fk gt tkn nr ru rl rm rd) _ := P_sub hP [0, 1, 2, 3, 4, 5, 6, 7, 8, 9, 10, 11, 12] rfl
          refine zcallML (w := wM g y ya yb yc yd ye yf yg yh yi yj yk yl 0 tr lane ml cel np sl kd hg ps rs rn rk rh lg fk gt tkn nr ru rl rm rd) (va_runV (As := [.int (nI 1)]) (rest := []) (b := y) S0 (c_X5_lost l g y ya yb yc yd ye yf yg yh yi yj yk yl 0 tr lane ml cel np sl kd hg ps rs rn rk rh lg fk gt tkn nr ru rl rm rd 1) (cwV 1 hts gX5_cell_X5_lost rfl rfl rfl (by decide +kernel) ⟨by decide, by decide⟩) (zpreVM hK hP hD [0, 1, 2, 3, 4, 5, 6, 7, 8, 9, 10, 11, 12] rfl (by decide) (va_recv hK.1 hPc (ci := 5) (q0 := 0) rfl rfl)) rfl rfl hl.1 rfl (lv_room (Nat.le_of_ble_eq_true rfl)) dX5_cell_63 ⟨by decide, by decide⟩) hP hD hS [0, 1, 2, 3, 4, 5, 6, 7, 8, 9, 10, 11, 12] rfl (fun uu63 => wM g y ya yb yc yd ye yf yg yh yi yj yk yl 1 tr lane ml cel np sl kd hg ps rs rn rk rh lg fk gt tkn nr ru rl rm rd) (fun _ => lz_wM.trans lz_wM.symm) (fun _ => rfl) (fun _ => ad_wM.trans ad_wM.symm) (fun r63 uu63 H locs h63 hP hD hS => ?_)
          subst h63
          exact zretML (w1 := fun (uu : Unit) => wM g y ya yb yc yd ye yf yg yh yi yj yk yl (ft_cell lane ml (nI w_6) i (nI w_13)) tr lane ml cel np sl kd hg ps rs rn rk rh lg fk gt tkn nr ru rl rm rd) () hx hb hr hlocks hS (by rw [sp_cell, if_pos (c := isP 4 (nI w_6) ∧ isP 3 (nI w_13)) ⟨(isP_of (by omega) hw_6), (isP_of (by omega) hw_13)⟩, tN_nI (u := w_6) (by omega), tN_nI (u := w_13) (by omega), if_pos (by rw [fR, if_pos h3]; decide)]) (by rw [ft_cell, if_pos (c := isP 4 (nI w_6) ∧ isP 3 (nI w_13)) ⟨(isP_of (by omega) hw_6), (isP_of (by omega) hw_13)⟩, tN_nI (u := w_6) (by omega), tN_nI (u := w_13) (by omega), if_pos (by rw [fR, if_pos h3]; decide), fR, if_pos h3]; exact hP) dX5_cell_66
      · have h3 : lane w_6 ≠ 3 := fun q => c31 ((sM_9 (hla _)).mpr q)
        have hm6 := hmz w_6
        refine lv_aload_n hx hb dX5_cell_34 rfl (lv_at hl 0 rfl) ?_
        refine va_get (D := g.1) (ci := 5) (v := .ref ya) (C := RX5) (T := TX5) (N := 23) hx hb hts (fun _ h => (List.mem_cons_of_mem _ (List.mem_append_right _ h))) hown hK.1 hP 0 rfl rfl 2 (by decide) (hts _ (List.mem_of_getElem? (i := 3) rfl)) (fun _ h9 => h9) rfl dX5_cell_35 ?_
        refine lv_iload_n hx hb dX5_cell_38 rfl (lv_at hl 1 rfl) ?_
        refine n_iald (i := w_6) (v := (sM (lane w_6))) hx hb hK.1 hP 1 0 rfl rfl (by omega) (by decide) rfl dX5_cell_39 ?_
        refine lv_iload_n hx hb dX5_cell_40 rfl (lv_at hl 3 rfl) ?_
        refine lv_icmp_eq (tgt := 50) hx hb dX5_cell_41 (by decide) (fun c41 => ?_) (fun c41 => ?_)
        · have hq : lane w_6 = w_13 := (sM_z (hla _) h3 (by omega)).mp c41
          refine lv_aload_n hx hb dX5_cell_50 rfl (lv_at hl 0 rfl) ?_
          refine va_get (D := g.1) (ci := 5) (v := .ref ya) (C := RX5) (T := TX5) (N := 23) hx hb hts (fun _ h => (List.mem_cons_of_mem _ (List.mem_append_right _ h))) hown hK.1 hP 0 rfl rfl 2 (by decide) (hts _ (List.mem_of_getElem? (i := 3) rfl)) (fun _ h9 => h9) rfl dX5_cell_51 ?_
          refine lv_iload_n hx hb dX5_cell_54 rfl (lv_at hl 1 rfl) ?_
          refine n_iald (i := w_6) (v := (sM (lane w_6))) hx hb hK.1 hP 1 0 rfl rfl (by omega) (by decide) rfl dX5_cell_55 ?_
          refine lv_bipush (v := (-9)) hx hb dX5_cell_56 (by decide) ?_
          refine lv_icmp_ne (tgt := 67) hx hb dX5_cell_58 (by decide) (fun c58 => ?_) (fun c58 => ?_)
          · refine lv_iload_n hx hb dX5_cell_67 rfl (lv_at hl 2 rfl) ?_
            refine lv_iconst (v := (nI 0)) hx hb dX5_cell_68 (by decide) ?_
            refine lv_aload_n hx hb dX5_cell_69 rfl (lv_at hl 0 rfl) ?_
            refine va_get (D := g.1) (ci := 5) (v := .ref yb) (C := RX5) (T := TX5) (N := 23) hx hb hts (fun _ h => (List.mem_cons_of_mem _ (List.mem_append_right _ h))) hown hK.1 hP 0 rfl rfl 3 (by decide) (hts _ (List.mem_of_getElem? (i := 4) rfl)) (fun _ h9 => h9) rfl dX5_cell_70 ?_
            refine lv_iload_n hx hb dX5_cell_73 rfl (lv_at hl 1 rfl) ?_
            refine n_iald (i := w_6) (v := (nI (ml w_6))) hx hb hK.1 hP 2 0 rfl rfl (by omega) (by decide) rfl dX5_cell_74 ?_
            refine lv_iconst (v := (nI 1)) hx hb dX5_cell_75 (by decide) ?_
            refine lv_isub hx hb dX5_cell_76 ?_
            refine zcallR (va_runS (As := [.int i, .int (nI 0), .int ((nI (ml w_6)) - (nI 1))]) (rest := []) S0 (c_X5_within l g i (nI 0) ((nI (ml w_6)) - (nI 1))) (va_cwS 3 hts gX5_cell_X5_within rfl rfl rfl (by decide +kernel) ⟨by decide, by decide⟩) (zpreS hK (P_nil _)) rfl rfl hl.1 rfl (lv_room (Nat.le_of_ble_eq_true rfl)) dX5_cell_77 ⟨by decide, by decide⟩) (fun r77 h77 => ?_)
            subst h77
            have hbl := b01_le (nI 0 ≤ i ∧ i ≤ nI (ml w_6) - nI 1)
            refine n_if_ne (a := (b01 ((nI 0) ≤ i ∧ i ≤ ((nI (ml w_6)) - (nI 1))))) (tgt := 89) hx hb (by omega) dX5_cell_80 (by decide) (fun c80 => ?_) (fun c80 => ?_)
            · obtain ⟨wi, hj_wi, e_wi⟩ := inM' (hmz _) ((inM (hmz _)).mp (b01_n0.mp c80))
              subst e_wi
              refine lv_aload_n hx hb dX5_cell_89 rfl (lv_at hl 0 rfl) ?_
              refine va_get (D := g.1) (ci := 5) (v := .ref yc) (C := RX5) (T := TX5) (N := 23) hx hb hts (fun _ h => (List.mem_cons_of_mem _ (List.mem_append_right _ h))) hown hK.1 hP 0 rfl rfl 4 (by decide) (hts _ (List.mem_of_getElem? (i := 5) rfl)) (fun _ h9 => h9) rfl dX5_cell_90 ?_
              refine lv_bipush (v := (nI 60)) hx hb dX5_cell_93 (by decide) ?_
              refine lv_iload_n hx hb dX5_cell_95 rfl (lv_at hl 1 rfl) ?_
              refine n_imul (a := 60) (b := w_6) hx hb dX5_cell_96 ?_
              refine lv_iload_n hx hb dX5_cell_97 rfl (lv_at hl 2 rfl) ?_
              refine n_iadd (a := (60 * w_6)) (b := wi) hx hb dX5_cell_98 ?_
              refine n_iald (i := ((60 * w_6) + wi)) (v := (cel (((60 * w_6) + wi) / 60) (((60 * w_6) + wi) % 60))) hx hb hK.1 hP 3 0 rfl rfl (by omega) (by decide) rfl dX5_cell_99 ?_
              refine ztopI (cel w_6 wi) (by rw [show (60 * w_6 + wi) / 60 = w_6 by omega, show (60 * w_6 + wi) % 60 = wi by omega]) ?_
              refine lv_i2l (v := (cel w_6 wi).toInt64) hx hb dX5_cell_100 rfl ?_
              exact zretML (w1 := fun (uu : Unit) => wM g y ya yb yc yd ye yf yg yh yi yj yk yl (ft_cell lane ml (nI w_6) (nI wi) (nI w_13)) tr lane ml cel np sl kd hg ps rs rn rk rh lg fk gt tkn nr ru rl rm rd) () hx hb hr hlocks hS (by rw [sp_cell, if_pos (c := isP 4 (nI w_6) ∧ isP 3 (nI w_13)) ⟨(isP_of (by omega) hw_6), (isP_of (by omega) hw_13)⟩, tN_nI (u := w_6) (by omega), tN_nI (u := w_13) (by omega), if_neg (fR_z h3 hq), if_pos (isP_of (by omega) hj_wi), tN_nI (u := wi) (by omega)]) (by rw [ft_cell, if_pos (c := isP 4 (nI w_6) ∧ isP 3 (nI w_13)) ⟨(isP_of (by omega) hw_6), (isP_of (by omega) hw_13)⟩, tN_nI (u := w_6) (by omega), tN_nI (u := w_13) (by omega), if_neg (fR_z h3 hq), if_pos (isP_of (by omega) hj_wi)]; exact hP) dX5_cell_101
            · refine lv_aload_n hx hb dX5_cell_83 rfl (lv_at hl 0 rfl) ?_
              refine lv_iconst (v := (nI 3)) hx hb dX5_cell_84 (by decide) ?_
              have hPc : PP g (wM g y ya yb yc yd ye yf yg yh yi yj yk yl 0 tr lane ml cel np sl kd hg ps rs rn rk rh lg fk gt tkn nr ru rl rm rd) _ := P_sub hP [0, 1, 2, 3, 4, 5, 6, 7, 8, 9, 10, 11, 12] rfl
              refine zcallML (w := wM g y ya yb yc yd ye yf yg yh yi yj yk yl 0 tr lane ml cel np sl kd hg ps rs rn rk rh lg fk gt tkn nr ru rl rm rd) (va_runV (As := [.int (nI 3)]) (rest := []) (b := y) S0 (c_X5_lost l g y ya yb yc yd ye yf yg yh yi yj yk yl 0 tr lane ml cel np sl kd hg ps rs rn rk rh lg fk gt tkn nr ru rl rm rd 3) (cwV 1 hts gX5_cell_X5_lost rfl rfl rfl (by decide +kernel) ⟨by decide, by decide⟩) (zpreVM hK hP hD [0, 1, 2, 3, 4, 5, 6, 7, 8, 9, 10, 11, 12] rfl (by decide) (va_recv hK.1 hPc (ci := 5) (q0 := 0) rfl rfl)) rfl rfl hl.1 rfl (lv_room (Nat.le_of_ble_eq_true rfl)) dX5_cell_85 ⟨by decide, by decide⟩) hP hD hS [0, 1, 2, 3, 4, 5, 6, 7, 8, 9, 10, 11, 12] rfl (fun uu85 => wM g y ya yb yc yd ye yf yg yh yi yj yk yl 3 tr lane ml cel np sl kd hg ps rs rn rk rh lg fk gt tkn nr ru rl rm rd) (fun _ => lz_wM.trans lz_wM.symm) (fun _ => rfl) (fun _ => ad_wM.trans ad_wM.symm) (fun r85 uu85 H locs h85 hP hD hS => ?_)
              subst h85
              exact zretML (w1 := fun (uu : Unit) => wM g y ya yb yc yd ye yf yg yh yi yj yk yl (ft_cell lane ml (nI w_6) i (nI w_13)) tr lane ml cel np sl kd hg ps rs rn rk rh lg fk gt tkn nr ru rl rm rd) () hx hb hr hlocks hS (by rw [sp_cell, if_pos (c := isP 4 (nI w_6) ∧ isP 3 (nI w_13)) ⟨(isP_of (by omega) hw_6), (isP_of (by omega) hw_13)⟩, tN_nI (u := w_6) (by omega), tN_nI (u := w_13) (by omega), if_neg (fR_z h3 hq), if_neg (fun z => b01_0.mp c80 ((inM (hmz _)).mpr z))]) (by rw [ft_cell, if_pos (c := isP 4 (nI w_6) ∧ isP 3 (nI w_13)) ⟨(isP_of (by omega) hw_6), (isP_of (by omega) hw_13)⟩, tN_nI (u := w_6) (by omega), tN_nI (u := w_13) (by omega), if_neg (fR_z h3 hq), if_neg (fun z => b01_0.mp c80 ((inM (hmz _)).mpr z))]; exact hP) dX5_cell_88
          · exact absurd c58 c31
        · have hq : lane w_6 ≠ w_13 := fun q => c41 ((sM_z (hla _) h3 (by omega)).mpr q)
          refine lv_aload_n hx hb dX5_cell_44 rfl (lv_at hl 0 rfl) ?_
          refine lv_iconst (v := (nI 2)) hx hb dX5_cell_45 (by decide) ?_
          have hPc : PP g (wM g y ya yb yc yd ye yf yg yh yi yj yk yl 0 tr lane ml cel np sl kd hg ps rs rn rk rh lg fk gt tkn nr ru rl rm rd) _ := P_sub hP [0, 1, 2, 3, 4, 5, 6, 7, 8, 9, 10, 11, 12] rfl
          refine zcallML (w := wM g y ya yb yc yd ye yf yg yh yi yj yk yl 0 tr lane ml cel np sl kd hg ps rs rn rk rh lg fk gt tkn nr ru rl rm rd) (va_runV (As := [.int (nI 2)]) (rest := []) (b := y) S0 (c_X5_lost l g y ya yb yc yd ye yf yg yh yi yj yk yl 0 tr lane ml cel np sl kd hg ps rs rn rk rh lg fk gt tkn nr ru rl rm rd 2) (cwV 1 hts gX5_cell_X5_lost rfl rfl rfl (by decide +kernel) ⟨by decide, by decide⟩) (zpreVM hK hP hD [0, 1, 2, 3, 4, 5, 6, 7, 8, 9, 10, 11, 12] rfl (by decide) (va_recv hK.1 hPc (ci := 5) (q0 := 0) rfl rfl)) rfl rfl hl.1 rfl (lv_room (Nat.le_of_ble_eq_true rfl)) dX5_cell_46 ⟨by decide, by decide⟩) hP hD hS [0, 1, 2, 3, 4, 5, 6, 7, 8, 9, 10, 11, 12] rfl (fun uu46 => wM g y ya yb yc yd ye yf yg yh yi yj yk yl 2 tr lane ml cel np sl kd hg ps rs rn rk rh lg fk gt tkn nr ru rl rm rd) (fun _ => lz_wM.trans lz_wM.symm) (fun _ => rfl) (fun _ => ad_wM.trans ad_wM.symm) (fun r46 uu46 H locs h46 hP hD hS => ?_)
          subst h46
          exact zretML (w1 := fun (uu : Unit) => wM g y ya yb yc yd ye yf yg yh yi yj yk yl (ft_cell lane ml (nI w_6) i (nI w_13)) tr lane ml cel np sl kd hg ps rs rn rk rh lg fk gt tkn nr ru rl rm rd) () hx hb hr hlocks hS (by rw [sp_cell, if_pos (c := isP 4 (nI w_6) ∧ isP 3 (nI w_13)) ⟨(isP_of (by omega) hw_6), (isP_of (by omega) hw_13)⟩, tN_nI (u := w_6) (by omega), tN_nI (u := w_13) (by omega), if_pos (by rw [fR, if_neg h3, if_pos hq]; decide)]) (by rw [ft_cell, if_pos (c := isP 4 (nI w_6) ∧ isP 3 (nI w_13)) ⟨(isP_of (by omega) hw_6), (isP_of (by omega) hw_13)⟩, tN_nI (u := w_6) (by omega), tN_nI (u := w_13) (by omega), if_pos (by rw [fR, if_neg h3, if_pos hq]; decide), fR, if_neg h3, if_pos hq]; exact hP) dX5_cell_49
    · refine lv_if_ne (tgt := 23) hx hb dX5_cell_16 (by decide) (fun c16 => ?_) (fun c16 => ?_)
      · exact absurd c16 (by decide)
      refine lv_ldc2 (v := (-9223372036854775808)) hx hb hown (hts _ (List.mem_of_getElem? (i := 2) rfl)) dX5_cell_19 ?_
      exact zretML (w1 := fun (uu : Unit) => wM g y ya yb yc yd ye yf yg yh yi yj yk yl (ft_cell lane ml (nI w_6) i q) tr lane ml cel np sl kd hg ps rs rn rk rh lg fk gt tkn nr ru rl rm rd) () hx hb hr hlocks hS (by rw [sp_cell, if_neg (fun z => hn_13 z.2)]) (by rw [ft_cell, if_neg (fun z => hn_13 z.2)]; exact hP) dX5_cell_22
  · refine lv_if_eq (tgt := 19) hx hb dX5_cell_9 (by decide) (fun c9 => ?_) (fun c9 => ?_)
    rotate_left
    · exact absurd (by decide) c9
    refine lv_ldc2 (v := (-9223372036854775808)) hx hb hown (hts _ (List.mem_of_getElem? (i := 2) rfl)) dX5_cell_19 ?_
    exact zretML (w1 := fun (uu : Unit) => wM g y ya yb yc yd ye yf yg yh yi yj yk yl (ft_cell lane ml k i q) tr lane ml cel np sl kd hg ps rs rn rk rh lg fk gt tkn nr ru rl rm rd) () hx hb hr hlocks hS (by rw [sp_cell, if_neg (fun z => hn_6 z.1)]) (by rw [ft_cell, if_neg (fun z => hn_6 z.1)]; exact hP) dX5_cell_22

set_option maxHeartbeats 4000000 in
set_option maxRecDepth 100000 in
theorem c_X5_inLeastTerms (l : Launch) (g : Gx) (u : Nat) (d : Nat) (w : Nat) (hu : u < 2 ^ 31) (hd : d < 2 ^ 31) (hd0 : 0 < d) (hw : w < 2) : Met l yX5_inLeastTerms wsX5_inLeastTerms ({ frames := 0, cells := 0, slots := 0, locals := 0 } : Room) (PcR g [.long (lN u), .long (lN d), .int (nI w)] (([] : va_W))) (vp_Sl (fun r => r = lN (if w = 0 then u / Nat.gcd u d else d / Nat.gcd u d))) 0 0 (fun _ => False) := by
  refine zenterR (cc := cX5_inLeastTerms) (maxL := 11) (ret := (some .long)) (by decide) rfl (Nat.le_of_ble_eq_true rfl) ?_
  intro P E s mt below meth cd ls hx hb hml hown hts hr hlocks hP hK hl
  have hl : lv_has ls 11 [(0, .long (lN u)), (2, .long (lN d)), (4, .int (nI w))] := hl
  have S0 : CallFix P mt cd cX5_inLeastTerms 11 s [.long (lN u), .long (lN d), .int (nI w)].toArray wsX5_inLeastTerms RX5 := ⟨hx, hb, hml, hown, hts⟩
  refine lv_lload_n hx hb dX5_inLeastTerms_0 rfl (lv_at hl 0 rfl) ?_
  refine lv_lstore (lv' := [(5, .long (lN u)), (0, .long (lN u)), (2, .long (lN d)), (4, .int (nI w))]) hx hb dX5_inLeastTerms_1 hl (by decide) rfl (fun ls hl => ?_)
  refine lv_lload_n hx hb dX5_inLeastTerms_3 rfl (lv_at hl 2 rfl) ?_
  refine lv_lstore (lv' := [(7, .long (lN d)), (5, .long (lN u)), (0, .long (lN u)), (2, .long (lN d)), (4, .int (nI w))]) hx hb dX5_inLeastTerms_4 hl (by decide) rfl (fun ls hl => ?_)
  have lp6 : ∀ (nn : Nat) (xx : Nat) (zz : Nat) (ls : Array Slot), (zz) < nn → (xx < 2 ^ 31) → (zz < 2 ^ 31) → (0 < xx ∨ 0 < zz) → (Nat.gcd xx zz = Nat.gcd u d) → lv_has ls 11 [(0, .long (lN u)), (2, .long (lN d)), (4, .int (nI w)), (5, .long (lN xx)), (7, .long (lN zz))] → W P l E ({ frames := 0, cells := 0, slots := 0, locals := 0 } : Room) s mt [.long (lN u), .long (lN d), .int (nI w)].toArray below meth cd s.heap [] 0 0 (MQ below (vp_Sl (fun r => r = lN (if w = 0 then u / Nat.gcd u d else d / Nat.gcd u d))) [.long (lN u), .long (lN d), .int (nI w)].toArray s 0 0 (fun _ => False)) (F0 mt 6 ls []) := by
    intro nn
    induction nn with
    | zero => intro xx zz ls hmu; exact absurd hmu (Nat.not_lt_zero _)
    | succ nn ih6 =>
      intro xx zz ls hmu hx2 hz2 hp0 hv hl
      refine lv_lload hx hb dX5_inLeastTerms_6 (lv_at hl 4 rfl) ?_
      refine lv_lconst (v := lN 0) hx hb dX5_inLeastTerms_8 (by decide) ?_
      refine W.lcmp hx hb dX5_inLeastTerms_9 ?_
      refine lv_if_eq (tgt := 31) hx hb dX5_inLeastTerms_10 (by decide) (fun c10 => ?_) (fun c10 => ?_)
      · have hz0 := (lcmp0 hz2).mp c10
        obtain rfl : 0 = zz := hz0.symm
        refine lv_iload hx hb dX5_inLeastTerms_31 (lv_at hl 2 rfl) ?_
        refine n_if_ne (a := w) (tgt := 43) hx hb (by omega) dX5_inLeastTerms_33 (by decide) (fun c33 => ?_) (fun c33 => ?_)
        · refine lv_lload_n hx hb dX5_inLeastTerms_43 rfl (lv_at hl 1 rfl) ?_
          refine lv_lload hx hb dX5_inLeastTerms_44 (lv_at hl 3 rfl) ?_
          refine lv_ldiv hx hb dX5_inLeastTerms_46 (lN_ne0 (by omega) hx2) ?_
          refine ztopL (lN (if w = 0 then u / Nat.gcd u d else d / Nat.gcd u d)) (by rw [if_neg c33, ← hv, Nat.gcd_zero_right]; exact pk_lDiv (by omega) (by omega) (by omega)) ?_
          exact zretL hx hb hr hlocks rfl dX5_inLeastTerms_47
        · refine lv_lload_n hx hb dX5_inLeastTerms_36 rfl (lv_at hl 0 rfl) ?_
          refine lv_lload hx hb dX5_inLeastTerms_37 (lv_at hl 3 rfl) ?_
          refine lv_ldiv hx hb dX5_inLeastTerms_39 (lN_ne0 (by omega) hx2) ?_
          refine ztopL (lN (if w = 0 then u / Nat.gcd u d else d / Nat.gcd u d)) (by rw [if_pos c33, ← hv, Nat.gcd_zero_right]; exact pk_lDiv (by omega) (by omega) (by omega)) ?_
          refine lv_goto (tgt := 47) hx hb dX5_inLeastTerms_40 (by decide) ?_
          exact zretL hx hb hr hlocks rfl dX5_inLeastTerms_47
      · have hz0 : 0 < zz := Nat.pos_of_ne_zero (fun q => c10 ((lcmp0 hz2).mpr q))
        refine lv_lload hx hb dX5_inLeastTerms_13 (lv_at hl 3 rfl) ?_
        refine lv_lload hx hb dX5_inLeastTerms_15 (lv_at hl 4 rfl) ?_
        refine lv_lrem hx hb dX5_inLeastTerms_17 (lN_ne0 hz0 hz2) ?_
        refine ztopL (lN (xx % zz)) (pk_lRem (by omega) hz0 (by omega)) ?_
        refine lv_lstore (lv' := [(9, .long (lN (xx % zz))), (0, .long (lN u)), (2, .long (lN d)), (4, .int (nI w)), (5, .long (lN xx)), (7, .long (lN zz))]) hx hb dX5_inLeastTerms_18 hl (by decide) rfl (fun ls hl => ?_)
        refine lv_lload hx hb dX5_inLeastTerms_20 (lv_at hl 5 rfl) ?_
        refine lv_lstore (lv' := [(5, .long (lN zz)), (9, .long (lN (xx % zz))), (0, .long (lN u)), (2, .long (lN d)), (4, .int (nI w)), (7, .long (lN zz))]) hx hb dX5_inLeastTerms_22 hl (by decide) rfl (fun ls hl => ?_)
        refine lv_lload hx hb dX5_inLeastTerms_24 (lv_at hl 1 rfl) ?_
        refine lv_lstore (lv' := [(7, .long (lN (xx % zz))), (5, .long (lN zz)), (9, .long (lN (xx % zz))), (0, .long (lN u)), (2, .long (lN d)), (4, .int (nI w))]) hx hb dX5_inLeastTerms_26 hl (by decide) rfl (fun ls hl => ?_)
        refine lv_goto (tgt := 6) hx hb dX5_inLeastTerms_28 (by decide) ?_
        exact ih6 zz (xx % zz)  ls (by have := Nat.mod_lt xx hz0; omega) (by omega) (by have := Nat.mod_lt xx hz0; omega) (Or.inl hz0) (by rw [← hv, Nat.gcd_comm zz, Nat.gcd_comm xx, Nat.gcd_rec zz xx]) (lv_sub hl [3, 4, 5, 1, 0] rfl)
  exact lp6 (d + 1) u d  ls (Nat.lt_succ_self _) (by omega) (by omega) (by omega) rfl (lv_sub hl [2, 3, 4, 1, 0] rfl)

set_option maxHeartbeats 4000000 in
set_option maxRecDepth 100000 in
theorem c_X5_odds (l : Launch) (g : Gx) (y : Nat) (ya : Nat) (yb : Nat) (yc : Nat) (yd : Nat) (ye : Nat) (yf : Nat) (yg : Nat) (yh : Nat) (yi : Nat) (yj : Nat) (yk : Nat) (yl : Nat) (ft : Nat) (tr : Int32) (lane : Nat → Nat) (ml : Nat → Nat) (cel : Nat → Nat → Int32) (np : Nat) (sl : Nat) (kd : Nat → Nat) (hg : Nat → Nat) (ps : Nat) (rs : Int32) (rn : Nat) (rk : Nat → Int32) (rh : Nat → Int32) (lg : Int32) (fk : Int32) (gt : Int32) (tkn : Nat → Int32) (nr : Nat) (ru : Nat → Nat) (rl : Nat → Nat) (rm : Nat → Nat) (rd : Nat → Nat) (q : Int32) (m : Int32) (w : Int32) (hG : Gd np sl kd hg nr ru rl rm rd lane ml) : Met l yX5_odds wsX5_odds ({ frames := 4, cells := 0, slots := 0, locals := 97 } : Room) (PcR g [.ref y, .int q, .int m, .int w] (wM g y ya yb yc yd ye yf yg yh yi yj yk yl ft tr lane ml cel np sl kd hg ps rs rn rk rh lg fk gt tkn nr ru rl rm rd)) (vp_Sl (fun r => r = sp_odds np sl kd hg q m w)) 0 0 (fun _ => False) := by
  refine zenterR (cc := cX5_odds) (maxL := 7) (ret := (some .long)) (by decide) rfl (Nat.le_of_ble_eq_true rfl) ?_
  intro P E s mt below meth cd ls hx hb hml hown hts hr hlocks hP hK hl
  have hl : lv_has ls 7 [(0, .ref y), (1, .int q), (2, .int m), (3, .int w)] := hl
  have S0 : CallFix P mt cd cX5_odds 7 s [.ref y, .int q, .int m, .int w].toArray wsX5_odds RX5 := ⟨hx, hb, hml, hown, hts⟩
  obtain ⟨hnp, hsl, hkd, hhg, hnr, hru, hrl, hrm, hrd, hla, hmz⟩ := hG
  have h64 := pow_le64 hnp
  have h65 := Nat.two_pow_pos np
  refine lv_aload_n hx hb dX5_odds_0 rfl (lv_at hl 0 rfl) ?_
  refine lv_iload_n hx hb dX5_odds_1 rfl (lv_at hl 1 rfl) ?_
  have hPc : PP g (wM g y ya yb yc yd ye yf yg yh yi yj yk yl ft tr lane ml cel np sl kd hg ps rs rn rk rh lg fk gt tkn nr ru rl rm rd) _ := hP
  refine zcallR (va_runV (As := [.int q]) (rest := []) (b := y) S0 (c_X5_isPass l g y ya yb yc yd ye yf yg yh yi yj yk yl ft tr lane ml cel np sl kd hg ps rs rn rk rh lg fk gt tkn nr ru rl rm rd q hnp) (cwV 1 hts gX5_odds_X5_isPass rfl rfl rfl (by decide +kernel) ⟨by decide, by decide⟩) (zpreV hK hPc (va_recv hK.1 hPc (ci := 5) (q0 := 0) rfl rfl)) rfl rfl hl.1 rfl (lv_room (Nat.le_of_ble_eq_true rfl)) dX5_odds_2 ⟨by decide, by decide⟩) (fun r2 h2 => ?_)
  rcases h2 with ⟨w_2, hw_2, hv_2, rfl⟩ | ⟨hn_2, rfl⟩
  · subst hv_2
    refine lv_if_eq (tgt := 24) hx hb dX5_odds_5 (by decide) (fun c5 => ?_) (fun c5 => ?_)
    · exact absurd c5 (by decide)
    refine lv_iload_n hx hb dX5_odds_8 rfl (lv_at hl 2 rfl) ?_
    refine zcallR (va_runS (As := [.int m]) (rest := []) S0 (c_X5_isDigit l g m) (va_cwS 1 hts gX5_odds_X5_isDigit rfl rfl rfl (by decide +kernel) ⟨by decide, by decide⟩) (zpreS hK (P_nil _)) rfl rfl hl.1 rfl (lv_room (Nat.le_of_ble_eq_true rfl)) dX5_odds_9 ⟨by decide, by decide⟩) (fun r9 h9 => ?_)
    rcases h9 with ⟨w_9, hw_9, hv_9, rfl⟩ | ⟨hn_9, rfl⟩
    · subst hv_9
      refine lv_if_eq (tgt := 24) hx hb dX5_odds_12 (by decide) (fun c12 => ?_) (fun c12 => ?_)
      · exact absurd c12 (by decide)
      refine lv_iload_n hx hb dX5_odds_15 rfl (lv_at hl 3 rfl) ?_
      refine lv_iconst (v := (nI 0)) hx hb dX5_odds_16 (by decide) ?_
      refine lv_iconst (v := (nI 1)) hx hb dX5_odds_17 (by decide) ?_
      refine zcallR (va_runS (As := [.int w, .int (nI 0), .int (nI 1)]) (rest := []) S0 (c_X5_within_r0 l g w 1 (by omega)) (va_cwS 3 hts gX5_odds_X5_within rfl rfl rfl (by decide +kernel) ⟨by decide, by decide⟩) (zpreS hK (P_nil _)) rfl rfl hl.1 rfl (lv_room (Nat.le_of_ble_eq_true rfl)) dX5_odds_18 ⟨by decide, by decide⟩) (fun r18 h18 => ?_)
      rcases h18 with ⟨w_18, hw_18, hv_18, rfl⟩ | ⟨hn_18, rfl⟩
      · subst hv_18
        refine lv_if_ne (tgt := 28) hx hb dX5_odds_21 (by decide) (fun c21 => ?_) (fun c21 => ?_)
        rotate_left
        · exact absurd c21 (by decide)
        refine lv_aload_n hx hb dX5_odds_28 rfl (lv_at hl 0 rfl) ?_
        refine lv_iload_n hx hb dX5_odds_29 rfl (lv_at hl 1 rfl) ?_
        refine lv_iload_n hx hb dX5_odds_30 rfl (lv_at hl 2 rfl) ?_
        have hPc : PP g (wM g y ya yb yc yd ye yf yg yh yi yj yk yl ft tr lane ml cel np sl kd hg ps rs rn rk rh lg fk gt tkn nr ru rl rm rd) _ := hP
        refine zcallR (va_runV (As := [.int (nI w_2), .int (nI w_9)]) (rest := []) (b := y) S0 (c_X5_fitsOf l g y ya yb yc yd ye yf yg yh yi yj yk yl ft tr lane ml cel np sl kd hg ps rs rn rk rh lg fk gt tkn nr ru rl rm rd w_2 w_9 hnp hsl hkd hhg (by omega) (by omega)) (cwV 2 hts gX5_odds_X5_fitsOf rfl rfl rfl (by decide +kernel) ⟨by decide, by decide⟩) (zpreV hK hPc (va_recv hK.1 hPc (ci := 5) (q0 := 0) rfl rfl)) rfl rfl hl.1 rfl (lv_room (Nat.le_of_ble_eq_true rfl)) dX5_odds_31 ⟨by decide, by decide⟩) (fun r31 h31 => ?_)
        subst h31
        have f1 := fset_64 hnp sl kd hg w_2 w_9
        refine lv_istore (lv' := [(4, .int (nI (fset np sl kd hg w_2 w_9))), (0, .ref y), (1, .int (nI w_2)), (2, .int (nI w_9)), (3, .int (nI w_18))]) hx hb dX5_odds_34 hl (by decide) rfl (fun ls hl => ?_)
        refine lv_iconst (v := (nI 0)) hx hb dX5_odds_36 (by decide) ?_
        refine lv_istore (lv' := [(5, .int (nI 0)), (4, .int (nI (fset np sl kd hg w_2 w_9))), (0, .ref y), (1, .int (nI w_2)), (2, .int (nI w_9)), (3, .int (nI w_18))]) hx hb dX5_odds_37 hl (by decide) rfl (fun ls hl => ?_)
        refine lv_iconst (v := (nI 0)) hx hb dX5_odds_39 (by decide) ?_
        refine lv_istore (lv' := [(6, .int (nI 0)), (5, .int (nI 0)), (4, .int (nI (fset np sl kd hg w_2 w_9))), (0, .ref y), (1, .int (nI w_2)), (2, .int (nI w_9)), (3, .int (nI w_18))]) hx hb dX5_odds_40 hl (by decide) rfl (fun ls hl => ?_)
        have lp42 : ∀ (nn : Nat) (j : Nat) (ls : Array Slot), (2 ^ np - j) < nn → (j ≤ 2 ^ np) → lv_has ls 7 [(0, .ref y), (1, .int (nI w_2)), (2, .int (nI w_9)), (3, .int (nI w_18)), (4, .int (nI (fset np sl kd hg w_2 w_9))), (5, .int (nI (cz (fset np sl kd hg w_2 w_9) j))), (6, .int (nI j))] → W P l E ({ frames := 4, cells := 0, slots := 0, locals := 97 } : Room) s mt [.ref y, .int (nI w_2), .int (nI w_9), .int (nI w_18)].toArray below meth cd s.heap [] 0 0 (MQ below (vp_Sl (fun r => r = sp_odds np sl kd hg (nI w_2) (nI w_9) (nI w_18))) [.ref y, .int (nI w_2), .int (nI w_9), .int (nI w_18)].toArray s 0 0 (fun _ => False)) (F0 mt 42 ls []) := by
          intro nn
          induction nn with
          | zero => intro j ls hmu; exact absurd hmu (Nat.not_lt_zero _)
          | succ nn ih42 =>
            intro j ls hmu hj hl
            have hcz := cz_le (fset np sl kd hg w_2 w_9) j
            refine lv_iload hx hb dX5_odds_42 (lv_at hl 6 rfl) ?_
            refine lv_iconst (v := (nI 1)) hx hb dX5_odds_44 (by decide) ?_
            refine lv_aload_n hx hb dX5_odds_45 rfl (lv_at hl 0 rfl) ?_
            refine va_get (D := g.1) (ci := 5) (v := .int (nI np)) (C := RX5) (T := TX5) (N := 23) hx hb hts (fun _ h => (List.mem_cons_of_mem _ (List.mem_append_right _ h))) hown hK.1 hP 0 rfl rfl 5 (by decide) (hts _ (List.mem_of_getElem? (i := 2) rfl)) (fun _ h9 => h9) rfl dX5_odds_46 ?_
            refine n_ishl1 (n := np) hx hb (by omega) dX5_odds_49 ?_
            refine n_icmp_ge (a := j) (b := (2 ^ np)) (tgt := 77) hx hb (by omega) (by omega) dX5_odds_50 (by decide) (fun c50 => ?_) (fun c50 => ?_)
            · obtain rfl : 2 ^ np = j := by omega
              refine lv_iload hx hb dX5_odds_77 (lv_at hl 5 rfl) ?_
              refine lv_i2l (v := (nI (cz (fset np sl kd hg w_2 w_9) (2 ^ np))).toInt64) hx hb dX5_odds_79 rfl ?_
              refine ztopL (lN (cz (fset np sl kd hg w_2 w_9) (2 ^ np))) (nI_l (by omega)) ?_
              refine lv_lconst (v := lN 1) hx hb dX5_odds_80 (by decide) ?_
              refine lv_aload_n hx hb dX5_odds_81 rfl (lv_at hl 0 rfl) ?_
              refine va_get (D := g.1) (ci := 5) (v := .int (nI np)) (C := RX5) (T := TX5) (N := 23) hx hb hts (fun _ h => (List.mem_cons_of_mem _ (List.mem_append_right _ h))) hown hK.1 hP 0 rfl rfl 5 (by decide) (hts _ (List.mem_of_getElem? (i := 2) rfl)) (fun _ h9 => h9) rfl dX5_odds_82 ?_
              refine lv_lshl (v := ((lN 1) <<< ((nI np).toInt64 &&& 63))) hx hb dX5_odds_85 rfl ?_
              refine ztopL (lN (2 ^ np)) (lshl1 _ (by omega)) ?_
              refine lv_iload_n hx hb dX5_odds_86 rfl (lv_at hl 3 rfl) ?_
              refine zcallRL (va_runS (As := [.long (lN (cz (fset np sl kd hg w_2 w_9) (2 ^ np))), .long (lN (2 ^ np)), .int (nI w_18)]) (rest := []) S0 (c_X5_inLeastTerms l g (cz (fset np sl kd hg w_2 w_9) (2 ^ np)) (2 ^ np) w_18 (by omega) (by omega) (by omega) (by omega)) (va_cwS 3 hts gX5_odds_X5_inLeastTerms rfl rfl rfl (by decide +kernel) ⟨by decide, by decide⟩) (zpreS hK (P_nil _)) rfl rfl hl.1 rfl (lv_room (Nat.le_of_ble_eq_true rfl)) dX5_odds_87 ⟨by decide, by decide⟩) (fun r87 h87 => ?_)
              subst h87
              refine ztopL (lN (if w_18 = 0 then 2 ^ pc (fset np sl kd hg w_2 w_9) - 1 else 2 ^ pc (fset np sl kd hg w_2 w_9))) (by rw [(oddsF np (by omega) (fset np sl kd hg w_2 w_9) (fset_lt np sl kd hg w_2 w_9)).1, (oddsF np (by omega) (fset np sl kd hg w_2 w_9) (fset_lt np sl kd hg w_2 w_9)).2]) ?_
              exact zretL hx hb hr hlocks (by rw [sp_odds, if_pos (c := isP np (nI w_2) ∧ isP 10 (nI w_9) ∧ isP 2 (nI w_18)) ⟨(isP_of (by omega) hw_2), (isP_of (by omega) hw_9), (isP_of (by omega) hw_18)⟩, tN_nI (u := w_2) (by omega), tN_nI (u := w_9) (by omega)]; rcases Nat.eq_zero_or_pos w_18 with z | z; (· rw [if_pos (c := w_18 = 0) z, if_pos (c := nI w_18 = nI 0) (by rw [z])]); (· rw [if_neg (c := w_18 = 0) (by omega), if_neg (c := nI w_18 = nI 0) (nI_neI (by omega) (by decide) (by omega))])) dX5_odds_90
            · refine lv_iload hx hb dX5_odds_53 (lv_at hl 5 rfl) ?_
              refine lv_iload hx hb dX5_odds_55 (lv_at hl 4 rfl) ?_
              refine lv_iload hx hb dX5_odds_57 (lv_at hl 6 rfl) ?_
              refine n_iand (a := (fset np sl kd hg w_2 w_9)) (b := j) hx hb dX5_odds_59 ?_
              refine n_if_eq (a := ((fset np sl kd hg w_2 w_9) &&& j)) (tgt := 67) hx hb (Nat.lt_of_le_of_lt Nat.and_le_right (by omega)) dX5_odds_60 (by decide) (fun c60 => ?_) (fun c60 => ?_)
              · refine lv_iconst (v := (nI 0)) hx hb dX5_odds_67 (by decide) ?_
                refine ztopI (nI (b01 (fset np sl kd hg w_2 w_9 &&& j ≠ 0))) (by rw [b01_f (fun z => z c60)]) ?_
                refine n_iadd (a := (cz (fset np sl kd hg w_2 w_9) j)) (b := (b01 (fset np sl kd hg w_2 w_9 &&& j ≠ 0))) hx hb dX5_odds_68 ?_
                refine lv_istore (lv' := [(5, .int (nI ((cz (fset np sl kd hg w_2 w_9) j) + (b01 (fset np sl kd hg w_2 w_9 &&& j ≠ 0))))), (0, .ref y), (1, .int (nI w_2)), (2, .int (nI w_9)), (3, .int (nI w_18)), (4, .int (nI (fset np sl kd hg w_2 w_9))), (6, .int (nI j))]) hx hb dX5_odds_69 hl (by decide) rfl (fun ls hl => ?_)
                refine n_iinc (a := j) (d := 1) (lv' := [(6, .int (nI (j + 1))), (5, .int (nI ((cz (fset np sl kd hg w_2 w_9) j) + (b01 (fset np sl kd hg w_2 w_9 &&& j ≠ 0))))), (0, .ref y), (1, .int (nI w_2)), (2, .int (nI w_9)), (3, .int (nI w_18)), (4, .int (nI (fset np sl kd hg w_2 w_9)))]) hx hb dX5_odds_71 hl (k := 6) rfl (by decide) (by decide) rfl (fun ls hl => ?_)
                refine lv_goto (tgt := 42) hx hb dX5_odds_74 (by decide) ?_
                exact ih42 (j + 1)  ls (by omega) (by omega) (lv_sub hl [2, 3, 4, 5, 6, 1, 0] rfl)
              · refine lv_iconst (v := (nI 1)) hx hb dX5_odds_63 (by decide) ?_
                refine ztopI (nI (b01 (fset np sl kd hg w_2 w_9 &&& j ≠ 0))) (by rw [b01_t c60]) ?_
                refine lv_goto (tgt := 68) hx hb dX5_odds_64 (by decide) ?_
                refine n_iadd (a := (cz (fset np sl kd hg w_2 w_9) j)) (b := (b01 (fset np sl kd hg w_2 w_9 &&& j ≠ 0))) hx hb dX5_odds_68 ?_
                refine lv_istore (lv' := [(5, .int (nI ((cz (fset np sl kd hg w_2 w_9) j) + (b01 (fset np sl kd hg w_2 w_9 &&& j ≠ 0))))), (0, .ref y), (1, .int (nI w_2)), (2, .int (nI w_9)), (3, .int (nI w_18)), (4, .int (nI (fset np sl kd hg w_2 w_9))), (6, .int (nI j))]) hx hb dX5_odds_69 hl (by decide) rfl (fun ls hl => ?_)
                refine n_iinc (a := j) (d := 1) (lv' := [(6, .int (nI (j + 1))), (5, .int (nI ((cz (fset np sl kd hg w_2 w_9) j) + (b01 (fset np sl kd hg w_2 w_9 &&& j ≠ 0))))), (0, .ref y), (1, .int (nI w_2)), (2, .int (nI w_9)), (3, .int (nI w_18)), (4, .int (nI (fset np sl kd hg w_2 w_9)))]) hx hb dX5_odds_71 hl (k := 6) rfl (by decide) (by decide) rfl (fun ls hl => ?_)
                refine lv_goto (tgt := 42) hx hb dX5_odds_74 (by decide) ?_
                exact ih42 (j + 1)  ls (by omega) (by omega) (lv_sub hl [2, 3, 4, 5, 6, 1, 0] rfl)
        exact lp42 (2 ^ np - 0 + 1) 0  ls (Nat.lt_succ_self _) (by omega) (lv_sub hl [3, 4, 5, 6, 2, 1, 0] rfl)
      · refine lv_if_ne (tgt := 28) hx hb dX5_odds_21 (by decide) (fun c21 => ?_) (fun c21 => ?_)
        · exact absurd c21 (by decide)
        refine lv_ldc2 (v := (-9223372036854775808)) hx hb hown (hts _ (List.mem_of_getElem? (i := 1) rfl)) dX5_odds_24 ?_
        exact zretL hx hb hr hlocks (by rw [sp_odds, if_neg (fun z => hn_18 z.2.2)]) dX5_odds_27
    · refine lv_if_eq (tgt := 24) hx hb dX5_odds_12 (by decide) (fun c12 => ?_) (fun c12 => ?_)
      rotate_left
      · exact absurd (by decide) c12
      refine lv_ldc2 (v := (-9223372036854775808)) hx hb hown (hts _ (List.mem_of_getElem? (i := 1) rfl)) dX5_odds_24 ?_
      exact zretL hx hb hr hlocks (by rw [sp_odds, if_neg (fun z => hn_9 z.2.1)]) dX5_odds_27
  · refine lv_if_eq (tgt := 24) hx hb dX5_odds_5 (by decide) (fun c5 => ?_) (fun c5 => ?_)
    rotate_left
    · exact absurd (by decide) c5
    refine lv_ldc2 (v := (-9223372036854775808)) hx hb hown (hts _ (List.mem_of_getElem? (i := 1) rfl)) dX5_odds_24 ?_
    exact zretL hx hb hr hlocks (by rw [sp_odds, if_neg (fun z => hn_2 z.1)]) dX5_odds_27
