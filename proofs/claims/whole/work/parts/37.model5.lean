set_option maxHeartbeats 4000000 in
set_option maxRecDepth 100000 in
theorem c_X5_copy (l : Launch) (g : Gx) (y : Nat) (ya : Nat) (yb : Nat) (yc : Nat) (yd : Nat) (ye : Nat) (yf : Nat) (yg : Nat) (yh : Nat) (yi : Nat) (yj : Nat) (yk : Nat) (yl : Nat) (ft : Nat) (tr : Int32) (lane : Nat → Nat) (ml : Nat → Nat) (cel : Nat → Nat → Int32) (np : Nat) (sl : Nat) (kd : Nat → Nat) (hg : Nat → Nat) (ps : Nat) (rs : Int32) (rn : Nat) (rk : Nat → Int32) (rh : Nat → Int32) (lg : Int32) (fk : Int32) (gt : Int32) (tkn : Nat → Int32) (nr : Nat) (ru : Nat → Nat) (rl : Nat → Nat) (rm : Nat → Nat) (rd : Nat → Nat) (k : Int32) (i : Int32) (o : Int32) (j : Int32) (n : Int32) (hG : Gd np sl kd hg nr ru rl rm rd lane ml) : Met l yX5_copy wsX5_copy ({ frames := 2, cells := 0, slots := 0, locals := 42 } : Room) (PcM g [.ref y, .int k, .int i, .int o, .int j, .int n] (wM g y ya yb yc yd ye yf yg yh yi yj yk yl ft tr lane ml cel np sl kd hg ps rs rn rk rh lg fk gt tkn nr ru rl rm rd)) (va_Qi (fun (r : Int32) (uu : Unit) => r = sp_copy lane ml k i o j n) (fun (uu : Unit) t => PP g (wM g y ya yb yc yd ye yf yg yh yi yj yk yl (ft_copy lane ml k i o j n) tr lane ml (st_copy lane ml cel k i o j n) np sl kd hg ps rs rn rk rh lg fk gt tkn nr ru rl rm rd) t.heap) (inW (wM g y ya yb yc yd ye yf yg yh yi yj yk yl ft tr lane ml cel np sl kd hg ps rs rn rk rh lg fk gt tkn nr ru rl rm rd))) 0 0 (inW (wM g y ya yb yc yd ye yf yg yh yi yj yk yl ft tr lane ml cel np sl kd hg ps rs rn rk rh lg fk gt tkn nr ru rl rm rd)) := by
  refine zenterM (cc := cX5_copy) (maxL := 10) (ret := (some .int)) (by decide) rfl (Nat.le_of_ble_eq_true rfl) ?_
  intro P E s mt below meth cd ls hx hb hml hown hts hr hlocks hP hK hD hS hl
  skip
  have hl : lv_has ls 10 [(0, .ref y), (1, .int k), (2, .int i), (3, .int o), (4, .int j), (5, .int n)] := hl
  have S0 : CallFix P mt cd cX5_copy 10 s [.ref y, .int k, .int i, .int o, .int j, .int n].toArray wsX5_copy RX5 := ⟨hx, hb, hml, hown, hts⟩
  obtain ⟨hnp, hsl, hkd, hhg, hnr, hru, hrl, hrm, hrd, hla, hmz⟩ := hG
  refine lv_aload_n hx hb dX5_copy_0 rfl (lv_at hl 0 rfl) ?_
  refine lv_iconst (v := (nI 0)) hx hb dX5_copy_1 (by decide) ?_
  refine n_put (D := g.1) (ci := 5) (v := .int (nI 0)) (ty := .int) (C := RX5) (T := TX5) (N := 23) (ws1 := wM g y ya yb yc yd ye yf yg yh yi yj yk yl 0 tr lane ml cel np sl kd hg ps rs rn rk rh lg fk gt tkn nr ru rl rm rd) hx hb hts (fun _ h => (List.mem_cons_of_mem _ (List.mem_append_right _ h))) tyX5 tyX5_ok nmX5 hown hK.1 hP hD hS 0 rfl rfl 0 (by decide) (hts _ (List.mem_of_getElem? (i := 1) rfl)) (fun _ h9 => h9) rfl (by decide +kernel) rfl rfl (Nat.le_of_ble_eq_true rfl) rfl dX5_copy_2 (fun H locs hP hD hS => ?_)
  refine lv_iload_n hx hb dX5_copy_5 rfl (lv_at hl 1 rfl) ?_
  refine zcallR (va_runS (As := [.int k]) (rest := []) S0 (c_X5_isSheet l g k) (va_cwS 1 hts gX5_copy_X5_isSheet rfl rfl rfl (by decide +kernel) ⟨by decide, by decide⟩) (zpreS hK (P_nil _)) rfl rfl hl.1 rfl (lv_room (Nat.le_of_ble_eq_true rfl)) dX5_copy_6 ⟨by decide, by decide⟩) (fun r6 h6 => ?_)
  rcases h6 with ⟨w_6, hw_6, hv_6, rfl⟩ | ⟨hn_6, rfl⟩
  · subst hv_6
    refine lv_if_eq (tgt := 19) hx hb dX5_copy_9 (by decide) (fun c9 => ?_) (fun c9 => ?_)
    · exact absurd c9 (by decide)
    refine lv_iload_n hx hb dX5_copy_12 rfl (lv_at hl 3 rfl) ?_
    refine zcallR (va_runS (As := [.int o]) (rest := []) S0 (c_X5_isSheet l g o) (va_cwS 1 hts gX5_copy_X5_isSheet rfl rfl rfl (by decide +kernel) ⟨by decide, by decide⟩) (zpreS hK (P_nil _)) rfl rfl hl.1 rfl (lv_room (Nat.le_of_ble_eq_true rfl)) dX5_copy_13 ⟨by decide, by decide⟩) (fun r13 h13 => ?_)
    rcases h13 with ⟨w_13, hw_13, hv_13, rfl⟩ | ⟨hn_13, rfl⟩
    · subst hv_13
      refine lv_if_ne (tgt := 21) hx hb dX5_copy_16 (by decide) (fun c16 => ?_) (fun c16 => ?_)
      rotate_left
      · exact absurd c16 (by decide)
      refine lv_aload_n hx hb dX5_copy_21 rfl (lv_at hl 0 rfl) ?_
      refine va_get (D := g.1) (ci := 5) (v := .ref ya) (C := RX5) (T := TX5) (N := 23) hx hb hts (fun _ h => (List.mem_cons_of_mem _ (List.mem_append_right _ h))) hown hK.1 hP 0 rfl rfl 2 (by decide) (hts _ (List.mem_of_getElem? (i := 2) rfl)) (fun _ h9 => h9) rfl dX5_copy_22 ?_
      refine lv_iload_n hx hb dX5_copy_25 rfl (lv_at hl 1 rfl) ?_
      refine n_iald (i := w_6) (v := (sM (lane w_6))) hx hb hK.1 hP 1 0 rfl rfl (by omega) (by decide) rfl dX5_copy_26 ?_
      refine lv_bipush (v := (-9)) hx hb dX5_copy_27 (by decide) ?_
      refine lv_icmp_eq (tgt := 43) hx hb dX5_copy_29 (by decide) (fun c29 => ?_) (fun c29 => ?_)
      · have h3k : lane w_6 = 3 := (sM_9 (hla _)).mp c29
        refine lv_aload_n hx hb dX5_copy_43 rfl (lv_at hl 0 rfl) ?_
        refine lv_iconst (v := (nI 1)) hx hb dX5_copy_44 (by decide) ?_
        have hPc : PP g (wM g y ya yb yc yd ye yf yg yh yi yj yk yl 0 tr lane ml cel np sl kd hg ps rs rn rk rh lg fk gt tkn nr ru rl rm rd) _ := P_sub hP [0, 1, 2, 3, 4, 5, 6, 7, 8, 9, 10, 11, 12] rfl
        refine zcallM (w := wM g y ya yb yc yd ye yf yg yh yi yj yk yl 0 tr lane ml cel np sl kd hg ps rs rn rk rh lg fk gt tkn nr ru rl rm rd) (va_runV (As := [.int (nI 1)]) (rest := []) (b := y) S0 (c_X5_fails l g y ya yb yc yd ye yf yg yh yi yj yk yl 0 tr lane ml cel np sl kd hg ps rs rn rk rh lg fk gt tkn nr ru rl rm rd 1) (cwV 1 hts gX5_copy_X5_fails rfl rfl rfl (by decide +kernel) ⟨by decide, by decide⟩) (zpreVM hK hP hD [0, 1, 2, 3, 4, 5, 6, 7, 8, 9, 10, 11, 12] rfl (by decide) (va_recv hK.1 hPc (ci := 5) (q0 := 0) rfl rfl)) rfl rfl hl.1 rfl (lv_room (Nat.le_of_ble_eq_true rfl)) dX5_copy_45 ⟨by decide, by decide⟩) hP hD hS [0, 1, 2, 3, 4, 5, 6, 7, 8, 9, 10, 11, 12] rfl (fun uu45 => wM g y ya yb yc yd ye yf yg yh yi yj yk yl 1 tr lane ml cel np sl kd hg ps rs rn rk rh lg fk gt tkn nr ru rl rm rd) (fun _ => lz_wM.trans lz_wM.symm) (fun _ => rfl) (fun _ => ad_wM.trans ad_wM.symm) (fun r45 uu45 H locs h45 hP hD hS => ?_)
        subst h45
        exact zretMI (w1 := fun (uu : Unit) => wM g y ya yb yc yd ye yf yg yh yi yj yk yl (ft_copy lane ml (nI w_6) i (nI w_13) j n) tr lane ml (st_copy lane ml cel (nI w_6) i (nI w_13) j n) np sl kd hg ps rs rn rk rh lg fk gt tkn nr ru rl rm rd) () hx hb hr hlocks hS rfl (by have e0 : ft_copy lane ml (nI w_6) i (nI w_13) j n = 1 := (by rw [ft_copy, if_pos (c := isP 4 (nI w_6) ∧ isP 4 (nI w_13)) ⟨(isP_of (by omega) hw_6), (isP_of (by omega) hw_13)⟩, tN_nI (u := w_6) (by omega), tN_nI (u := w_13) (by omega), if_pos (Or.inl h3k)]); rw [sp_copy, if_pos (c := isP 4 (nI w_6) ∧ isP 4 (nI w_13)) ⟨(isP_of (by omega) hw_6), (isP_of (by omega) hw_13)⟩, e0, if_neg (by decide)]) (by have e0 : ft_copy lane ml (nI w_6) i (nI w_13) j n = 1 := (by rw [ft_copy, if_pos (c := isP 4 (nI w_6) ∧ isP 4 (nI w_13)) ⟨(isP_of (by omega) hw_6), (isP_of (by omega) hw_13)⟩, tN_nI (u := w_6) (by omega), tN_nI (u := w_13) (by omega), if_pos (Or.inl h3k)]); rw [st_copy, if_neg (c := (isP 4 (nI w_6) ∧ isP 4 (nI w_13)) ∧ ft_copy lane ml (nI w_6) i (nI w_13) j n = 0) (fun z => by rw [e0] at z; exact absurd z.2 (by decide)), e0]; exact hP) dX5_copy_48
      · have h3k : lane w_6 ≠ 3 := fun z => c29 ((sM_9 (hla _)).mpr z)
        refine lv_aload_n hx hb dX5_copy_32 rfl (lv_at hl 0 rfl) ?_
        refine va_get (D := g.1) (ci := 5) (v := .ref ya) (C := RX5) (T := TX5) (N := 23) hx hb hts (fun _ h => (List.mem_cons_of_mem _ (List.mem_append_right _ h))) hown hK.1 hP 0 rfl rfl 2 (by decide) (hts _ (List.mem_of_getElem? (i := 2) rfl)) (fun _ h9 => h9) rfl dX5_copy_33 ?_
        refine lv_iload_n hx hb dX5_copy_36 rfl (lv_at hl 3 rfl) ?_
        refine n_iald (i := w_13) (v := (sM (lane w_13))) hx hb hK.1 hP 1 0 rfl rfl (by omega) (by decide) rfl dX5_copy_37 ?_
        refine lv_bipush (v := (-9)) hx hb dX5_copy_38 (by decide) ?_
        refine lv_icmp_ne (tgt := 49) hx hb dX5_copy_40 (by decide) (fun c40 => ?_) (fun c40 => ?_)
        · have h3o : lane w_13 ≠ 3 := fun z => c40 ((sM_9 (hla _)).mpr z)
          refine lv_aload_n hx hb dX5_copy_49 rfl (lv_at hl 0 rfl) ?_
          refine va_get (D := g.1) (ci := 5) (v := .ref ya) (C := RX5) (T := TX5) (N := 23) hx hb hts (fun _ h => (List.mem_cons_of_mem _ (List.mem_append_right _ h))) hown hK.1 hP 0 rfl rfl 2 (by decide) (hts _ (List.mem_of_getElem? (i := 2) rfl)) (fun _ h9 => h9) rfl dX5_copy_50 ?_
          refine lv_iload_n hx hb dX5_copy_53 rfl (lv_at hl 1 rfl) ?_
          refine n_iald (i := w_6) (v := (sM (lane w_6))) hx hb hK.1 hP 1 0 rfl rfl (by omega) (by decide) rfl dX5_copy_54 ?_
          refine lv_aload_n hx hb dX5_copy_55 rfl (lv_at hl 0 rfl) ?_
          refine va_get (D := g.1) (ci := 5) (v := .ref ya) (C := RX5) (T := TX5) (N := 23) hx hb hts (fun _ h => (List.mem_cons_of_mem _ (List.mem_append_right _ h))) hown hK.1 hP 0 rfl rfl 2 (by decide) (hts _ (List.mem_of_getElem? (i := 2) rfl)) (fun _ h9 => h9) rfl dX5_copy_56 ?_
          refine lv_iload_n hx hb dX5_copy_59 rfl (lv_at hl 3 rfl) ?_
          refine n_iald (i := w_13) (v := (sM (lane w_13))) hx hb hK.1 hP 1 0 rfl rfl (by omega) (by decide) rfl dX5_copy_60 ?_
          refine lv_icmp_eq (tgt := 70) hx hb dX5_copy_61 (by decide) (fun c61 => ?_) (fun c61 => ?_)
          · have hll : lane w_6 = lane w_13 := by rw [sM_n h3k, sM_n h3o] at c61; exact (nI_eq (by have := hla w_6; omega) (by have := hla w_13; omega)).mp c61
            refine lv_iload_n hx hb dX5_copy_70 rfl (lv_at hl 2 rfl) ?_
            refine lv_if_lt (tgt := 109) hx hb dX5_copy_71 (by decide) (fun c71 => ?_) (fun c71 => ?_)
            · refine lv_iconst (v := (nI 0)) hx hb dX5_copy_109 (by decide) ?_
              refine lv_istore (lv' := [(6, .int (nI 0)), (0, .ref y), (1, .int (nI w_6)), (2, .int i), (3, .int (nI w_13)), (4, .int j), (5, .int n)]) hx hb dX5_copy_110 hl (by decide) rfl (fun ls hl => ?_)
              refine lv_iload hx hb dX5_copy_112 (lv_at hl 0 rfl) ?_
              refine lv_if_eq (tgt := 144) hx hb dX5_copy_114 (by decide) (fun c114 => ?_) (fun c114 => ?_)
              rotate_left
              · exact absurd (by decide) c114
              refine lv_aload_n hx hb dX5_copy_144 rfl (lv_at hl 1 rfl) ?_
              refine lv_iconst (v := (nI 3)) hx hb dX5_copy_145 (by decide) ?_
              have hPc : PP g (wM g y ya yb yc yd ye yf yg yh yi yj yk yl 0 tr lane ml cel np sl kd hg ps rs rn rk rh lg fk gt tkn nr ru rl rm rd) _ := P_sub hP [0, 1, 2, 3, 4, 5, 6, 7, 8, 9, 10, 11, 12] rfl
              refine zcallM (w := wM g y ya yb yc yd ye yf yg yh yi yj yk yl 0 tr lane ml cel np sl kd hg ps rs rn rk rh lg fk gt tkn nr ru rl rm rd) (va_runV (As := [.int (nI 3)]) (rest := []) (b := y) S0 (c_X5_fails l g y ya yb yc yd ye yf yg yh yi yj yk yl 0 tr lane ml cel np sl kd hg ps rs rn rk rh lg fk gt tkn nr ru rl rm rd 3) (cwV 1 hts gX5_copy_X5_fails rfl rfl rfl (by decide +kernel) ⟨by decide, by decide⟩) (zpreVM hK hP hD [0, 1, 2, 3, 4, 5, 6, 7, 8, 9, 10, 11, 12] rfl (by decide) (va_recv hK.1 hPc (ci := 5) (q0 := 0) rfl rfl)) rfl rfl hl.1 rfl (lv_room (Nat.le_of_ble_eq_true rfl)) dX5_copy_146 ⟨by decide, by decide⟩) hP hD hS [0, 1, 2, 3, 4, 5, 6, 7, 8, 9, 10, 11, 12] rfl (fun uu146 => wM g y ya yb yc yd ye yf yg yh yi yj yk yl 3 tr lane ml cel np sl kd hg ps rs rn rk rh lg fk gt tkn nr ru rl rm rd) (fun _ => lz_wM.trans lz_wM.symm) (fun _ => rfl) (fun _ => ad_wM.trans ad_wM.symm) (fun r146 uu146 H locs h146 hP hD hS => ?_)
              subst h146
              exact zretMI (w1 := fun (uu : Unit) => wM g y ya yb yc yd ye yf yg yh yi yj yk yl (ft_copy lane ml (nI w_6) i (nI w_13) j n) tr lane ml (st_copy lane ml cel (nI w_6) i (nI w_13) j n) np sl kd hg ps rs rn rk rh lg fk gt tkn nr ru rl rm rd) () hx hb hr hlocks hS rfl (by have e0 : ft_copy lane ml (nI w_6) i (nI w_13) j n = 3 := (by rw [ft_copy, if_pos (c := isP 4 (nI w_6) ∧ isP 4 (nI w_13)) ⟨(isP_of (by omega) hw_6), (isP_of (by omega) hw_13)⟩, tN_nI (u := w_6) (by omega), tN_nI (u := w_13) (by omega), if_neg (c := lane w_6 = 3 ∨ lane w_13 = 3) (fun z => z.elim h3k h3o), if_neg (c := lane w_6 ≠ lane w_13) (fun z => z hll), if_neg (fun z => z.1.1 c71)]); rw [sp_copy, if_pos (c := isP 4 (nI w_6) ∧ isP 4 (nI w_13)) ⟨(isP_of (by omega) hw_6), (isP_of (by omega) hw_13)⟩, e0, if_neg (by decide)]) (by have e0 : ft_copy lane ml (nI w_6) i (nI w_13) j n = 3 := (by rw [ft_copy, if_pos (c := isP 4 (nI w_6) ∧ isP 4 (nI w_13)) ⟨(isP_of (by omega) hw_6), (isP_of (by omega) hw_13)⟩, tN_nI (u := w_6) (by omega), tN_nI (u := w_13) (by omega), if_neg (c := lane w_6 = 3 ∨ lane w_13 = 3) (fun z => z.elim h3k h3o), if_neg (c := lane w_6 ≠ lane w_13) (fun z => z hll), if_neg (fun z => z.1.1 c71)]); rw [st_copy, if_neg (c := (isP 4 (nI w_6) ∧ isP 4 (nI w_13)) ∧ ft_copy lane ml (nI w_6) i (nI w_13) j n = 0) (fun z => by rw [e0] at z; exact absurd z.2 (by decide)), e0]; exact hP) dX5_copy_149
            · refine lv_iload hx hb dX5_copy_74 (lv_at hl 4 rfl) ?_
              refine lv_if_lt (tgt := 109) hx hb dX5_copy_76 (by decide) (fun c76 => ?_) (fun c76 => ?_)
              · refine lv_iconst (v := (nI 0)) hx hb dX5_copy_109 (by decide) ?_
                refine lv_istore (lv' := [(6, .int (nI 0)), (0, .ref y), (1, .int (nI w_6)), (2, .int i), (3, .int (nI w_13)), (4, .int j), (5, .int n)]) hx hb dX5_copy_110 hl (by decide) rfl (fun ls hl => ?_)
                refine lv_iload hx hb dX5_copy_112 (lv_at hl 0 rfl) ?_
                refine lv_if_eq (tgt := 144) hx hb dX5_copy_114 (by decide) (fun c114 => ?_) (fun c114 => ?_)
                rotate_left
                · exact absurd (by decide) c114
                refine lv_aload_n hx hb dX5_copy_144 rfl (lv_at hl 1 rfl) ?_
                refine lv_iconst (v := (nI 3)) hx hb dX5_copy_145 (by decide) ?_
                have hPc : PP g (wM g y ya yb yc yd ye yf yg yh yi yj yk yl 0 tr lane ml cel np sl kd hg ps rs rn rk rh lg fk gt tkn nr ru rl rm rd) _ := P_sub hP [0, 1, 2, 3, 4, 5, 6, 7, 8, 9, 10, 11, 12] rfl
                refine zcallM (w := wM g y ya yb yc yd ye yf yg yh yi yj yk yl 0 tr lane ml cel np sl kd hg ps rs rn rk rh lg fk gt tkn nr ru rl rm rd) (va_runV (As := [.int (nI 3)]) (rest := []) (b := y) S0 (c_X5_fails l g y ya yb yc yd ye yf yg yh yi yj yk yl 0 tr lane ml cel np sl kd hg ps rs rn rk rh lg fk gt tkn nr ru rl rm rd 3) (cwV 1 hts gX5_copy_X5_fails rfl rfl rfl (by decide +kernel) ⟨by decide, by decide⟩) (zpreVM hK hP hD [0, 1, 2, 3, 4, 5, 6, 7, 8, 9, 10, 11, 12] rfl (by decide) (va_recv hK.1 hPc (ci := 5) (q0 := 0) rfl rfl)) rfl rfl hl.1 rfl (lv_room (Nat.le_of_ble_eq_true rfl)) dX5_copy_146 ⟨by decide, by decide⟩) hP hD hS [0, 1, 2, 3, 4, 5, 6, 7, 8, 9, 10, 11, 12] rfl (fun uu146 => wM g y ya yb yc yd ye yf yg yh yi yj yk yl 3 tr lane ml cel np sl kd hg ps rs rn rk rh lg fk gt tkn nr ru rl rm rd) (fun _ => lz_wM.trans lz_wM.symm) (fun _ => rfl) (fun _ => ad_wM.trans ad_wM.symm) (fun r146 uu146 H locs h146 hP hD hS => ?_)
                subst h146
                exact zretMI (w1 := fun (uu : Unit) => wM g y ya yb yc yd ye yf yg yh yi yj yk yl (ft_copy lane ml (nI w_6) i (nI w_13) j n) tr lane ml (st_copy lane ml cel (nI w_6) i (nI w_13) j n) np sl kd hg ps rs rn rk rh lg fk gt tkn nr ru rl rm rd) () hx hb hr hlocks hS rfl (by have e0 : ft_copy lane ml (nI w_6) i (nI w_13) j n = 3 := (by rw [ft_copy, if_pos (c := isP 4 (nI w_6) ∧ isP 4 (nI w_13)) ⟨(isP_of (by omega) hw_6), (isP_of (by omega) hw_13)⟩, tN_nI (u := w_6) (by omega), tN_nI (u := w_13) (by omega), if_neg (c := lane w_6 = 3 ∨ lane w_13 = 3) (fun z => z.elim h3k h3o), if_neg (c := lane w_6 ≠ lane w_13) (fun z => z hll), if_neg (fun z => z.2.1 c76)]); rw [sp_copy, if_pos (c := isP 4 (nI w_6) ∧ isP 4 (nI w_13)) ⟨(isP_of (by omega) hw_6), (isP_of (by omega) hw_13)⟩, e0, if_neg (by decide)]) (by have e0 : ft_copy lane ml (nI w_6) i (nI w_13) j n = 3 := (by rw [ft_copy, if_pos (c := isP 4 (nI w_6) ∧ isP 4 (nI w_13)) ⟨(isP_of (by omega) hw_6), (isP_of (by omega) hw_13)⟩, tN_nI (u := w_6) (by omega), tN_nI (u := w_13) (by omega), if_neg (c := lane w_6 = 3 ∨ lane w_13 = 3) (fun z => z.elim h3k h3o), if_neg (c := lane w_6 ≠ lane w_13) (fun z => z hll), if_neg (fun z => z.2.1 c76)]); rw [st_copy, if_neg (c := (isP 4 (nI w_6) ∧ isP 4 (nI w_13)) ∧ ft_copy lane ml (nI w_6) i (nI w_13) j n = 0) (fun z => by rw [e0] at z; exact absurd z.2 (by decide)), e0]; exact hP) dX5_copy_149
              · refine lv_iload hx hb dX5_copy_79 (lv_at hl 5 rfl) ?_
                refine lv_if_lt (tgt := 109) hx hb dX5_copy_81 (by decide) (fun c81 => ?_) (fun c81 => ?_)
                · refine lv_iconst (v := (nI 0)) hx hb dX5_copy_109 (by decide) ?_
                  refine lv_istore (lv' := [(6, .int (nI 0)), (0, .ref y), (1, .int (nI w_6)), (2, .int i), (3, .int (nI w_13)), (4, .int j), (5, .int n)]) hx hb dX5_copy_110 hl (by decide) rfl (fun ls hl => ?_)
                  refine lv_iload hx hb dX5_copy_112 (lv_at hl 0 rfl) ?_
                  refine lv_if_eq (tgt := 144) hx hb dX5_copy_114 (by decide) (fun c114 => ?_) (fun c114 => ?_)
                  rotate_left
                  · exact absurd (by decide) c114
                  refine lv_aload_n hx hb dX5_copy_144 rfl (lv_at hl 1 rfl) ?_
                  refine lv_iconst (v := (nI 3)) hx hb dX5_copy_145 (by decide) ?_
                  have hPc : PP g (wM g y ya yb yc yd ye yf yg yh yi yj yk yl 0 tr lane ml cel np sl kd hg ps rs rn rk rh lg fk gt tkn nr ru rl rm rd) _ := P_sub hP [0, 1, 2, 3, 4, 5, 6, 7, 8, 9, 10, 11, 12] rfl
                  refine zcallM (w := wM g y ya yb yc yd ye yf yg yh yi yj yk yl 0 tr lane ml cel np sl kd hg ps rs rn rk rh lg fk gt tkn nr ru rl rm rd) (va_runV (As := [.int (nI 3)]) (rest := []) (b := y) S0 (c_X5_fails l g y ya yb yc yd ye yf yg yh yi yj yk yl 0 tr lane ml cel np sl kd hg ps rs rn rk rh lg fk gt tkn nr ru rl rm rd 3) (cwV 1 hts gX5_copy_X5_fails rfl rfl rfl (by decide +kernel) ⟨by decide, by decide⟩) (zpreVM hK hP hD [0, 1, 2, 3, 4, 5, 6, 7, 8, 9, 10, 11, 12] rfl (by decide) (va_recv hK.1 hPc (ci := 5) (q0 := 0) rfl rfl)) rfl rfl hl.1 rfl (lv_room (Nat.le_of_ble_eq_true rfl)) dX5_copy_146 ⟨by decide, by decide⟩) hP hD hS [0, 1, 2, 3, 4, 5, 6, 7, 8, 9, 10, 11, 12] rfl (fun uu146 => wM g y ya yb yc yd ye yf yg yh yi yj yk yl 3 tr lane ml cel np sl kd hg ps rs rn rk rh lg fk gt tkn nr ru rl rm rd) (fun _ => lz_wM.trans lz_wM.symm) (fun _ => rfl) (fun _ => ad_wM.trans ad_wM.symm) (fun r146 uu146 H locs h146 hP hD hS => ?_)
                  subst h146
                  exact zretMI (w1 := fun (uu : Unit) => wM g y ya yb yc yd ye yf yg yh yi yj yk yl (ft_copy lane ml (nI w_6) i (nI w_13) j n) tr lane ml (st_copy lane ml cel (nI w_6) i (nI w_13) j n) np sl kd hg ps rs rn rk rh lg fk gt tkn nr ru rl rm rd) () hx hb hr hlocks hS rfl (by have e0 : ft_copy lane ml (nI w_6) i (nI w_13) j n = 3 := (by rw [ft_copy, if_pos (c := isP 4 (nI w_6) ∧ isP 4 (nI w_13)) ⟨(isP_of (by omega) hw_6), (isP_of (by omega) hw_13)⟩, tN_nI (u := w_6) (by omega), tN_nI (u := w_13) (by omega), if_neg (c := lane w_6 = 3 ∨ lane w_13 = 3) (fun z => z.elim h3k h3o), if_neg (c := lane w_6 ≠ lane w_13) (fun z => z hll), if_neg (fun z => z.1.2.2.1 c81)]); rw [sp_copy, if_pos (c := isP 4 (nI w_6) ∧ isP 4 (nI w_13)) ⟨(isP_of (by omega) hw_6), (isP_of (by omega) hw_13)⟩, e0, if_neg (by decide)]) (by have e0 : ft_copy lane ml (nI w_6) i (nI w_13) j n = 3 := (by rw [ft_copy, if_pos (c := isP 4 (nI w_6) ∧ isP 4 (nI w_13)) ⟨(isP_of (by omega) hw_6), (isP_of (by omega) hw_13)⟩, tN_nI (u := w_6) (by omega), tN_nI (u := w_13) (by omega), if_neg (c := lane w_6 = 3 ∨ lane w_13 = 3) (fun z => z.elim h3k h3o), if_neg (c := lane w_6 ≠ lane w_13) (fun z => z hll), if_neg (fun z => z.1.2.2.1 c81)]); rw [st_copy, if_neg (c := (isP 4 (nI w_6) ∧ isP 4 (nI w_13)) ∧ ft_copy lane ml (nI w_6) i (nI w_13) j n = 0) (fun z => by rw [e0] at z; exact absurd z.2 (by decide)), e0]; exact hP) dX5_copy_149
                · refine lv_iload_n hx hb dX5_copy_84 rfl (lv_at hl 2 rfl) ?_
                  refine lv_aload_n hx hb dX5_copy_85 rfl (lv_at hl 0 rfl) ?_
                  refine va_get (D := g.1) (ci := 5) (v := .ref yb) (C := RX5) (T := TX5) (N := 23) hx hb hts (fun _ h => (List.mem_cons_of_mem _ (List.mem_append_right _ h))) hown hK.1 hP 0 rfl rfl 3 (by decide) (hts _ (List.mem_of_getElem? (i := 3) rfl)) (fun _ h9 => h9) rfl dX5_copy_86 ?_
                  refine lv_iload_n hx hb dX5_copy_89 rfl (lv_at hl 1 rfl) ?_
                  refine n_iald (i := w_6) (v := (nI (ml w_6))) hx hb hK.1 hP 2 0 rfl rfl (by omega) (by decide) rfl dX5_copy_90 ?_
                  refine lv_icmp_gt (tgt := 109) hx hb dX5_copy_91 (by decide) (fun c91 => ?_) (fun c91 => ?_)
                  · refine lv_iconst (v := (nI 0)) hx hb dX5_copy_109 (by decide) ?_
                    refine lv_istore (lv' := [(6, .int (nI 0)), (0, .ref y), (1, .int (nI w_6)), (2, .int i), (3, .int (nI w_13)), (4, .int j), (5, .int n)]) hx hb dX5_copy_110 hl (by decide) rfl (fun ls hl => ?_)
                    refine lv_iload hx hb dX5_copy_112 (lv_at hl 0 rfl) ?_
                    refine lv_if_eq (tgt := 144) hx hb dX5_copy_114 (by decide) (fun c114 => ?_) (fun c114 => ?_)
                    rotate_left
                    · exact absurd (by decide) c114
                    refine lv_aload_n hx hb dX5_copy_144 rfl (lv_at hl 1 rfl) ?_
                    refine lv_iconst (v := (nI 3)) hx hb dX5_copy_145 (by decide) ?_
                    have hPc : PP g (wM g y ya yb yc yd ye yf yg yh yi yj yk yl 0 tr lane ml cel np sl kd hg ps rs rn rk rh lg fk gt tkn nr ru rl rm rd) _ := P_sub hP [0, 1, 2, 3, 4, 5, 6, 7, 8, 9, 10, 11, 12] rfl
                    refine zcallM (w := wM g y ya yb yc yd ye yf yg yh yi yj yk yl 0 tr lane ml cel np sl kd hg ps rs rn rk rh lg fk gt tkn nr ru rl rm rd) (va_runV (As := [.int (nI 3)]) (rest := []) (b := y) S0 (c_X5_fails l g y ya yb yc yd ye yf yg yh yi yj yk yl 0 tr lane ml cel np sl kd hg ps rs rn rk rh lg fk gt tkn nr ru rl rm rd 3) (cwV 1 hts gX5_copy_X5_fails rfl rfl rfl (by decide +kernel) ⟨by decide, by decide⟩) (zpreVM hK hP hD [0, 1, 2, 3, 4, 5, 6, 7, 8, 9, 10, 11, 12] rfl (by decide) (va_recv hK.1 hPc (ci := 5) (q0 := 0) rfl rfl)) rfl rfl hl.1 rfl (lv_room (Nat.le_of_ble_eq_true rfl)) dX5_copy_146 ⟨by decide, by decide⟩) hP hD hS [0, 1, 2, 3, 4, 5, 6, 7, 8, 9, 10, 11, 12] rfl (fun uu146 => wM g y ya yb yc yd ye yf yg yh yi yj yk yl 3 tr lane ml cel np sl kd hg ps rs rn rk rh lg fk gt tkn nr ru rl rm rd) (fun _ => lz_wM.trans lz_wM.symm) (fun _ => rfl) (fun _ => ad_wM.trans ad_wM.symm) (fun r146 uu146 H locs h146 hP hD hS => ?_)
                    subst h146
                    exact zretMI (w1 := fun (uu : Unit) => wM g y ya yb yc yd ye yf yg yh yi yj yk yl (ft_copy lane ml (nI w_6) i (nI w_13) j n) tr lane ml (st_copy lane ml cel (nI w_6) i (nI w_13) j n) np sl kd hg ps rs rn rk rh lg fk gt tkn nr ru rl rm rd) () hx hb hr hlocks hS rfl (by have e0 : ft_copy lane ml (nI w_6) i (nI w_13) j n = 3 := (by rw [ft_copy, if_pos (c := isP 4 (nI w_6) ∧ isP 4 (nI w_13)) ⟨(isP_of (by omega) hw_6), (isP_of (by omega) hw_13)⟩, tN_nI (u := w_6) (by omega), tN_nI (u := w_13) (by omega), if_neg (c := lane w_6 = 3 ∨ lane w_13 = 3) (fun z => z.elim h3k h3o), if_neg (c := lane w_6 ≠ lane w_13) (fun z => z hll), if_neg (fun z => z.1.2.1 c91)]); rw [sp_copy, if_pos (c := isP 4 (nI w_6) ∧ isP 4 (nI w_13)) ⟨(isP_of (by omega) hw_6), (isP_of (by omega) hw_13)⟩, e0, if_neg (by decide)]) (by have e0 : ft_copy lane ml (nI w_6) i (nI w_13) j n = 3 := (by rw [ft_copy, if_pos (c := isP 4 (nI w_6) ∧ isP 4 (nI w_13)) ⟨(isP_of (by omega) hw_6), (isP_of (by omega) hw_13)⟩, tN_nI (u := w_6) (by omega), tN_nI (u := w_13) (by omega), if_neg (c := lane w_6 = 3 ∨ lane w_13 = 3) (fun z => z.elim h3k h3o), if_neg (c := lane w_6 ≠ lane w_13) (fun z => z hll), if_neg (fun z => z.1.2.1 c91)]); rw [st_copy, if_neg (c := (isP 4 (nI w_6) ∧ isP 4 (nI w_13)) ∧ ft_copy lane ml (nI w_6) i (nI w_13) j n = 0) (fun z => by rw [e0] at z; exact absurd z.2 (by decide)), e0]; exact hP) dX5_copy_149
                  · refine lv_iload hx hb dX5_copy_94 (lv_at hl 4 rfl) ?_
                    refine lv_aload_n hx hb dX5_copy_96 rfl (lv_at hl 0 rfl) ?_
                    refine va_get (D := g.1) (ci := 5) (v := .ref yb) (C := RX5) (T := TX5) (N := 23) hx hb hts (fun _ h => (List.mem_cons_of_mem _ (List.mem_append_right _ h))) hown hK.1 hP 0 rfl rfl 3 (by decide) (hts _ (List.mem_of_getElem? (i := 3) rfl)) (fun _ h9 => h9) rfl dX5_copy_97 ?_
                    refine lv_iload_n hx hb dX5_copy_100 rfl (lv_at hl 3 rfl) ?_
                    refine n_iald (i := w_13) (v := (nI (ml w_13))) hx hb hK.1 hP 2 0 rfl rfl (by omega) (by decide) rfl dX5_copy_101 ?_
                    refine lv_icmp_gt (tgt := 109) hx hb dX5_copy_102 (by decide) (fun c102 => ?_) (fun c102 => ?_)
                    · refine lv_iconst (v := (nI 0)) hx hb dX5_copy_109 (by decide) ?_
                      refine lv_istore (lv' := [(6, .int (nI 0)), (0, .ref y), (1, .int (nI w_6)), (2, .int i), (3, .int (nI w_13)), (4, .int j), (5, .int n)]) hx hb dX5_copy_110 hl (by decide) rfl (fun ls hl => ?_)
                      refine lv_iload hx hb dX5_copy_112 (lv_at hl 0 rfl) ?_
                      refine lv_if_eq (tgt := 144) hx hb dX5_copy_114 (by decide) (fun c114 => ?_) (fun c114 => ?_)
                      rotate_left
                      · exact absurd (by decide) c114
                      refine lv_aload_n hx hb dX5_copy_144 rfl (lv_at hl 1 rfl) ?_
                      refine lv_iconst (v := (nI 3)) hx hb dX5_copy_145 (by decide) ?_
                      have hPc : PP g (wM g y ya yb yc yd ye yf yg yh yi yj yk yl 0 tr lane ml cel np sl kd hg ps rs rn rk rh lg fk gt tkn nr ru rl rm rd) _ := P_sub hP [0, 1, 2, 3, 4, 5, 6, 7, 8, 9, 10, 11, 12] rfl
                      refine zcallM (w := wM g y ya yb yc yd ye yf yg yh yi yj yk yl 0 tr lane ml cel np sl kd hg ps rs rn rk rh lg fk gt tkn nr ru rl rm rd) (va_runV (As := [.int (nI 3)]) (rest := []) (b := y) S0 (c_X5_fails l g y ya yb yc yd ye yf yg yh yi yj yk yl 0 tr lane ml cel np sl kd hg ps rs rn rk rh lg fk gt tkn nr ru rl rm rd 3) (cwV 1 hts gX5_copy_X5_fails rfl rfl rfl (by decide +kernel) ⟨by decide, by decide⟩) (zpreVM hK hP hD [0, 1, 2, 3, 4, 5, 6, 7, 8, 9, 10, 11, 12] rfl (by decide) (va_recv hK.1 hPc (ci := 5) (q0 := 0) rfl rfl)) rfl rfl hl.1 rfl (lv_room (Nat.le_of_ble_eq_true rfl)) dX5_copy_146 ⟨by decide, by decide⟩) hP hD hS [0, 1, 2, 3, 4, 5, 6, 7, 8, 9, 10, 11, 12] rfl (fun uu146 => wM g y ya yb yc yd ye yf yg yh yi yj yk yl 3 tr lane ml cel np sl kd hg ps rs rn rk rh lg fk gt tkn nr ru rl rm rd) (fun _ => lz_wM.trans lz_wM.symm) (fun _ => rfl) (fun _ => ad_wM.trans ad_wM.symm) (fun r146 uu146 H locs h146 hP hD hS => ?_)
                      subst h146
                      exact zretMI (w1 := fun (uu : Unit) => wM g y ya yb yc yd ye yf yg yh yi yj yk yl (ft_copy lane ml (nI w_6) i (nI w_13) j n) tr lane ml (st_copy lane ml cel (nI w_6) i (nI w_13) j n) np sl kd hg ps rs rn rk rh lg fk gt tkn nr ru rl rm rd) () hx hb hr hlocks hS rfl (by have e0 : ft_copy lane ml (nI w_6) i (nI w_13) j n = 3 := (by rw [ft_copy, if_pos (c := isP 4 (nI w_6) ∧ isP 4 (nI w_13)) ⟨(isP_of (by omega) hw_6), (isP_of (by omega) hw_13)⟩, tN_nI (u := w_6) (by omega), tN_nI (u := w_13) (by omega), if_neg (c := lane w_6 = 3 ∨ lane w_13 = 3) (fun z => z.elim h3k h3o), if_neg (c := lane w_6 ≠ lane w_13) (fun z => z hll), if_neg (fun z => z.2.2.1 c102)]); rw [sp_copy, if_pos (c := isP 4 (nI w_6) ∧ isP 4 (nI w_13)) ⟨(isP_of (by omega) hw_6), (isP_of (by omega) hw_13)⟩, e0, if_neg (by decide)]) (by have e0 : ft_copy lane ml (nI w_6) i (nI w_13) j n = 3 := (by rw [ft_copy, if_pos (c := isP 4 (nI w_6) ∧ isP 4 (nI w_13)) ⟨(isP_of (by omega) hw_6), (isP_of (by omega) hw_13)⟩, tN_nI (u := w_6) (by omega), tN_nI (u := w_13) (by omega), if_neg (c := lane w_6 = 3 ∨ lane w_13 = 3) (fun z => z.elim h3k h3o), if_neg (c := lane w_6 ≠ lane w_13) (fun z => z hll), if_neg (fun z => z.2.2.1 c102)]); rw [st_copy, if_neg (c := (isP 4 (nI w_6) ∧ isP 4 (nI w_13)) ∧ ft_copy lane ml (nI w_6) i (nI w_13) j n = 0) (fun z => by rw [e0] at z; exact absurd z.2 (by decide)), e0]; exact hP) dX5_copy_149
                    · refine lv_iconst (v := (nI 1)) hx hb dX5_copy_105 (by decide) ?_
                      refine lv_goto (tgt := 110) hx hb dX5_copy_106 (by decide) ?_
                      refine lv_istore (lv' := [(6, .int (nI 1)), (0, .ref y), (1, .int (nI w_6)), (2, .int i), (3, .int (nI w_13)), (4, .int j), (5, .int n)]) hx hb dX5_copy_110 hl (by decide) rfl (fun ls hl => ?_)
                      refine lv_iload hx hb dX5_copy_112 (lv_at hl 0 rfl) ?_
                      refine lv_if_eq (tgt := 144) hx hb dX5_copy_114 (by decide) (fun c114 => ?_) (fun c114 => ?_)
                      · exact absurd c114 (by decide)
                      refine lv_iload hx hb dX5_copy_117 (lv_at hl 6 rfl) ?_
                      refine lv_aload_n hx hb dX5_copy_119 rfl (lv_at hl 1 rfl) ?_
                      refine va_get (D := g.1) (ci := 5) (v := .ref yb) (C := RX5) (T := TX5) (N := 23) hx hb hts (fun _ h => (List.mem_cons_of_mem _ (List.mem_append_right _ h))) hown hK.1 hP 0 rfl rfl 3 (by decide) (hts _ (List.mem_of_getElem? (i := 3) rfl)) (fun _ h9 => h9) rfl dX5_copy_120 ?_
                      refine lv_iload_n hx hb dX5_copy_123 rfl (lv_at hl 2 rfl) ?_
                      refine n_iald (i := w_6) (v := (nI (ml w_6))) hx hb hK.1 hP 2 0 rfl rfl (by omega) (by decide) rfl dX5_copy_124 ?_
                      refine lv_iload_n hx hb dX5_copy_125 rfl (lv_at hl 3 rfl) ?_
                      refine lv_isub hx hb dX5_copy_126 ?_
                      refine lv_icmp_gt (tgt := 144) hx hb dX5_copy_127 (by decide) (fun c127 => ?_) (fun c127 => ?_)
                      · refine lv_aload_n hx hb dX5_copy_144 rfl (lv_at hl 1 rfl) ?_
                        refine lv_iconst (v := (nI 3)) hx hb dX5_copy_145 (by decide) ?_
                        have hPc : PP g (wM g y ya yb yc yd ye yf yg yh yi yj yk yl 0 tr lane ml cel np sl kd hg ps rs rn rk rh lg fk gt tkn nr ru rl rm rd) _ := P_sub hP [0, 1, 2, 3, 4, 5, 6, 7, 8, 9, 10, 11, 12] rfl
                        refine zcallM (w := wM g y ya yb yc yd ye yf yg yh yi yj yk yl 0 tr lane ml cel np sl kd hg ps rs rn rk rh lg fk gt tkn nr ru rl rm rd) (va_runV (As := [.int (nI 3)]) (rest := []) (b := y) S0 (c_X5_fails l g y ya yb yc yd ye yf yg yh yi yj yk yl 0 tr lane ml cel np sl kd hg ps rs rn rk rh lg fk gt tkn nr ru rl rm rd 3) (cwV 1 hts gX5_copy_X5_fails rfl rfl rfl (by decide +kernel) ⟨by decide, by decide⟩) (zpreVM hK hP hD [0, 1, 2, 3, 4, 5, 6, 7, 8, 9, 10, 11, 12] rfl (by decide) (va_recv hK.1 hPc (ci := 5) (q0 := 0) rfl rfl)) rfl rfl hl.1 rfl (lv_room (Nat.le_of_ble_eq_true rfl)) dX5_copy_146 ⟨by decide, by decide⟩) hP hD hS [0, 1, 2, 3, 4, 5, 6, 7, 8, 9, 10, 11, 12] rfl (fun uu146 => wM g y ya yb yc yd ye yf yg yh yi yj yk yl 3 tr lane ml cel np sl kd hg ps rs rn rk rh lg fk gt tkn nr ru rl rm rd) (fun _ => lz_wM.trans lz_wM.symm) (fun _ => rfl) (fun _ => ad_wM.trans ad_wM.symm) (fun r146 uu146 H locs h146 hP hD hS => ?_)
                        subst h146
                        exact zretMI (w1 := fun (uu : Unit) => wM g y ya yb yc yd ye yf yg yh yi yj yk yl (ft_copy lane ml (nI w_6) i (nI w_13) j n) tr lane ml (st_copy lane ml cel (nI w_6) i (nI w_13) j n) np sl kd hg ps rs rn rk rh lg fk gt tkn nr ru rl rm rd) () hx hb hr hlocks hS rfl (by have e0 : ft_copy lane ml (nI w_6) i (nI w_13) j n = 3 := (by rw [ft_copy, if_pos (c := isP 4 (nI w_6) ∧ isP 4 (nI w_13)) ⟨(isP_of (by omega) hw_6), (isP_of (by omega) hw_13)⟩, tN_nI (u := w_6) (by omega), tN_nI (u := w_13) (by omega), if_neg (c := lane w_6 = 3 ∨ lane w_13 = 3) (fun z => z.elim h3k h3o), if_neg (c := lane w_6 ≠ lane w_13) (fun z => z hll), if_neg (fun z => z.1.2.2.2 c127)]); rw [sp_copy, if_pos (c := isP 4 (nI w_6) ∧ isP 4 (nI w_13)) ⟨(isP_of (by omega) hw_6), (isP_of (by omega) hw_13)⟩, e0, if_neg (by decide)]) (by have e0 : ft_copy lane ml (nI w_6) i (nI w_13) j n = 3 := (by rw [ft_copy, if_pos (c := isP 4 (nI w_6) ∧ isP 4 (nI w_13)) ⟨(isP_of (by omega) hw_6), (isP_of (by omega) hw_13)⟩, tN_nI (u := w_6) (by omega), tN_nI (u := w_13) (by omega), if_neg (c := lane w_6 = 3 ∨ lane w_13 = 3) (fun z => z.elim h3k h3o), if_neg (c := lane w_6 ≠ lane w_13) (fun z => z hll), if_neg (fun z => z.1.2.2.2 c127)]); rw [st_copy, if_neg (c := (isP 4 (nI w_6) ∧ isP 4 (nI w_13)) ∧ ft_copy lane ml (nI w_6) i (nI w_13) j n = 0) (fun z => by rw [e0] at z; exact absurd z.2 (by decide)), e0]; exact hP) dX5_copy_149
                      · refine lv_iload hx hb dX5_copy_130 (lv_at hl 6 rfl) ?_
                        refine lv_aload_n hx hb dX5_copy_132 rfl (lv_at hl 1 rfl) ?_
                        refine va_get (D := g.1) (ci := 5) (v := .ref yb) (C := RX5) (T := TX5) (N := 23) hx hb hts (fun _ h => (List.mem_cons_of_mem _ (List.mem_append_right _ h))) hown hK.1 hP 0 rfl rfl 3 (by decide) (hts _ (List.mem_of_getElem? (i := 3) rfl)) (fun _ h9 => h9) rfl dX5_copy_133 ?_
                        refine lv_iload_n hx hb dX5_copy_136 rfl (lv_at hl 4 rfl) ?_
                        refine n_iald (i := w_13) (v := (nI (ml w_13))) hx hb hK.1 hP 2 0 rfl rfl (by omega) (by decide) rfl dX5_copy_137 ?_
                        refine lv_iload hx hb dX5_copy_138 (lv_at hl 5 rfl) ?_
                        refine lv_isub hx hb dX5_copy_140 ?_
                        refine lv_icmp_le (tgt := 150) hx hb dX5_copy_141 (by decide) (fun c141 => ?_) (fun c141 => ?_)
                        · have hbk : isB (ml w_6) i n := ⟨c71, i_nlt.mpr (i_nlt.mp c91), c81, c127⟩
                          have hbo : isB (ml w_13) j n := ⟨c76, c102, c81, i_nlt.mpr c141⟩
                          obtain ⟨wi, wn, ei, en, hk1⟩ := (isB_iff (hmz w_6)).mp hbk
                          obtain ⟨wj, wn2, ej, en2, hk2⟩ := (isB_iff (hmz w_13)).mp hbo
                          have hm6 := hmz w_6
                          have hm13 := hmz w_13
                          subst ei
                          subst en
                          subst ej
                          obtain rfl : wn = wn2 := (nI_eq (by omega) (by omega)).mp en2
                          refine lv_iload_n hx hb dX5_copy_150 rfl (lv_at hl 3 rfl) ?_
                          refine lv_iload hx hb dX5_copy_151 (lv_at hl 5 rfl) ?_
                          refine n_icmp_ge (a := wi) (b := wj) (tgt := 160) hx hb (by omega) (by omega) dX5_copy_153 (by decide) (fun c153 => ?_) (fun c153 => ?_)
                          · refine lv_iconst (v := (nI 0)) hx hb dX5_copy_160 (by decide) ?_
                            refine ztopI (nI (b01 (wi < wj))) (by rw [b01_f (by omega)]) ?_
                            refine lv_istore (lv' := [(7, .int (nI (b01 (wi < wj)))), (6, .int (nI 1)), (0, .ref y), (1, .int (nI w_6)), (2, .int (nI wi)), (3, .int (nI w_13)), (4, .int (nI wj)), (5, .int (nI wn))]) hx hb dX5_copy_161 hl (by decide) rfl (fun ls hl => ?_)
                            refine lv_iconst (v := (nI 0)) hx hb dX5_copy_163 (by decide) ?_
                            refine lv_istore (lv' := [(8, .int (nI 0)), (7, .int (nI (b01 (wi < wj)))), (6, .int (nI 1)), (0, .ref y), (1, .int (nI w_6)), (2, .int (nI wi)), (3, .int (nI w_13)), (4, .int (nI wj)), (5, .int (nI wn))]) hx hb dX5_copy_164 hl (by decide) rfl (fun ls hl => ?_)
                            have lp166 : ∀ (nn : Nat) (q : Nat) (H : Heap) (locs : List Loc) (ls : Array Slot), (wn - q) < nn → (q ≤ wn) → PP g (wM g y ya yb yc yd ye yf yg yh yi yj yk yl 0 tr lane ml (cQ cel w_6 w_13 wi wj wn q) np sl kd hg ps rs rn rk rh lg fk gt tkn nr ru rl rm rd) H → va_D (inW (wM g y ya yb yc yd ye yf yg yh yi yj yk yl ft tr lane ml cel np sl kd hg ps rs rn rk rh lg fk gt tkn nr ru rl rm rd)) (wM g y ya yb yc yd ye yf yg yh yi yj yk yl 0 tr lane ml (cQ cel w_6 w_13 wi wj wn q) np sl kd hg ps rs rn rk rh lg fk gt tkn nr ru rl rm rd) → va_S (inW (wM g y ya yb yc yd ye yf yg yh yi yj yk yl ft tr lane ml cel np sl kd hg ps rs rn rk rh lg fk gt tkn nr ru rl rm rd)) s.heap H locs → lv_has ls 10 [(0, .ref y), (1, .int (nI w_6)), (2, .int (nI wi)), (3, .int (nI w_13)), (4, .int (nI wj)), (5, .int (nI wn)), (6, .int (nI 1)), (7, .int (nI (b01 (wi < wj)))), (8, .int (nI q))] → W P l E ({ frames := 2, cells := 0, slots := 0, locals := 42 } : Room) s mt [.ref y, .int (nI w_6), .int (nI wi), .int (nI w_13), .int (nI wj), .int (nI wn)].toArray below meth cd H locs 0 0 (MQ below (va_Qi (fun (r : Int32) (uu : Unit) => r = sp_copy lane ml (nI w_6) (nI wi) (nI w_13) (nI wj) (nI wn)) (fun (uu : Unit) t => PP g (wM g y ya yb yc yd ye yf yg yh yi yj yk yl (ft_copy lane ml (nI w_6) (nI wi) (nI w_13) (nI wj) (nI wn)) tr lane ml (st_copy lane ml cel (nI w_6) (nI wi) (nI w_13) (nI wj) (nI wn)) np sl kd hg ps rs rn rk rh lg fk gt tkn nr ru rl rm rd) t.heap) (inW (wM g y ya yb yc yd ye yf yg yh yi yj yk yl ft tr lane ml cel np sl kd hg ps rs rn rk rh lg fk gt tkn nr ru rl rm rd))) [.ref y, .int (nI w_6), .int (nI wi), .int (nI w_13), .int (nI wj), .int (nI wn)].toArray s 0 0 (inW (wM g y ya yb yc yd ye yf yg yh yi yj yk yl ft tr lane ml cel np sl kd hg ps rs rn rk rh lg fk gt tkn nr ru rl rm rd))) (F0 mt 166 ls []) := by
                              intro nn
                              induction nn with
                              | zero => intro q H locs ls hmu; exact absurd hmu (Nat.not_lt_zero _)
                              | succ nn ih166 =>
                                intro q H locs ls hmu hq hP hD hS hl
                                have hb7 := b01_le (wi < wj)
                                refine lv_iload hx hb dX5_copy_166 (lv_at hl 8 rfl) ?_
                                refine lv_iload hx hb dX5_copy_168 (lv_at hl 5 rfl) ?_
                                refine n_icmp_ge (a := q) (b := wn) (tgt := 227) hx hb (by omega) (by omega) dX5_copy_170 (by decide) (fun c170 => ?_) (fun c170 => ?_)
                                · obtain rfl : wn = q := by omega
                                  refine lv_iload hx hb dX5_copy_227 (lv_at hl 5 rfl) ?_
                                  exact zretMI (w1 := fun (uu : Unit) => wM g y ya yb yc yd ye yf yg yh yi yj yk yl (ft_copy lane ml (nI w_6) (nI wi) (nI w_13) (nI wj) (nI wn)) tr lane ml (st_copy lane ml cel (nI w_6) (nI wi) (nI w_13) (nI wj) (nI wn)) np sl kd hg ps rs rn rk rh lg fk gt tkn nr ru rl rm rd) () hx hb hr hlocks hS rfl (by have e0 : ft_copy lane ml (nI w_6) (nI wi) (nI w_13) (nI wj) (nI wn) = 0 := (by rw [ft_copy, if_pos (c := isP 4 (nI w_6) ∧ isP 4 (nI w_13)) ⟨(isP_of (by omega) hw_6), (isP_of (by omega) hw_13)⟩, tN_nI (u := w_6) (by omega), tN_nI (u := w_13) (by omega), if_neg (c := lane w_6 = 3 ∨ lane w_13 = 3) (fun z => z.elim h3k h3o), if_neg (c := lane w_6 ≠ lane w_13) (fun z => z hll), if_pos ⟨isB_nI (hmz _) hk1, isB_nI (hmz _) hk2⟩]); rw [sp_copy, if_pos (c := isP 4 (nI w_6) ∧ isP 4 (nI w_13)) ⟨(isP_of (by omega) hw_6), (isP_of (by omega) hw_13)⟩, if_pos e0]) (by have e0 : ft_copy lane ml (nI w_6) (nI wi) (nI w_13) (nI wj) (nI wn) = 0 := (by rw [ft_copy, if_pos (c := isP 4 (nI w_6) ∧ isP 4 (nI w_13)) ⟨(isP_of (by omega) hw_6), (isP_of (by omega) hw_13)⟩, tN_nI (u := w_6) (by omega), tN_nI (u := w_13) (by omega), if_neg (c := lane w_6 = 3 ∨ lane w_13 = 3) (fun z => z.elim h3k h3o), if_neg (c := lane w_6 ≠ lane w_13) (fun z => z hll), if_pos ⟨isB_nI (hmz _) hk1, isB_nI (hmz _) hk2⟩]); rw [st_copy, if_pos (c := (isP 4 (nI w_6) ∧ isP 4 (nI w_13)) ∧ ft_copy lane ml (nI w_6) (nI wi) (nI w_13) (nI wj) (nI wn) = 0) ⟨⟨(isP_of (by omega) hw_6), (isP_of (by omega) hw_13)⟩, e0⟩, e0, tN_nI (u := w_6) (by omega), tN_nI (u := w_13) (by omega), tN_nI (u := wi) (by omega), tN_nI (u := wj) (by omega), tN_nI (u := wn) (by omega), ← cQ_n]; exact hP) dX5_copy_229
                                · have hq2 : q < wn := by omega
                                  have hE := cE_lt (i := wi) (j := wj) hq2
                                  refine lv_iload hx hb dX5_copy_173 (lv_at hl 7 rfl) ?_
                                  refine n_if_eq (a := (b01 (wi < wj))) (tgt := 188) hx hb (by omega) dX5_copy_175 (by decide) (fun c175 => ?_) (fun c175 => ?_)
                                  · refine lv_iload hx hb dX5_copy_188 (lv_at hl 8 rfl) ?_
                                    refine ztopI (nI (cE wi wj wn q)) (by rw [cE, if_neg (b01_0.mp c175)]) ?_
                                    refine lv_istore (lv' := [(9, .int (nI (cE wi wj wn q))), (0, .ref y), (1, .int (nI w_6)), (2, .int (nI wi)), (3, .int (nI w_13)), (4, .int (nI wj)), (5, .int (nI wn)), (6, .int (nI 1)), (7, .int (nI (b01 (wi < wj)))), (8, .int (nI q))]) hx hb dX5_copy_190 hl (by decide) rfl (fun ls hl => ?_)
                                    refine lv_aload_n hx hb dX5_copy_192 rfl (lv_at hl 1 rfl) ?_
                                    refine va_get (D := g.1) (ci := 5) (v := .ref yc) (C := RX5) (T := TX5) (N := 23) hx hb hts (fun _ h => (List.mem_cons_of_mem _ (List.mem_append_right _ h))) hown hK.1 hP 0 rfl rfl 4 (by decide) (hts _ (List.mem_of_getElem? (i := 4) rfl)) (fun _ h9 => h9) rfl dX5_copy_193 ?_
                                    refine lv_bipush (v := (nI 60)) hx hb dX5_copy_196 (by decide) ?_
                                    refine lv_iload_n hx hb dX5_copy_198 rfl (lv_at hl 4 rfl) ?_
                                    refine n_imul (a := 60) (b := w_13) hx hb dX5_copy_199 ?_
                                    refine lv_iload hx hb dX5_copy_200 (lv_at hl 5 rfl) ?_
                                    refine n_iadd (a := (60 * w_13)) (b := wj) hx hb dX5_copy_202 ?_
                                    refine lv_iload hx hb dX5_copy_203 (lv_at hl 0 rfl) ?_
                                    refine n_iadd (a := ((60 * w_13) + wj)) (b := (cE wi wj wn q)) hx hb dX5_copy_205 ?_
                                    refine lv_aload_n hx hb dX5_copy_206 rfl (lv_at hl 1 rfl) ?_
                                    refine va_get (D := g.1) (ci := 5) (v := .ref yc) (C := RX5) (T := TX5) (N := 23) hx hb hts (fun _ h => (List.mem_cons_of_mem _ (List.mem_append_right _ h))) hown hK.1 hP 0 rfl rfl 4 (by decide) (hts _ (List.mem_of_getElem? (i := 4) rfl)) (fun _ h9 => h9) rfl dX5_copy_207 ?_
                                    refine lv_bipush (v := (nI 60)) hx hb dX5_copy_210 (by decide) ?_
                                    refine lv_iload_n hx hb dX5_copy_212 rfl (lv_at hl 2 rfl) ?_
                                    refine n_imul (a := 60) (b := w_6) hx hb dX5_copy_213 ?_
                                    refine lv_iload_n hx hb dX5_copy_214 rfl (lv_at hl 3 rfl) ?_
                                    refine n_iadd (a := (60 * w_6)) (b := wi) hx hb dX5_copy_215 ?_
                                    refine lv_iload hx hb dX5_copy_216 (lv_at hl 0 rfl) ?_
                                    refine n_iadd (a := ((60 * w_6) + wi)) (b := (cE wi wj wn q)) hx hb dX5_copy_218 ?_
                                    refine n_iald (i := (((60 * w_6) + wi) + (cE wi wj wn q))) (v := ((cQ cel w_6 w_13 wi wj wn q) ((((60 * w_6) + wi) + (cE wi wj wn q)) / 60) ((((60 * w_6) + wi) + (cE wi wj wn q)) % 60))) hx hb hK.1 hP 3 0 rfl rfl (by omega) (by decide) rfl dX5_copy_219 ?_
                                    refine ztopI (cel w_6 (wi + cE wi wj wn q)) (by rw [show (60 * w_6 + wi + cE wi wj wn q) / 60 = w_6 by omega, show (60 * w_6 + wi + cE wi wj wn q) % 60 = wi + cE wi wj wn q by omega]; exact cQ_rd cel hq2) ?_
                                    refine n_iast (i := (((60 * w_13) + wj) + (cE wi wj wn q))) (x := (cel w_6 (wi + cE wi wj wn q))) (ws1 := wM g y ya yb yc yd ye yf yg yh yi yj yk yl 0 tr lane ml (cQ cel w_6 w_13 wi wj wn (q + 1)) np sl kd hg ps rs rn rk rh lg fk gt tkn nr ru rl rm rd) hx hb hK.1 hP hD hS 3 0 rfl rfl (by omega) (by decide) (fun j => (cQ cel w_6 w_13 wi wj wn (q + 1)) (j / 60) (j % 60)) (cQ_up cel hq2 (by omega)) rfl dX5_copy_220 (fun H locs hP hD hS => ?_)
                                    refine n_iinc (a := q) (d := 1) (lv' := [(8, .int (nI (q + 1))), (9, .int (nI (cE wi wj wn q))), (0, .ref y), (1, .int (nI w_6)), (2, .int (nI wi)), (3, .int (nI w_13)), (4, .int (nI wj)), (5, .int (nI wn)), (6, .int (nI 1)), (7, .int (nI (b01 (wi < wj))))]) hx hb dX5_copy_221 hl (k := 9) rfl (by decide) (by decide) rfl (fun ls hl => ?_)
                                    refine lv_goto (tgt := 166) hx hb dX5_copy_224 (by decide) ?_
                                    exact ih166 (q + 1) _ _ ls (by omega) (by omega) hP hD hS (lv_sub hl [2, 3, 4, 5, 6, 7, 8, 9, 0] rfl)
                                  · refine lv_iload hx hb dX5_copy_178 (lv_at hl 5 rfl) ?_
                                    refine lv_iconst (v := (nI 1)) hx hb dX5_copy_180 (by decide) ?_
                                    refine n_isub (a := wn) (b := 1) hx hb (by omega) dX5_copy_181 ?_
                                    refine lv_iload hx hb dX5_copy_182 (lv_at hl 8 rfl) ?_
                                    refine n_isub (a := (wn - 1)) (b := q) hx hb (by omega) dX5_copy_184 ?_
                                    refine ztopI (nI (cE wi wj wn q)) (by rw [cE, if_pos (b01_n0.mp c175)]) ?_
                                    refine lv_goto (tgt := 190) hx hb dX5_copy_185 (by decide) ?_
                                    refine lv_istore (lv' := [(9, .int (nI (cE wi wj wn q))), (0, .ref y), (1, .int (nI w_6)), (2, .int (nI wi)), (3, .int (nI w_13)), (4, .int (nI wj)), (5, .int (nI wn)), (6, .int (nI 1)), (7, .int (nI (b01 (wi < wj)))), (8, .int (nI q))]) hx hb dX5_copy_190 hl (by decide) rfl (fun ls hl => ?_)
                                    refine lv_aload_n hx hb dX5_copy_192 rfl (lv_at hl 1 rfl) ?_
                                    refine va_get (D := g.1) (ci := 5) (v := .ref yc) (C := RX5) (T := TX5) (N := 23) hx hb hts (fun _ h => (List.mem_cons_of_mem _ (List.mem_append_right _ h))) hown hK.1 hP 0 rfl rfl 4 (by decide) (hts _ (List.mem_of_getElem? (i := 4) rfl)) (fun _ h9 => h9) rfl dX5_copy_193 ?_
                                    refine lv_bipush (v := (nI 60)) hx hb dX5_copy_196 (by decide) ?_
                                    refine lv_iload_n hx hb dX5_copy_198 rfl (lv_at hl 4 rfl) ?_
                                    refine n_imul (a := 60) (b := w_13) hx hb dX5_copy_199 ?_
                                    refine lv_iload hx hb dX5_copy_200 (lv_at hl 5 rfl) ?_
                                    refine n_iadd (a := (60 * w_13)) (b := wj) hx hb dX5_copy_202 ?_
                                    refine lv_iload hx hb dX5_copy_203 (lv_at hl 0 rfl) ?_
                                    refine n_iadd (a := ((60 * w_13) + wj)) (b := (cE wi wj wn q)) hx hb dX5_copy_205 ?_
                                    refine lv_aload_n hx hb dX5_copy_206 rfl (lv_at hl 1 rfl) ?_
                                    refine va_get (D := g.1) (ci := 5) (v := .ref yc) (C := RX5) (T := TX5) (N := 23) hx hb hts (fun _ h => (List.mem_cons_of_mem _ (List.mem_append_right _ h))) hown hK.1 hP 0 rfl rfl 4 (by decide) (hts _ (List.mem_of_getElem? (i := 4) rfl)) (fun _ h9 => h9) rfl dX5_copy_207 ?_
                                    refine lv_bipush (v := (nI 60)) hx hb dX5_copy_210 (by decide) ?_
                                    refine lv_iload_n hx hb dX5_copy_212 rfl (lv_at hl 2 rfl) ?_
                                    refine n_imul (a := 60) (b := w_6) hx hb dX5_copy_213 ?_
                                    refine lv_iload_n hx hb dX5_copy_214 rfl (lv_at hl 3 rfl) ?_
                                    refine n_iadd (a := (60 * w_6)) (b := wi) hx hb dX5_copy_215 ?_
                                    refine lv_iload hx hb dX5_copy_216 (lv_at hl 0 rfl) ?_
                                    refine n_iadd (a := ((60 * w_6) + wi)) (b := (cE wi wj wn q)) hx hb dX5_copy_218 ?_
                                    refine n_iald (i := (((60 * w_6) + wi) + (cE wi wj wn q))) (v := ((cQ cel w_6 w_13 wi wj wn q) ((((60 * w_6) + wi) + (cE wi wj wn q)) / 60) ((((60 * w_6) + wi) + (cE wi wj wn q)) % 60))) hx hb hK.1 hP 3 0 rfl rfl (by omega) (by decide) rfl dX5_copy_219 ?_
                                    refine ztopI (cel w_6 (wi + cE wi wj wn q)) (by rw [show (60 * w_6 + wi + cE wi wj wn q) / 60 = w_6 by omega, show (60 * w_6 + wi + cE wi wj wn q) % 60 = wi + cE wi wj wn q by omega]; exact cQ_rd cel hq2) ?_
                                    refine n_iast (i := (((60 * w_13) + wj) + (cE wi wj wn q))) (x := (cel w_6 (wi + cE wi wj wn q))) (ws1 := wM g y ya yb yc yd ye yf yg yh yi yj yk yl 0 tr lane ml (cQ cel w_6 w_13 wi wj wn (q + 1)) np sl kd hg ps rs rn rk rh lg fk gt tkn nr ru rl rm rd) hx hb hK.1 hP hD hS 3 0 rfl rfl (by omega) (by decide) (fun j => (cQ cel w_6 w_13 wi wj wn (q + 1)) (j / 60) (j % 60)) (cQ_up cel hq2 (by omega)) rfl dX5_copy_220 (fun H locs hP hD hS => ?_)
                                    refine n_iinc (a := q) (d := 1) (lv' := [(8, .int (nI (q + 1))), (9, .int (nI (cE wi wj wn q))), (0, .ref y), (1, .int (nI w_6)), (2, .int (nI wi)), (3, .int (nI w_13)), (4, .int (nI wj)), (5, .int (nI wn)), (6, .int (nI 1)), (7, .int (nI (b01 (wi < wj))))]) hx hb dX5_copy_221 hl (k := 9) rfl (by decide) (by decide) rfl (fun ls hl => ?_)
                                    refine lv_goto (tgt := 166) hx hb dX5_copy_224 (by decide) ?_
                                    exact ih166 (q + 1) _ _ ls (by omega) (by omega) hP hD hS (lv_sub hl [2, 3, 4, 5, 6, 7, 8, 9, 0] rfl)
                            exact lp166 (wn - 0 + 1) 0 _ _ ls (Nat.lt_succ_self _) (by omega) (by rw [cQ_0]; exact hP) (by rw [cQ_0]; exact hD) hS (lv_sub hl [3, 4, 5, 6, 7, 8, 2, 1, 0] rfl)
                          · refine lv_iconst (v := (nI 1)) hx hb dX5_copy_156 (by decide) ?_
                            refine ztopI (nI (b01 (wi < wj))) (by rw [b01_t (by omega)]) ?_
                            refine lv_goto (tgt := 161) hx hb dX5_copy_157 (by decide) ?_
                            refine lv_istore (lv' := [(7, .int (nI (b01 (wi < wj)))), (6, .int (nI 1)), (0, .ref y), (1, .int (nI w_6)), (2, .int (nI wi)), (3, .int (nI w_13)), (4, .int (nI wj)), (5, .int (nI wn))]) hx hb dX5_copy_161 hl (by decide) rfl (fun ls hl => ?_)
                            refine lv_iconst (v := (nI 0)) hx hb dX5_copy_163 (by decide) ?_
                            refine lv_istore (lv' := [(8, .int (nI 0)), (7, .int (nI (b01 (wi < wj)))), (6, .int (nI 1)), (0, .ref y), (1, .int (nI w_6)), (2, .int (nI wi)), (3, .int (nI w_13)), (4, .int (nI wj)), (5, .int (nI wn))]) hx hb dX5_copy_164 hl (by decide) rfl (fun ls hl => ?_)
                            have lp166 : ∀ (nn : Nat) (q : Nat) (H : Heap) (locs : List Loc) (ls : Array Slot), (wn - q) < nn → (q ≤ wn) → PP g (wM g y ya yb yc yd ye yf yg yh yi yj yk yl 0 tr lane ml (cQ cel w_6 w_13 wi wj wn q) np sl kd hg ps rs rn rk rh lg fk gt tkn nr ru rl rm rd) H → va_D (inW (wM g y ya yb yc yd ye yf yg yh yi yj yk yl ft tr lane ml cel np sl kd hg ps rs rn rk rh lg fk gt tkn nr ru rl rm rd)) (wM g y ya yb yc yd ye yf yg yh yi yj yk yl 0 tr lane ml (cQ cel w_6 w_13 wi wj wn q) np sl kd hg ps rs rn rk rh lg fk gt tkn nr ru rl rm rd) → va_S (inW (wM g y ya yb yc yd ye yf yg yh yi yj yk yl ft tr lane ml cel np sl kd hg ps rs rn rk rh lg fk gt tkn nr ru rl rm rd)) s.heap H locs → lv_has ls 10 [(0, .ref y), (1, .int (nI w_6)), (2, .int (nI wi)), (3, .int (nI w_13)), (4, .int (nI wj)), (5, .int (nI wn)), (6, .int (nI 1)), (7, .int (nI (b01 (wi < wj)))), (8, .int (nI q))] → W P l E ({ frames := 2, cells := 0, slots := 0, locals := 42 } : Room) s mt [.ref y, .int (nI w_6), .int (nI wi), .int (nI w_13), .int (nI wj), .int (nI wn)].toArray below meth cd H locs 0 0 (MQ below (va_Qi (fun (r : Int32) (uu : Unit) => r = sp_copy lane ml (nI w_6) (nI wi) (nI w_13) (nI wj) (nI wn)) (fun (uu : Unit) t => PP g (wM g y ya yb yc yd ye yf yg yh yi yj yk yl (ft_copy lane ml (nI w_6) (nI wi) (nI w_13) (nI wj) (nI wn)) tr lane ml (st_copy lane ml cel (nI w_6) (nI wi) (nI w_13) (nI wj) (nI wn)) np sl kd hg ps rs rn rk rh lg fk gt tkn nr ru rl rm rd) t.heap) (inW (wM g y ya yb yc yd ye yf yg yh yi yj yk yl ft tr lane ml cel np sl kd hg ps rs rn rk rh lg fk gt tkn nr ru rl rm rd))) [.ref y, .int (nI w_6), .int (nI wi), .int (nI w_13), .int (nI wj), .int (nI wn)].toArray s 0 0 (inW (wM g y ya yb yc yd ye yf yg yh yi yj yk yl ft tr lane ml cel np sl kd hg ps rs rn rk rh lg fk gt tkn nr ru rl rm rd))) (F0 mt 166 ls []) := by
                              intro nn
                              induction nn with
                              | zero => intro q H locs ls hmu; exact absurd hmu (Nat.not_lt_zero _)
                              | succ nn ih166 =>
                                intro q H locs ls hmu hq hP hD hS hl
                                have hb7 := b01_le (wi < wj)
                                refine lv_iload hx hb dX5_copy_166 (lv_at hl 8 rfl) ?_
                                refine lv_iload hx hb dX5_copy_168 (lv_at hl 5 rfl) ?_
                                refine n_icmp_ge (a := q) (b := wn) (tgt := 227) hx hb (by omega) (by omega) dX5_copy_170 (by decide) (fun c170 => ?_) (fun c170 => ?_)
                                · obtain rfl : wn = q := by omega
                                  refine lv_iload hx hb dX5_copy_227 (lv_at hl 5 rfl) ?_
                                  exact zretMI (w1 := fun (uu : Unit) => wM g y ya yb yc yd ye yf yg yh yi yj yk yl (ft_copy lane ml (nI w_6) (nI wi) (nI w_13) (nI wj) (nI wn)) tr lane ml (st_copy lane ml cel (nI w_6) (nI wi) (nI w_13) (nI wj) (nI wn)) np sl kd hg ps rs rn rk rh lg fk gt tkn nr ru rl rm rd) () hx hb hr hlocks hS rfl (by have e0 : ft_copy lane ml (nI w_6) (nI wi) (nI w_13) (nI wj) (nI wn) = 0 := (by rw [ft_copy, if_pos (c := isP 4 (nI w_6) ∧ isP 4 (nI w_13)) ⟨(isP_of (by omega) hw_6), (isP_of (by omega) hw_13)⟩, tN_nI (u := w_6) (by omega), tN_nI (u := w_13) (by omega), if_neg (c := lane w_6 = 3 ∨ lane w_13 = 3) (fun z => z.elim h3k h3o), if_neg (c := lane w_6 ≠ lane w_13) (fun z => z hll), if_pos ⟨isB_nI (hmz _) hk1, isB_nI (hmz _) hk2⟩]); rw [sp_copy, if_pos (c := isP 4 (nI w_6) ∧ isP 4 (nI w_13)) ⟨(isP_of (by omega) hw_6), (isP_of (by omega) hw_13)⟩, if_pos e0]) (by have e0 : ft_copy lane ml (nI w_6) (nI wi) (nI w_13) (nI wj) (nI wn) = 0 := (by rw [ft_copy, if_pos (c := isP 4 (nI w_6) ∧ isP 4 (nI w_13)) ⟨(isP_of (by omega) hw_6), (isP_of (by omega) hw_13)⟩, tN_nI (u := w_6) (by omega), tN_nI (u := w_13) (by omega), if_neg (c := lane w_6 = 3 ∨ lane w_13 = 3) (fun z => z.elim h3k h3o), if_neg (c := lane w_6 ≠ lane w_13) (fun z => z hll), if_pos ⟨isB_nI (hmz _) hk1, isB_nI (hmz _) hk2⟩]); rw [st_copy, if_pos (c := (isP 4 (nI w_6) ∧ isP 4 (nI w_13)) ∧ ft_copy lane ml (nI w_6) (nI wi) (nI w_13) (nI wj) (nI wn) = 0) ⟨⟨(isP_of (by omega) hw_6), (isP_of (by omega) hw_13)⟩, e0⟩, e0, tN_nI (u := w_6) (by omega), tN_nI (u := w_13) (by omega), tN_nI (u := wi) (by omega), tN_nI (u := wj) (by omega), tN_nI (u := wn) (by omega), ← cQ_n]; exact hP) dX5_copy_229
                                · have hq2 : q < wn := by omega
                                  have hE := cE_lt (i := wi) (j := wj) hq2
                                  refine lv_iload hx hb dX5_copy_173 (lv_at hl 7 rfl) ?_
                                  refine n_if_eq (a := (b01 (wi < wj))) (tgt := 188) hx hb (by omega) dX5_copy_175 (by decide) (fun c175 => ?_) (fun c175 => ?_)
                                  · refine lv_iload hx hb dX5_copy_188 (lv_at hl 8 rfl) ?_
                                    refine ztopI (nI (cE wi wj wn q)) (by rw [cE, if_neg (b01_0.mp c175)]) ?_
                                    refine lv_istore (lv' := [(9, .int (nI (cE wi wj wn q))), (0, .ref y), (1, .int (nI w_6)), (2, .int (nI wi)), (3, .int (nI w_13)), (4, .int (nI wj)), (5, .int (nI wn)), (6, .int (nI 1)), (7, .int (nI (b01 (wi < wj)))), (8, .int (nI q))]) hx hb dX5_copy_190 hl (by decide) rfl (fun ls hl => ?_)
                                    refine lv_aload_n hx hb dX5_copy_192 rfl (lv_at hl 1 rfl) ?_
                                    refine va_get (D := g.1) (ci := 5) (v := .ref yc) (C := RX5) (T := TX5) (N := 23) hx hb hts (fun _ h => (List.mem_cons_of_mem _ (List.mem_append_right _ h))) hown hK.1 hP 0 rfl rfl 4 (by decide) (hts _ (List.mem_of_getElem? (i := 4) rfl)) (fun _ h9 => h9) rfl dX5_copy_193 ?_
                                    refine lv_bipush (v := (nI 60)) hx hb dX5_copy_196 (by decide) ?_
                                    refine lv_iload_n hx hb dX5_copy_198 rfl (lv_at hl 4 rfl) ?_
                                    refine n_imul (a := 60) (b := w_13) hx hb dX5_copy_199 ?_
                                    refine lv_iload hx hb dX5_copy_200 (lv_at hl 5 rfl) ?_
                                    refine n_iadd (a := (60 * w_13)) (b := wj) hx hb dX5_copy_202 ?_
                                    refine lv_iload hx hb dX5_copy_203 (lv_at hl 0 rfl) ?_
                                    refine n_iadd (a := ((60 * w_13) + wj)) (b := (cE wi wj wn q)) hx hb dX5_copy_205 ?_
                                    refine lv_aload_n hx hb dX5_copy_206 rfl (lv_at hl 1 rfl) ?_
                                    refine va_get (D := g.1) (ci := 5) (v := .ref yc) (C := RX5) (T := TX5) (N := 23) hx hb hts (fun _ h => (List.mem_cons_of_mem _ (List.mem_append_right _ h))) hown hK.1 hP 0 rfl rfl 4 (by decide) (hts _ (List.mem_of_getElem? (i := 4) rfl)) (fun _ h9 => h9) rfl dX5_copy_207 ?_
                                    refine lv_bipush (v := (nI 60)) hx hb dX5_copy_210 (by decide) ?_
                                    refine lv_iload_n hx hb dX5_copy_212 rfl (lv_at hl 2 rfl) ?_
                                    refine n_imul (a := 60) (b := w_6) hx hb dX5_copy_213 ?_
                                    refine lv_iload_n hx hb dX5_copy_214 rfl (lv_at hl 3 rfl) ?_
                                    refine n_iadd (a := (60 * w_6)) (b := wi) hx hb dX5_copy_215 ?_
                                    refine lv_iload hx hb dX5_copy_216 (lv_at hl 0 rfl) ?_
                                    refine n_iadd (a := ((60 * w_6) + wi)) (b := (cE wi wj wn q)) hx hb dX5_copy_218 ?_
                                    refine n_iald (i := (((60 * w_6) + wi) + (cE wi wj wn q))) (v := ((cQ cel w_6 w_13 wi wj wn q) ((((60 * w_6) + wi) + (cE wi wj wn q)) / 60) ((((60 * w_6) + wi) + (cE wi wj wn q)) % 60))) hx hb hK.1 hP 3 0 rfl rfl (by omega) (by decide) rfl dX5_copy_219 ?_
                                    refine ztopI (cel w_6 (wi + cE wi wj wn q)) (by rw [show (60 * w_6 + wi + cE wi wj wn q) / 60 = w_6 by omega, show (60 * w_6 + wi + cE wi wj wn q) % 60 = wi + cE wi wj wn q by omega]; exact cQ_rd cel hq2) ?_
                                    refine n_iast (i := (((60 * w_13) + wj) + (cE wi wj wn q))) (x := (cel w_6 (wi + cE wi wj wn q))) (ws1 := wM g y ya yb yc yd ye yf yg yh yi yj yk yl 0 tr lane ml (cQ cel w_6 w_13 wi wj wn (q + 1)) np sl kd hg ps rs rn rk rh lg fk gt tkn nr ru rl rm rd) hx hb hK.1 hP hD hS 3 0 rfl rfl (by omega) (by decide) (fun j => (cQ cel w_6 w_13 wi wj wn (q + 1)) (j / 60) (j % 60)) (cQ_up cel hq2 (by omega)) rfl dX5_copy_220 (fun H locs hP hD hS => ?_)
                                    refine n_iinc (a := q) (d := 1) (lv' := [(8, .int (nI (q + 1))), (9, .int (nI (cE wi wj wn q))), (0, .ref y), (1, .int (nI w_6)), (2, .int (nI wi)), (3, .int (nI w_13)), (4, .int (nI wj)), (5, .int (nI wn)), (6, .int (nI 1)), (7, .int (nI (b01 (wi < wj))))]) hx hb dX5_copy_221 hl (k := 9) rfl (by decide) (by decide) rfl (fun ls hl => ?_)
                                    refine lv_goto (tgt := 166) hx hb dX5_copy_224 (by decide) ?_
                                    exact ih166 (q + 1) _ _ ls (by omega) (by omega) hP hD hS (lv_sub hl [2, 3, 4, 5, 6, 7, 8, 9, 0] rfl)
                                  · refine lv_iload hx hb dX5_copy_178 (lv_at hl 5 rfl) ?_
                                    refine lv_iconst (v := (nI 1)) hx hb dX5_copy_180 (by decide) ?_
                                    refine n_isub (a := wn) (b := 1) hx hb (by omega) dX5_copy_181 ?_
                                    refine lv_iload hx hb dX5_copy_182 (lv_at hl 8 rfl) ?_
                                    refine n_isub (a := (wn - 1)) (b := q) hx hb (by omega) dX5_copy_184 ?_
                                    refine ztopI (nI (cE wi wj wn q)) (by rw [cE, if_pos (b01_n0.mp c175)]) ?_
                                    refine lv_goto (tgt := 190) hx hb dX5_copy_185 (by decide) ?_
                                    refine lv_istore (lv' := [(9, .int (nI (cE wi wj wn q))), (0, .ref y), (1, .int (nI w_6)), (2, .int (nI wi)), (3, .int (nI w_13)), (4, .int (nI wj)), (5, .int (nI wn)), (6, .int (nI 1)), (7, .int (nI (b01 (wi < wj)))), (8, .int (nI q))]) hx hb dX5_copy_190 hl (by decide) rfl (fun ls hl => ?_)
                                    refine lv_aload_n hx hb dX5_copy_192 rfl (lv_at hl 1 rfl) ?_
                                    refine va_get (D := g.1) (ci := 5) (v := .ref yc) (C := RX5) (T := TX5) (N := 23) hx hb hts (fun _ h => (List.mem_cons_of_mem _ (List.mem_append_right _ h))) hown hK.1 hP 0 rfl rfl 4 (by decide) (hts _ (List.mem_of_getElem? (i := 4) rfl)) (fun _ h9 => h9) rfl dX5_copy_193 ?_
                                    refine lv_bipush (v := (nI 60)) hx hb dX5_copy_196 (by decide) ?_
                                    refine lv_iload_n hx hb dX5_copy_198 rfl (lv_at hl 4 rfl) ?_
                                    refine n_imul (a := 60) (b := w_13) hx hb dX5_copy_199 ?_
                                    refine lv_iload hx hb dX5_copy_200 (lv_at hl 5 rfl) ?_
                                    refine n_iadd (a := (60 * w_13)) (b := wj) hx hb dX5_copy_202 ?_
                                    refine lv_iload hx hb dX5_copy_203 (lv_at hl 0 rfl) ?_
                                    refine n_iadd (a := ((60 * w_13) + wj)) (b := (cE wi wj wn q)) hx hb dX5_copy_205 ?_
                                    refine lv_aload_n hx hb dX5_copy_206 rfl (lv_at hl 1 rfl) ?_
                                    refine va_get (D := g.1) (ci := 5) (v := .ref yc) (C := RX5) (T := TX5) (N := 23) hx hb hts (fun _ h => (List.mem_cons_of_mem _ (List.mem_append_right _ h))) hown hK.1 hP 0 rfl rfl 4 (by decide) (hts _ (List.mem_of_getElem? (i := 4) rfl)) (fun _ h9 => h9) rfl dX5_copy_207 ?_
                                    refine lv_bipush (v := (nI 60)) hx hb dX5_copy_210 (by decide) ?_
                                    refine lv_iload_n hx hb dX5_copy_212 rfl (lv_at hl 2 rfl) ?_
                                    refine n_imul (a := 60) (b := w_6) hx hb dX5_copy_213 ?_
                                    refine lv_iload_n hx hb dX5_copy_214 rfl (lv_at hl 3 rfl) ?_
                                    refine n_iadd (a := (60 * w_6)) (b := wi) hx hb dX5_copy_215 ?_
                                    refine lv_iload hx hb dX5_copy_216 (lv_at hl 0 rfl) ?_
                                    refine n_iadd (a := ((60 * w_6) + wi)) (b := (cE wi wj wn q)) hx hb dX5_copy_218 ?_
                                    refine n_iald (i := (((60 * w_6) + wi) + (cE wi wj wn q))) (v := ((cQ cel w_6 w_13 wi wj wn q) ((((60 * w_6) + wi) + (cE wi wj wn q)) / 60) ((((60 * w_6) + wi) + (cE wi wj wn q)) % 60))) hx hb hK.1 hP 3 0 rfl rfl (by omega) (by decide) rfl dX5_copy_219 ?_
                                    refine ztopI (cel w_6 (wi + cE wi wj wn q)) (by rw [show (60 * w_6 + wi + cE wi wj wn q) / 60 = w_6 by omega, show (60 * w_6 + wi + cE wi wj wn q) % 60 = wi + cE wi wj wn q by omega]; exact cQ_rd cel hq2) ?_
                                    refine n_iast (i := (((60 * w_13) + wj) + (cE wi wj wn q))) (x := (cel w_6 (wi + cE wi wj wn q))) (ws1 := wM g y ya yb yc yd ye yf yg yh yi yj yk yl 0 tr lane ml (cQ cel w_6 w_13 wi wj wn (q + 1)) np sl kd hg ps rs rn rk rh lg fk gt tkn nr ru rl rm rd) hx hb hK.1 hP hD hS 3 0 rfl rfl (by omega) (by decide) (fun j => (cQ cel w_6 w_13 wi wj wn (q + 1)) (j / 60) (j % 60)) (cQ_up cel hq2 (by omega)) rfl dX5_copy_220 (fun H locs hP hD hS => ?_)
                                    refine n_iinc (a := q) (d := 1) (lv' := [(8, .int (nI (q + 1))), (9, .int (nI (cE wi wj wn q))), (0, .ref y), (1, .int (nI w_6)), (2, .int (nI wi)), (3, .int (nI w_13)), (4, .int (nI wj)), (5, .int (nI wn)), (6, .int (nI 1)), (7, .int (nI (b01 (wi < wj))))]) hx hb dX5_copy_221 hl (k := 9) rfl (by decide) (by decide) rfl (fun ls hl => ?_)
                                    refine lv_goto (tgt := 166) hx hb dX5_copy_224 (by decide) ?_
                                    exact ih166 (q + 1) _ _ ls (by omega) (by omega) hP hD hS (lv_sub hl [2, 3, 4, 5, 6, 7, 8, 9, 0] rfl)
                            exact lp166 (wn - 0 + 1) 0 _ _ ls (Nat.lt_succ_self _) (by omega) (by rw [cQ_0]; exact hP) (by rw [cQ_0]; exact hD) hS (lv_sub hl [3, 4, 5, 6, 7, 8, 2, 1, 0] rfl)
                        · refine lv_aload_n hx hb dX5_copy_144 rfl (lv_at hl 1 rfl) ?_
                          refine lv_iconst (v := (nI 3)) hx hb dX5_copy_145 (by decide) ?_
                          have hPc : PP g (wM g y ya yb yc yd ye yf yg yh yi yj yk yl 0 tr lane ml cel np sl kd hg ps rs rn rk rh lg fk gt tkn nr ru rl rm rd) _ := P_sub hP [0, 1, 2, 3, 4, 5, 6, 7, 8, 9, 10, 11, 12] rfl
                          refine zcallM (w := wM g y ya yb yc yd ye yf yg yh yi yj yk yl 0 tr lane ml cel np sl kd hg ps rs rn rk rh lg fk gt tkn nr ru rl rm rd) (va_runV (As := [.int (nI 3)]) (rest := []) (b := y) S0 (c_X5_fails l g y ya yb yc yd ye yf yg yh yi yj yk yl 0 tr lane ml cel np sl kd hg ps rs rn rk rh lg fk gt tkn nr ru rl rm rd 3) (cwV 1 hts gX5_copy_X5_fails rfl rfl rfl (by decide +kernel) ⟨by decide, by decide⟩) (zpreVM hK hP hD [0, 1, 2, 3, 4, 5, 6, 7, 8, 9, 10, 11, 12] rfl (by decide) (va_recv hK.1 hPc (ci := 5) (q0 := 0) rfl rfl)) rfl rfl hl.1 rfl (lv_room (Nat.le_of_ble_eq_true rfl)) dX5_copy_146 ⟨by decide, by decide⟩) hP hD hS [0, 1, 2, 3, 4, 5, 6, 7, 8, 9, 10, 11, 12] rfl (fun uu146 => wM g y ya yb yc yd ye yf yg yh yi yj yk yl 3 tr lane ml cel np sl kd hg ps rs rn rk rh lg fk gt tkn nr ru rl rm rd) (fun _ => lz_wM.trans lz_wM.symm) (fun _ => rfl) (fun _ => ad_wM.trans ad_wM.symm) (fun r146 uu146 H locs h146 hP hD hS => ?_)
                          subst h146
                          exact zretMI (w1 := fun (uu : Unit) => wM g y ya yb yc yd ye yf yg yh yi yj yk yl (ft_copy lane ml (nI w_6) i (nI w_13) j n) tr lane ml (st_copy lane ml cel (nI w_6) i (nI w_13) j n) np sl kd hg ps rs rn rk rh lg fk gt tkn nr ru rl rm rd) () hx hb hr hlocks hS rfl (by have e0 : ft_copy lane ml (nI w_6) i (nI w_13) j n = 3 := (by rw [ft_copy, if_pos (c := isP 4 (nI w_6) ∧ isP 4 (nI w_13)) ⟨(isP_of (by omega) hw_6), (isP_of (by omega) hw_13)⟩, tN_nI (u := w_6) (by omega), tN_nI (u := w_13) (by omega), if_neg (c := lane w_6 = 3 ∨ lane w_13 = 3) (fun z => z.elim h3k h3o), if_neg (c := lane w_6 ≠ lane w_13) (fun z => z hll), if_neg (fun z => z.2.2.2.2 (i_nle.mp c141))]); rw [sp_copy, if_pos (c := isP 4 (nI w_6) ∧ isP 4 (nI w_13)) ⟨(isP_of (by omega) hw_6), (isP_of (by omega) hw_13)⟩, e0, if_neg (by decide)]) (by have e0 : ft_copy lane ml (nI w_6) i (nI w_13) j n = 3 := (by rw [ft_copy, if_pos (c := isP 4 (nI w_6) ∧ isP 4 (nI w_13)) ⟨(isP_of (by omega) hw_6), (isP_of (by omega) hw_13)⟩, tN_nI (u := w_6) (by omega), tN_nI (u := w_13) (by omega), if_neg (c := lane w_6 = 3 ∨ lane w_13 = 3) (fun z => z.elim h3k h3o), if_neg (c := lane w_6 ≠ lane w_13) (fun z => z hll), if_neg (fun z => z.2.2.2.2 (i_nle.mp c141))]); rw [st_copy, if_neg (c := (isP 4 (nI w_6) ∧ isP 4 (nI w_13)) ∧ ft_copy lane ml (nI w_6) i (nI w_13) j n = 0) (fun z => by rw [e0] at z; exact absurd z.2 (by decide)), e0]; exact hP) dX5_copy_149
          · have hll : lane w_6 ≠ lane w_13 := fun z => c61 (by rw [z])
            refine lv_aload_n hx hb dX5_copy_64 rfl (lv_at hl 0 rfl) ?_
            refine lv_iconst (v := (nI 2)) hx hb dX5_copy_65 (by decide) ?_
            have hPc : PP g (wM g y ya yb yc yd ye yf yg yh yi yj yk yl 0 tr lane ml cel np sl kd hg ps rs rn rk rh lg fk gt tkn nr ru rl rm rd) _ := P_sub hP [0, 1, 2, 3, 4, 5, 6, 7, 8, 9, 10, 11, 12] rfl
            refine zcallM (w := wM g y ya yb yc yd ye yf yg yh yi yj yk yl 0 tr lane ml cel np sl kd hg ps rs rn rk rh lg fk gt tkn nr ru rl rm rd) (va_runV (As := [.int (nI 2)]) (rest := []) (b := y) S0 (c_X5_fails l g y ya yb yc yd ye yf yg yh yi yj yk yl 0 tr lane ml cel np sl kd hg ps rs rn rk rh lg fk gt tkn nr ru rl rm rd 2) (cwV 1 hts gX5_copy_X5_fails rfl rfl rfl (by decide +kernel) ⟨by decide, by decide⟩) (zpreVM hK hP hD [0, 1, 2, 3, 4, 5, 6, 7, 8, 9, 10, 11, 12] rfl (by decide) (va_recv hK.1 hPc (ci := 5) (q0 := 0) rfl rfl)) rfl rfl hl.1 rfl (lv_room (Nat.le_of_ble_eq_true rfl)) dX5_copy_66 ⟨by decide, by decide⟩) hP hD hS [0, 1, 2, 3, 4, 5, 6, 7, 8, 9, 10, 11, 12] rfl (fun uu66 => wM g y ya yb yc yd ye yf yg yh yi yj yk yl 2 tr lane ml cel np sl kd hg ps rs rn rk rh lg fk gt tkn nr ru rl rm rd) (fun _ => lz_wM.trans lz_wM.symm) (fun _ => rfl) (fun _ => ad_wM.trans ad_wM.symm) (fun r66 uu66 H locs h66 hP hD hS => ?_)
            subst h66
            exact zretMI (w1 := fun (uu : Unit) => wM g y ya yb yc yd ye yf yg yh yi yj yk yl (ft_copy lane ml (nI w_6) i (nI w_13) j n) tr lane ml (st_copy lane ml cel (nI w_6) i (nI w_13) j n) np sl kd hg ps rs rn rk rh lg fk gt tkn nr ru rl rm rd) () hx hb hr hlocks hS rfl (by have e0 : ft_copy lane ml (nI w_6) i (nI w_13) j n = 2 := (by rw [ft_copy, if_pos (c := isP 4 (nI w_6) ∧ isP 4 (nI w_13)) ⟨(isP_of (by omega) hw_6), (isP_of (by omega) hw_13)⟩, tN_nI (u := w_6) (by omega), tN_nI (u := w_13) (by omega), if_neg (c := lane w_6 = 3 ∨ lane w_13 = 3) (fun z => z.elim h3k h3o), if_pos hll]); rw [sp_copy, if_pos (c := isP 4 (nI w_6) ∧ isP 4 (nI w_13)) ⟨(isP_of (by omega) hw_6), (isP_of (by omega) hw_13)⟩, e0, if_neg (by decide)]) (by have e0 : ft_copy lane ml (nI w_6) i (nI w_13) j n = 2 := (by rw [ft_copy, if_pos (c := isP 4 (nI w_6) ∧ isP 4 (nI w_13)) ⟨(isP_of (by omega) hw_6), (isP_of (by omega) hw_13)⟩, tN_nI (u := w_6) (by omega), tN_nI (u := w_13) (by omega), if_neg (c := lane w_6 = 3 ∨ lane w_13 = 3) (fun z => z.elim h3k h3o), if_pos hll]); rw [st_copy, if_neg (c := (isP 4 (nI w_6) ∧ isP 4 (nI w_13)) ∧ ft_copy lane ml (nI w_6) i (nI w_13) j n = 0) (fun z => by rw [e0] at z; exact absurd z.2 (by decide)), e0]; exact hP) dX5_copy_69
        · have h3o : lane w_13 = 3 := (sM_9 (hla _)).mp c40
          refine lv_aload_n hx hb dX5_copy_43 rfl (lv_at hl 0 rfl) ?_
          refine lv_iconst (v := (nI 1)) hx hb dX5_copy_44 (by decide) ?_
          have hPc : PP g (wM g y ya yb yc yd ye yf yg yh yi yj yk yl 0 tr lane ml cel np sl kd hg ps rs rn rk rh lg fk gt tkn nr ru rl rm rd) _ := P_sub hP [0, 1, 2, 3, 4, 5, 6, 7, 8, 9, 10, 11, 12] rfl
          refine zcallM (w := wM g y ya yb yc yd ye yf yg yh yi yj yk yl 0 tr lane ml cel np sl kd hg ps rs rn rk rh lg fk gt tkn nr ru rl rm rd) (va_runV (As := [.int (nI 1)]) (rest := []) (b := y) S0 (c_X5_fails l g y ya yb yc yd ye yf yg yh yi yj yk yl 0 tr lane ml cel np sl kd hg ps rs rn rk rh lg fk gt tkn nr ru rl rm rd 1) (cwV 1 hts gX5_copy_X5_fails rfl rfl rfl (by decide +kernel) ⟨by decide, by decide⟩) (zpreVM hK hP hD [0, 1, 2, 3, 4, 5, 6, 7, 8, 9, 10, 11, 12] rfl (by decide) (va_recv hK.1 hPc (ci := 5) (q0 := 0) rfl rfl)) rfl rfl hl.1 rfl (lv_room (Nat.le_of_ble_eq_true rfl)) dX5_copy_45 ⟨by decide, by decide⟩) hP hD hS [0, 1, 2, 3, 4, 5, 6, 7, 8, 9, 10, 11, 12] rfl (fun uu45 => wM g y ya yb yc yd ye yf yg yh yi yj yk yl 1 tr lane ml cel np sl kd hg ps rs rn rk rh lg fk gt tkn nr ru rl rm rd) (fun _ => lz_wM.trans lz_wM.symm) (fun _ => rfl) (fun _ => ad_wM.trans ad_wM.symm) (fun r45 uu45 H locs h45 hP hD hS => ?_)
          subst h45
          exact zretMI (w1 := fun (uu : Unit) => wM g y ya yb yc yd ye yf yg yh yi yj yk yl (ft_copy lane ml (nI w_6) i (nI w_13) j n) tr lane ml (st_copy lane ml cel (nI w_6) i (nI w_13) j n) np sl kd hg ps rs rn rk rh lg fk gt tkn nr ru rl rm rd) () hx hb hr hlocks hS rfl (by have e0 : ft_copy lane ml (nI w_6) i (nI w_13) j n = 1 := (by rw [ft_copy, if_pos (c := isP 4 (nI w_6) ∧ isP 4 (nI w_13)) ⟨(isP_of (by omega) hw_6), (isP_of (by omega) hw_13)⟩, tN_nI (u := w_6) (by omega), tN_nI (u := w_13) (by omega), if_pos (Or.inr h3o)]); rw [sp_copy, if_pos (c := isP 4 (nI w_6) ∧ isP 4 (nI w_13)) ⟨(isP_of (by omega) hw_6), (isP_of (by omega) hw_13)⟩, e0, if_neg (by decide)]) (by have e0 : ft_copy lane ml (nI w_6) i (nI w_13) j n = 1 := (by rw [ft_copy, if_pos (c := isP 4 (nI w_6) ∧ isP 4 (nI w_13)) ⟨(isP_of (by omega) hw_6), (isP_of (by omega) hw_13)⟩, tN_nI (u := w_6) (by omega), tN_nI (u := w_13) (by omega), if_pos (Or.inr h3o)]); rw [st_copy, if_neg (c := (isP 4 (nI w_6) ∧ isP 4 (nI w_13)) ∧ ft_copy lane ml (nI w_6) i (nI w_13) j n = 0) (fun z => by rw [e0] at z; exact absurd z.2 (by decide)), e0]; exact hP) dX5_copy_48
    · refine lv_if_ne (tgt := 21) hx hb dX5_copy_16 (by decide) (fun c16 => ?_) (fun c16 => ?_)
      · exact absurd c16 (by decide)
      refine lv_iconst (v := (-1)) hx hb dX5_copy_19 (by decide) ?_
      exact zretMI (w1 := fun (uu : Unit) => wM g y ya yb yc yd ye yf yg yh yi yj yk yl (ft_copy lane ml (nI w_6) i o j n) tr lane ml (st_copy lane ml cel (nI w_6) i o j n) np sl kd hg ps rs rn rk rh lg fk gt tkn nr ru rl rm rd) () hx hb hr hlocks hS rfl (by rw [sp_copy, if_neg (fun z => hn_13 z.2)]) (by rw [ft_copy, if_neg (fun z => hn_13 z.2), st_copy, if_neg (fun z => (fun z => hn_13 z.2) z.1)]; exact hP) dX5_copy_20
  · refine lv_if_eq (tgt := 19) hx hb dX5_copy_9 (by decide) (fun c9 => ?_) (fun c9 => ?_)
    rotate_left
    · exact absurd (by decide) c9
    refine lv_iconst (v := (-1)) hx hb dX5_copy_19 (by decide) ?_
    exact zretMI (w1 := fun (uu : Unit) => wM g y ya yb yc yd ye yf yg yh yi yj yk yl (ft_copy lane ml k i o j n) tr lane ml (st_copy lane ml cel k i o j n) np sl kd hg ps rs rn rk rh lg fk gt tkn nr ru rl rm rd) () hx hb hr hlocks hS rfl (by rw [sp_copy, if_neg (fun z => hn_6 z.1)]) (by rw [ft_copy, if_neg (fun z => hn_6 z.1), st_copy, if_neg (fun z => (fun z => hn_6 z.1) z.1)]; exact hP) dX5_copy_20
