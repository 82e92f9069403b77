set_option maxHeartbeats 4000000 in
set_option maxRecDepth 100000 in
theorem c_X5_readCoast (l : Launch) (g : Gx) (y : Nat) (ya : Nat) (yb : Nat) (yc : Nat) (yd : Nat) (ye : Nat) (yf : Nat) (yg : Nat) (yh : Nat) (yi : Nat) (yj : Nat) (yk : Nat) (yl : Nat) (ft : Nat) (tr : Int32) (lane : Nat → Nat) (ml : Nat → Nat) (cel : Nat → Nat → Int32) (np : Nat) (sl : Nat) (kd : Nat → Nat) (hg : Nat → Nat) (ps : Nat) (rs : Int32) (rn : Nat) (rk : Nat → Int32) (rh : Nat → Int32) (lg : Int32) (fk : Int32) (gt : Int32) (tkn : Nat → Int32) (nr : Nat) (ru : Nat → Nat) (rl : Nat → Nat) (rm : Nat → Nat) (rd : Nat → Nat) (e : Nat) (he : e ≤ 240) (hpe : ps ≤ e) : Met l yX5_readCoast wsX5_readCoast ({ frames := 3, cells := 0, slots := 0, locals := 66 } : Room) (PcM g [.ref y, .int (nI e)] (wM g y ya yb yc yd ye yf yg yh yi yj yk yl ft tr lane ml cel np sl kd hg ps rs rn rk rh lg fk gt tkn nr ru rl rm rd)) (va_Qi (fun (r : Int32) (uu : Nat × Int32 × Nat × (Nat → Int32) × (Nat → Int32)) => (rcY cel ps e uu.2.1 uu.2.2.1 uu.2.2.2.1 uu.2.2.2.2 ∧ r = nI 1) ∨ (rcN cel ps e uu.1 ∧ r = nI 0)) (fun (uu : Nat × Int32 × Nat × (Nat → Int32) × (Nat → Int32)) t => PP g (wM g y ya yb yc yd ye yf yg yh yi yj yk yl ft tr lane ml cel np sl kd hg uu.1 uu.2.1 uu.2.2.1 uu.2.2.2.1 uu.2.2.2.2 lg fk gt tkn nr ru rl rm rd) t.heap) (inW (wM g y ya yb yc yd ye yf yg yh yi yj yk yl ft tr lane ml cel np sl kd hg ps rs rn rk rh lg fk gt tkn nr ru rl rm rd))) 0 0 (inW (wM g y ya yb yc yd ye yf yg yh yi yj yk yl ft tr lane ml cel np sl kd hg ps rs rn rk rh lg fk gt tkn nr ru rl rm rd)) := by
  refine zenterM (cc := cX5_readCoast) (maxL := 2) (ret := (some .boolean)) (by decide) rfl (Nat.le_of_ble_eq_true rfl) ?_
  intro P E s mt below meth cd ls hx hb hml hown hts hr hlocks hP hK hD hS hl
  skip
  have hl : lv_has ls 2 [(0, .ref y), (1, .int (nI e))] := hl
  have S0 : CallFix P mt cd cX5_readCoast 2 s [.ref y, .int (nI e)].toArray wsX5_readCoast RX5 := ⟨hx, hb, hml, hown, hts⟩
  refine lv_aload_n hx hb dX5_readCoast_0 rfl (lv_at hl 0 rfl) ?_
  refine lv_iconst (v := (nI 0)) hx hb dX5_readCoast_1 (by decide) ?_
  refine n_put (D := g.1) (ci := 5) (v := .int (nI 0)) (ty := .int) (C := RX5) (T := TX5) (N := 23) (ws1 := wM g y ya yb yc yd ye yf yg yh yi yj yk yl ft tr lane ml cel np sl kd hg ps rs 0 rk rh lg fk gt tkn nr ru rl rm rd) hx hb hts (fun _ h => (List.mem_cons_of_mem _ (List.mem_append_right _ h))) tyX5 tyX5_ok nmX5 hown hK.1 hP hD hS 0 rfl rfl 11 (by decide) (hts _ (List.mem_of_getElem? (i := 1) rfl)) (fun _ h9 => h9) rfl (by decide +kernel) rfl rfl (Nat.le_of_ble_eq_true rfl) rfl dX5_readCoast_2 (fun H locs hP hD hS => ?_)
  refine lv_aload_n hx hb dX5_readCoast_5 rfl (lv_at hl 0 rfl) ?_
  refine lv_iload_n hx hb dX5_readCoast_6 rfl (lv_at hl 1 rfl) ?_
  refine lv_bipush (v := (nI 101)) hx hb dX5_readCoast_7 (by decide) ?_
  have hPc : PP g (wM g y ya yb yc yd ye yf yg yh yi yj yk yl ft tr lane ml cel np sl kd hg ps rs 0 rk rh lg fk gt tkn nr ru rl rm rd) _ := P_sub hP [0, 1, 2, 3, 4, 5, 6, 7, 8, 9, 10, 11, 12] rfl
  refine zcallM (w := wM g y ya yb yc yd ye yf yg yh yi yj yk yl ft tr lane ml cel np sl kd hg ps rs 0 rk rh lg fk gt tkn nr ru rl rm rd) (va_runV (As := [.int (nI e), .int (nI 101)]) (rest := []) (b := y) S0 (c_X5_isSign l g y ya yb yc yd ye yf yg yh yi yj yk yl ft tr lane ml cel np sl kd hg ps rs 0 rk rh lg fk gt tkn nr ru rl rm rd e (nI 101) he hpe) (cwV 2 hts gX5_readCoast_X5_isSign rfl rfl rfl (by decide +kernel) ⟨by decide, by decide⟩) (zpreVM hK hP hD [0, 1, 2, 3, 4, 5, 6, 7, 8, 9, 10, 11, 12] rfl (by decide) (va_recv hK.1 hPc (ci := 5) (q0 := 0) rfl rfl)) rfl rfl hl.1 rfl (lv_room (Nat.le_of_ble_eq_true rfl)) dX5_readCoast_9 ⟨by decide, by decide⟩) hP hD hS [0, 1, 2, 3, 4, 5, 6, 7, 8, 9, 10, 11, 12] rfl (fun uu9 => wM g y ya yb yc yd ye yf yg yh yi yj yk yl ft tr lane ml cel np sl kd hg (sgP cel ps e (nI 101)) rs 0 rk rh lg fk gt tkn nr ru rl rm rd) (fun _ => lz_wM.trans lz_wM.symm) (fun _ => rfl) (fun _ => ad_wM.trans ad_wM.symm) (fun r9 uu9 H locs h9 hP hD hS => ?_)
  subst h9
  have f1 := b01_le (sgC cel ps e (nI 101))
  refine n_if_ne (a := (b01 (sgC cel ps e (nI 101)))) (tgt := 17) hx hb (by omega) dX5_readCoast_12 (by decide) (fun c12 => ?_) (fun c12 => ?_)
  · have h0 := b01_n0.mp c12
    rw [sgP_y h0] at hP hD
    refine lv_aload_n hx hb dX5_readCoast_17 rfl (lv_at hl 0 rfl) ?_
    refine lv_aload_n hx hb dX5_readCoast_18 rfl (lv_at hl 0 rfl) ?_
    refine lv_iload_n hx hb dX5_readCoast_19 rfl (lv_at hl 1 rfl) ?_
    have hPc : PP g (wM g y ya yb yc yd ye yf yg yh yi yj yk yl ft tr lane ml cel np sl kd hg (ps + 1) rs 0 rk rh lg fk gt tkn nr ru rl rm rd) _ := P_sub hP [0, 1, 2, 3, 4, 5, 6, 7, 8, 9, 10, 11, 12] rfl
    refine zcallM (w := wM g y ya yb yc yd ye yf yg yh yi yj yk yl ft tr lane ml cel np sl kd hg (ps + 1) rs 0 rk rh lg fk gt tkn nr ru rl rm rd) (va_runV (As := [.int (nI e)]) (rest := [.ref y]) (b := y) S0 (c_X5_digit l g y ya yb yc yd ye yf yg yh yi yj yk yl ft tr lane ml cel np sl kd hg (ps + 1) rs 0 rk rh lg fk gt tkn nr ru rl rm rd e he h0.1) (cwV 1 hts gX5_readCoast_X5_digit rfl rfl rfl (by decide +kernel) ⟨by decide, by decide⟩) (zpreVM hK hP hD [0, 1, 2, 3, 4, 5, 6, 7, 8, 9, 10, 11, 12] rfl (by decide) (va_recv hK.1 hPc (ci := 5) (q0 := 0) rfl rfl)) rfl rfl hl.1 rfl (lv_room (Nat.le_of_ble_eq_true rfl)) dX5_readCoast_20 ⟨by decide, by decide⟩) hP hD hS [0, 1, 2, 3, 4, 5, 6, 7, 8, 9, 10, 11, 12] rfl (fun uu20 => wM g y ya yb yc yd ye yf yg yh yi yj yk yl ft tr lane ml cel np sl kd hg (dgP cel (ps + 1) e) rs 0 rk rh lg fk gt tkn nr ru rl rm rd) (fun _ => lz_wM.trans lz_wM.symm) (fun _ => rfl) (fun _ => ad_wM.trans ad_wM.symm) (fun r20 uu20 H locs h20 hP hD hS => ?_)
    subst h20
    refine n_put (D := g.1) (ci := 5) (v := .int (dgR cel (ps + 1) e)) (ty := .int) (C := RX5) (T := TX5) (N := 23) (ws1 := wM g y ya yb yc yd ye yf yg yh yi yj yk yl ft tr lane ml cel np sl kd hg (dgP cel (ps + 1) e) (dgR cel (ps + 1) e) 0 rk rh lg fk gt tkn nr ru rl rm rd) hx hb hts (fun _ h => (List.mem_cons_of_mem _ (List.mem_append_right _ h))) tyX5 tyX5_ok nmX5 hown hK.1 hP hD hS 0 rfl rfl 10 (by decide) (hts _ (List.mem_of_getElem? (i := 2) rfl)) (fun _ h9 => h9) rfl (by decide +kernel) rfl rfl (Nat.le_of_ble_eq_true rfl) rfl dX5_readCoast_23 (fun H locs hP hD hS => ?_)
    refine lv_aload_n hx hb dX5_readCoast_26 rfl (lv_at hl 0 rfl) ?_
    refine va_get (D := g.1) (ci := 5) (v := .int (dgR cel (ps + 1) e)) (C := RX5) (T := TX5) (N := 23) hx hb hts (fun _ h => (List.mem_cons_of_mem _ (List.mem_append_right _ h))) hown hK.1 hP 0 rfl rfl 10 (by decide) (hts _ (List.mem_of_getElem? (i := 2) rfl)) (fun _ h9 => h9) rfl dX5_readCoast_27 ?_
    refine lv_bipush (v := (-9)) hx hb dX5_readCoast_30 (by decide) ?_
    refine lv_icmp_ne (tgt := 37) hx hb dX5_readCoast_32 (by decide) (fun c32 => ?_) (fun c32 => ?_)
    · have hd : dgC cel (ps + 1) e := dgR_n9 c32
      rw [dgP_y hd] at hP hD
      rw [show ps + 1 + 1 = ps + 2 + 5 * 0 from rfl] at hP hD
      have hd1 := hd.1
      have lp37 : ∀ (nn : Nat) (v : Nat) (rq : Nat → Int32) (rz : Nat → Int32) (H : Heap) (locs : List Loc) (ls : Array Slot), (6 - v) < nn → (v ≤ 6) → (ps + 2 + 5 * v ≤ e) → (∀ j, j < 2 + 5 * v → gob j (rc cel ps j) ≠ 0) → (∀ j, j < v → rq j = nI (tk (rc cel ps) j)) → (∀ j, j < 3 * v → rz j = nI (th (rc cel ps) j)) → PP g (wM g y ya yb yc yd ye yf yg yh yi yj yk yl ft tr lane ml cel np sl kd hg (ps + 2 + 5 * v) (dgR cel (ps + 1) e) v rq rz lg fk gt tkn nr ru rl rm rd) H → va_D (inW (wM g y ya yb yc yd ye yf yg yh yi yj yk yl ft tr lane ml cel np sl kd hg ps rs rn rk rh lg fk gt tkn nr ru rl rm rd)) (wM g y ya yb yc yd ye yf yg yh yi yj yk yl ft tr lane ml cel np sl kd hg (ps + 2 + 5 * v) (dgR cel (ps + 1) e) v rq rz lg fk gt tkn nr ru rl rm rd) → va_S (inW (wM g y ya yb yc yd ye yf yg yh yi yj yk yl ft tr lane ml cel np sl kd hg ps rs rn rk rh lg fk gt tkn nr ru rl rm rd)) s.heap H locs → lv_has ls 2 [(0, .ref y), (1, .int (nI e))] → W P l E ({ frames := 3, cells := 0, slots := 0, locals := 66 } : Room) s mt [.ref y, .int (nI e)].toArray below meth cd H locs 0 0 (MQ below (va_Qi (fun (r : Int32) (uu : Nat × Int32 × Nat × (Nat → Int32) × (Nat → Int32)) => (rcY cel ps e uu.2.1 uu.2.2.1 uu.2.2.2.1 uu.2.2.2.2 ∧ r = nI 1) ∨ (rcN cel ps e uu.1 ∧ r = nI 0)) (fun (uu : Nat × Int32 × Nat × (Nat → Int32) × (Nat → Int32)) t => PP g (wM g y ya yb yc yd ye yf yg yh yi yj yk yl ft tr lane ml cel np sl kd hg uu.1 uu.2.1 uu.2.2.1 uu.2.2.2.1 uu.2.2.2.2 lg fk gt tkn nr ru rl rm rd) t.heap) (inW (wM g y ya yb yc yd ye yf yg yh yi yj yk yl ft tr lane ml cel np sl kd hg ps rs rn rk rh lg fk gt tkn nr ru rl rm rd))) [.ref y, .int (nI e)].toArray s 0 0 (inW (wM g y ya yb yc yd ye yf yg yh yi yj yk yl ft tr lane ml cel np sl kd hg ps rs rn rk rh lg fk gt tkn nr ru rl rm rd))) (F0 mt 37 ls []) := by
        intro nn
        induction nn with
        | zero => intro v rq rz H locs ls hmu; exact absurd hmu (Nat.not_lt_zero _)
        | succ nn ih37 =>
          intro v rq rz H locs ls hmu hv6 hpv hgo hrk hrh hP hD hS hl
          refine lv_aload_n hx hb dX5_readCoast_37 rfl (lv_at hl 0 rfl) ?_
          refine va_get (D := g.1) (ci := 5) (v := .int (nI v)) (C := RX5) (T := TX5) (N := 23) hx hb hts (fun _ h => (List.mem_cons_of_mem _ (List.mem_append_right _ h))) hown hK.1 hP 0 rfl rfl 11 (by decide) (hts _ (List.mem_of_getElem? (i := 1) rfl)) (fun _ h9 => h9) rfl dX5_readCoast_38 ?_
          refine lv_iconst (v := (nI 2)) hx hb dX5_readCoast_41 (by decide) ?_
          refine n_icmp_lt (a := v) (b := 2) (tgt := 62) hx hb (by omega) (by omega) dX5_readCoast_42 (by decide) (fun c42 => ?_) (fun c42 => ?_)
          · refine lv_aload_n hx hb dX5_readCoast_62 rfl (lv_at hl 0 rfl) ?_
            refine lv_iload_n hx hb dX5_readCoast_63 rfl (lv_at hl 1 rfl) ?_
            refine lv_bipush (v := (nI 59)) hx hb dX5_readCoast_64 (by decide) ?_
            have hPc : PP g (wM g y ya yb yc yd ye yf yg yh yi yj yk yl ft tr lane ml cel np sl kd hg (ps + 2 + 5 * v) (dgR cel (ps + 1) e) v rq rz lg fk gt tkn nr ru rl rm rd) _ := P_sub hP [0, 1, 2, 3, 4, 5, 6, 7, 8, 9, 10, 11, 12] rfl
            refine zcallM (w := wM g y ya yb yc yd ye yf yg yh yi yj yk yl ft tr lane ml cel np sl kd hg (ps + 2 + 5 * v) (dgR cel (ps + 1) e) v rq rz lg fk gt tkn nr ru rl rm rd) (va_runV (As := [.int (nI e), .int (nI 59)]) (rest := []) (b := y) S0 (c_X5_isSign l g y ya yb yc yd ye yf yg yh yi yj yk yl ft tr lane ml cel np sl kd hg (ps + 2 + 5 * v) (dgR cel (ps + 1) e) v rq rz lg fk gt tkn nr ru rl rm rd e (nI 59) he hpv) (cwV 2 hts gX5_readCoast_X5_isSign rfl rfl rfl (by decide +kernel) ⟨by decide, by decide⟩) (zpreVM hK hP hD [0, 1, 2, 3, 4, 5, 6, 7, 8, 9, 10, 11, 12] rfl (by decide) (va_recv hK.1 hPc (ci := 5) (q0 := 0) rfl rfl)) rfl rfl hl.1 rfl (lv_room (Nat.le_of_ble_eq_true rfl)) dX5_readCoast_66 ⟨by decide, by decide⟩) hP hD hS [0, 1, 2, 3, 4, 5, 6, 7, 8, 9, 10, 11, 12] rfl (fun uu66 => wM g y ya yb yc yd ye yf yg yh yi yj yk yl ft tr lane ml cel np sl kd hg (sgP cel (ps + 2 + 5 * v) e (nI 59)) (dgR cel (ps + 1) e) v rq rz lg fk gt tkn nr ru rl rm rd) (fun _ => lz_wM.trans lz_wM.symm) (fun _ => rfl) (fun _ => ad_wM.trans ad_wM.symm) (fun r66 uu66 H locs h66 hP hD hS => ?_)
            subst h66
            have f2 := b01_le (sgC cel (ps + 2 + 5 * v) e (nI 59))
            refine n_if_eq (a := (b01 (sgC cel (ps + 2 + 5 * v) e (nI 59)))) (tgt := 80) hx hb (by omega) dX5_readCoast_69 (by decide) (fun c69 => ?_) (fun c69 => ?_)
            · have h59 := b01_0.mp c69
              have hv7 : v < 6 := by omega
              rw [sgP_n h59] at hP hD
              refine lv_iconst (v := (nI 0)) hx hb dX5_readCoast_80 (by decide) ?_
              exact zretMI (w1 := fun (uu : Nat × Int32 × Nat × (Nat → Int32) × (Nat → Int32)) => wM g y ya yb yc yd ye yf yg yh yi yj yk yl ft tr lane ml cel np sl kd hg uu.1 uu.2.1 uu.2.2.1 uu.2.2.2.1 uu.2.2.2.2 lg fk gt tkn nr ru rl rm rd) (ps + 2 + 5 * v, dgR cel (ps + 1) e, v, rq, rz) hx hb hr hlocks hS rfl (Or.inr ⟨rc_2 hv7 hgo hpv (by omega) h59, rfl⟩) hP dX5_readCoast_81
            · have h59 := b01_n0.mp c69
              have hv7 : v < 6 := by omega
              have hg3 := go3 hv7 hgo h59
              rw [sgP_y h59] at hP hD
              rw [show ps + 2 + 5 * v + 1 = ps + 3 + 5 * v by omega] at hP hD
              have hp3 : ps + 3 + 5 * v ≤ e := by have := h59.1; omega
              refine lv_aload_n hx hb dX5_readCoast_72 rfl (lv_at hl 0 rfl) ?_
              refine lv_iload_n hx hb dX5_readCoast_73 rfl (lv_at hl 1 rfl) ?_
              have hPc : PP g (wM g y ya yb yc yd ye yf yg yh yi yj yk yl ft tr lane ml cel np sl kd hg (ps + 3 + 5 * v) (dgR cel (ps + 1) e) v rq rz lg fk gt tkn nr ru rl rm rd) _ := P_sub hP [0, 1, 2, 3, 4, 5, 6, 7, 8, 9, 10, 11, 12] rfl
              refine zcallM (w := wM g y ya yb yc yd ye yf yg yh yi yj yk yl ft tr lane ml cel np sl kd hg (ps + 3 + 5 * v) (dgR cel (ps + 1) e) v rq rz lg fk gt tkn nr ru rl rm rd) (va_runV (As := [.int (nI e)]) (rest := []) (b := y) S0 (c_X5_readPass l g y ya yb yc yd ye yf yg yh yi yj yk yl ft tr lane ml cel np sl kd hg (ps + 3 + 5 * v) (dgR cel (ps + 1) e) v rq rz lg fk gt tkn nr ru rl rm rd e he hp3 hv7) (cwV 1 hts gX5_readCoast_X5_readPass rfl rfl rfl (by decide +kernel) ⟨by decide, by decide⟩) (zpreVM hK hP hD [0, 1, 2, 3, 4, 5, 6, 7, 8, 9, 10, 11, 12] rfl (by decide) (va_recv hK.1 hPc (ci := 5) (q0 := 0) rfl rfl)) rfl rfl hl.1 rfl (lv_room (Nat.le_of_ble_eq_true rfl)) dX5_readCoast_74 ⟨by decide, by decide⟩) hP hD hS [0, 1, 2, 3, 4, 5, 6, 7, 8, 9, 10, 11, 12] rfl (fun uu74 => wM g y ya yb yc yd ye yf yg yh yi yj yk yl ft tr lane ml cel np sl kd hg ((ps + 3 + 5 * v) + uu74.1) (dgR cel (ps + 1) e) (v + uu74.1 / 4) uu74.2.1 uu74.2.2 lg fk gt tkn nr ru rl rm rd) (fun _ => lz_wM.trans lz_wM.symm) (fun _ => rfl) (fun _ => ad_wM.trans ad_wM.symm) (fun r74 uu74 H locs h74 hP hD hS => ?_)
              rcases h74 with ⟨ha_74, hr_74, rfl⟩ | ⟨ha_74, hr_74, rfl⟩
              · have hg4 := go4 hv7 (by omega) hg3 hr_74.1
                have he4 := gp_e hp3 hr_74.1
                rw [ha_74] at hg4 he4
                rw [ha_74, show ps + 3 + 5 * v + 4 = ps + 2 + 5 * (v + 1) by omega, show v + 4 / 4 = v + 1 from rfl] at hP hD
                refine lv_if_ne (tgt := 37) hx hb dX5_readCoast_77 (by decide) (fun c77 => ?_) (fun c77 => ?_)
                rotate_left
                · exact absurd c77 (by decide)
                exact ih37 (v + 1) uu74.2.1 uu74.2.2 _ _ ls (by omega) (by omega) (by omega) (fun j hj => hg4 j (by omega)) (rk_st ha_74 hr_74 hrk) (rh_st ha_74 hr_74 hrh) hP hD hS (lv_sub hl [0, 1] rfl)
              · refine lv_if_ne (tgt := 37) hx hb dX5_readCoast_77 (by decide) (fun c77 => ?_) (fun c77 => ?_)
                · exact absurd c77 (by decide)
                refine lv_iconst (v := (nI 0)) hx hb dX5_readCoast_80 (by decide) ?_
                exact zretMI (w1 := fun (uu : Nat × Int32 × Nat × (Nat → Int32) × (Nat → Int32)) => wM g y ya yb yc yd ye yf yg yh yi yj yk yl ft tr lane ml cel np sl kd hg uu.1 uu.2.1 uu.2.2.1 uu.2.2.2.1 uu.2.2.2.2 lg fk gt tkn nr ru rl rm rd) ((ps + 3 + 5 * v) + uu74.1, dgR cel (ps + 1) e, v + uu74.1 / 4, uu74.2.1, uu74.2.2) hx hb hr hlocks hS rfl (Or.inr ⟨rc_3 hv7 ha_74 hg3 hp3 hr_74.1 rfl, rfl⟩) hP dX5_readCoast_81
          · refine lv_aload_n hx hb dX5_readCoast_45 rfl (lv_at hl 0 rfl) ?_
            refine va_get (D := g.1) (ci := 5) (v := .int (nI v)) (C := RX5) (T := TX5) (N := 23) hx hb hts (fun _ h => (List.mem_cons_of_mem _ (List.mem_append_right _ h))) hown hK.1 hP 0 rfl rfl 11 (by decide) (hts _ (List.mem_of_getElem? (i := 1) rfl)) (fun _ h9 => h9) rfl dX5_readCoast_46 ?_
            refine lv_bipush (v := (nI 6)) hx hb dX5_readCoast_49 (by decide) ?_
            refine n_icmp_ge (a := v) (b := 6) (tgt := 82) hx hb (by omega) (by omega) dX5_readCoast_51 (by decide) (fun c51 => ?_) (fun c51 => ?_)
            · refine lv_aload_n hx hb dX5_readCoast_82 rfl (lv_at hl 0 rfl) ?_
              refine va_get (D := g.1) (ci := 5) (v := .int (nI (ps + 2 + 5 * v))) (C := RX5) (T := TX5) (N := 23) hx hb hts (fun _ h => (List.mem_cons_of_mem _ (List.mem_append_right _ h))) hown hK.1 hP 0 rfl rfl 9 (by decide) (hts _ (List.mem_of_getElem? (i := 3) rfl)) (fun _ h9 => h9) rfl dX5_readCoast_83 ?_
              refine lv_iload_n hx hb dX5_readCoast_86 rfl (lv_at hl 1 rfl) ?_
              refine n_icmp_ne (a := (ps + 2 + 5 * v)) (b := e) (tgt := 94) hx hb (by omega) (by omega) dX5_readCoast_87 (by decide) (fun c87 => ?_) (fun c87 => ?_)
              · refine lv_iconst (v := (nI 0)) hx hb dX5_readCoast_94 (by decide) ?_
                exact zretMI (w1 := fun (uu : Nat × Int32 × Nat × (Nat → Int32) × (Nat → Int32)) => wM g y ya yb yc yd ye yf yg yh yi yj yk yl ft tr lane ml cel np sl kd hg uu.1 uu.2.1 uu.2.2.1 uu.2.2.2.1 uu.2.2.2.2 lg fk gt tkn nr ru rl rm rd) (ps + 2 + 5 * v, dgR cel (ps + 1) e, v, rq, rz) hx hb hr hlocks hS rfl (Or.inr ⟨rc_6 (by omega) hgo hpv c87, rfl⟩) hP dX5_readCoast_95
              · refine lv_iconst (v := (nI 1)) hx hb dX5_readCoast_90 (by decide) ?_
                refine lv_goto (tgt := 95) hx hb dX5_readCoast_91 (by decide) ?_
                exact zretMI (w1 := fun (uu : Nat × Int32 × Nat × (Nat → Int32) × (Nat → Int32)) => wM g y ya yb yc yd ye yf yg yh yi yj yk yl ft tr lane ml cel np sl kd hg uu.1 uu.2.1 uu.2.2.1 uu.2.2.2.1 uu.2.2.2.2 lg fk gt tkn nr ru rl rm rd) (ps + 2 + 5 * v, dgR cel (ps + 1) e, v, rq, rz) hx hb hr hlocks hS rfl (Or.inl ⟨rc_y (by omega) hv6 hgo c87 hd hrk hrh, rfl⟩) hP dX5_readCoast_95
            · refine lv_aload_n hx hb dX5_readCoast_54 rfl (lv_at hl 0 rfl) ?_
              refine va_get (D := g.1) (ci := 5) (v := .int (nI (ps + 2 + 5 * v))) (C := RX5) (T := TX5) (N := 23) hx hb hts (fun _ h => (List.mem_cons_of_mem _ (List.mem_append_right _ h))) hown hK.1 hP 0 rfl rfl 9 (by decide) (hts _ (List.mem_of_getElem? (i := 3) rfl)) (fun _ h9 => h9) rfl dX5_readCoast_55 ?_
              refine lv_iload_n hx hb dX5_readCoast_58 rfl (lv_at hl 1 rfl) ?_
              refine n_icmp_ge (a := (ps + 2 + 5 * v)) (b := e) (tgt := 82) hx hb (by omega) (by omega) dX5_readCoast_59 (by decide) (fun c59 => ?_) (fun c59 => ?_)
              · refine lv_aload_n hx hb dX5_readCoast_82 rfl (lv_at hl 0 rfl) ?_
                refine va_get (D := g.1) (ci := 5) (v := .int (nI (ps + 2 + 5 * v))) (C := RX5) (T := TX5) (N := 23) hx hb hts (fun _ h => (List.mem_cons_of_mem _ (List.mem_append_right _ h))) hown hK.1 hP 0 rfl rfl 9 (by decide) (hts _ (List.mem_of_getElem? (i := 3) rfl)) (fun _ h9 => h9) rfl dX5_readCoast_83 ?_
                refine lv_iload_n hx hb dX5_readCoast_86 rfl (lv_at hl 1 rfl) ?_
                refine n_icmp_ne (a := (ps + 2 + 5 * v)) (b := e) (tgt := 94) hx hb (by omega) (by omega) dX5_readCoast_87 (by decide) (fun c87 => ?_) (fun c87 => ?_)
                · refine lv_iconst (v := (nI 0)) hx hb dX5_readCoast_94 (by decide) ?_
                  exact zretMI (w1 := fun (uu : Nat × Int32 × Nat × (Nat → Int32) × (Nat → Int32)) => wM g y ya yb yc yd ye yf yg yh yi yj yk yl ft tr lane ml cel np sl kd hg uu.1 uu.2.1 uu.2.2.1 uu.2.2.2.1 uu.2.2.2.2 lg fk gt tkn nr ru rl rm rd) (ps + 2 + 5 * v, dgR cel (ps + 1) e, v, rq, rz) hx hb hr hlocks hS rfl (Or.inr ⟨rc_6 (by omega) hgo hpv c87, rfl⟩) hP dX5_readCoast_95
                · refine lv_iconst (v := (nI 1)) hx hb dX5_readCoast_90 (by decide) ?_
                  refine lv_goto (tgt := 95) hx hb dX5_readCoast_91 (by decide) ?_
                  exact zretMI (w1 := fun (uu : Nat × Int32 × Nat × (Nat → Int32) × (Nat → Int32)) => wM g y ya yb yc yd ye yf yg yh yi yj yk yl ft tr lane ml cel np sl kd hg uu.1 uu.2.1 uu.2.2.1 uu.2.2.2.1 uu.2.2.2.2 lg fk gt tkn nr ru rl rm rd) (ps + 2 + 5 * v, dgR cel (ps + 1) e, v, rq, rz) hx hb hr hlocks hS rfl (Or.inl ⟨rc_y (by omega) hv6 hgo c87 hd hrk hrh, rfl⟩) hP dX5_readCoast_95
              · refine lv_aload_n hx hb dX5_readCoast_62 rfl (lv_at hl 0 rfl) ?_
                refine lv_iload_n hx hb dX5_readCoast_63 rfl (lv_at hl 1 rfl) ?_
                refine lv_bipush (v := (nI 59)) hx hb dX5_readCoast_64 (by decide) ?_
                have hPc : PP g (wM g y ya yb yc yd ye yf yg yh yi yj yk yl ft tr lane ml cel np sl kd hg (ps + 2 + 5 * v) (dgR cel (ps + 1) e) v rq rz lg fk gt tkn nr ru rl rm rd) _ := P_sub hP [0, 1, 2, 3, 4, 5, 6, 7, 8, 9, 10, 11, 12] rfl
                refine zcallM (w := wM g y ya yb yc yd ye yf yg yh yi yj yk yl ft tr lane ml cel np sl kd hg (ps + 2 + 5 * v) (dgR cel (ps + 1) e) v rq rz lg fk gt tkn nr ru rl rm rd) (va_runV (As := [.int (nI e), .int (nI 59)]) (rest := []) (b := y) S0 (c_X5_isSign l g y ya yb yc yd ye yf yg yh yi yj yk yl ft tr lane ml cel np sl kd hg (ps + 2 + 5 * v) (dgR cel (ps + 1) e) v rq rz lg fk gt tkn nr ru rl rm rd e (nI 59) he hpv) (cwV 2 hts gX5_readCoast_X5_isSign rfl rfl rfl (by decide +kernel) ⟨by decide, by decide⟩) (zpreVM hK hP hD [0, 1, 2, 3, 4, 5, 6, 7, 8, 9, 10, 11, 12] rfl (by decide) (va_recv hK.1 hPc (ci := 5) (q0 := 0) rfl rfl)) rfl rfl hl.1 rfl (lv_room (Nat.le_of_ble_eq_true rfl)) dX5_readCoast_66 ⟨by decide, by decide⟩) hP hD hS [0, 1, 2, 3, 4, 5, 6, 7, 8, 9, 10, 11, 12] rfl (fun uu66 => wM g y ya yb yc yd ye yf yg yh yi yj yk yl ft tr lane ml cel np sl kd hg (sgP cel (ps + 2 + 5 * v) e (nI 59)) (dgR cel (ps + 1) e) v rq rz lg fk gt tkn nr ru rl rm rd) (fun _ => lz_wM.trans lz_wM.symm) (fun _ => rfl) (fun _ => ad_wM.trans ad_wM.symm) (fun r66 uu66 H locs h66 hP hD hS => ?_)
                subst h66
                have f3 := b01_le (sgC cel (ps + 2 + 5 * v) e (nI 59))
                refine n_if_eq (a := (b01 (sgC cel (ps + 2 + 5 * v) e (nI 59)))) (tgt := 80) hx hb (by omega) dX5_readCoast_69 (by decide) (fun c69 => ?_) (fun c69 => ?_)
                · have h59 := b01_0.mp c69
                  have hv7 : v < 6 := by omega
                  rw [sgP_n h59] at hP hD
                  refine lv_iconst (v := (nI 0)) hx hb dX5_readCoast_80 (by decide) ?_
                  exact zretMI (w1 := fun (uu : Nat × Int32 × Nat × (Nat → Int32) × (Nat → Int32)) => wM g y ya yb yc yd ye yf yg yh yi yj yk yl ft tr lane ml cel np sl kd hg uu.1 uu.2.1 uu.2.2.1 uu.2.2.2.1 uu.2.2.2.2 lg fk gt tkn nr ru rl rm rd) (ps + 2 + 5 * v, dgR cel (ps + 1) e, v, rq, rz) hx hb hr hlocks hS rfl (Or.inr ⟨rc_2 hv7 hgo hpv (by omega) h59, rfl⟩) hP dX5_readCoast_81
                · have h59 := b01_n0.mp c69
                  have hv7 : v < 6 := by omega
                  have hg3 := go3 hv7 hgo h59
                  rw [sgP_y h59] at hP hD
                  rw [show ps + 2 + 5 * v + 1 = ps + 3 + 5 * v by omega] at hP hD
                  have hp3 : ps + 3 + 5 * v ≤ e := by have := h59.1; omega
                  refine lv_aload_n hx hb dX5_readCoast_72 rfl (lv_at hl 0 rfl) ?_
                  refine lv_iload_n hx hb dX5_readCoast_73 rfl (lv_at hl 1 rfl) ?_
                  have hPc : PP g (wM g y ya yb yc yd ye yf yg yh yi yj yk yl ft tr lane ml cel np sl kd hg (ps + 3 + 5 * v) (dgR cel (ps + 1) e) v rq rz lg fk gt tkn nr ru rl rm rd) _ := P_sub hP [0, 1, 2, 3, 4, 5, 6, 7, 8, 9, 10, 11, 12] rfl
                  refine zcallM (w := wM g y ya yb yc yd ye yf yg yh yi yj yk yl ft tr lane ml cel np sl kd hg (ps + 3 + 5 * v) (dgR cel (ps + 1) e) v rq rz lg fk gt tkn nr ru rl rm rd) (va_runV (As := [.int (nI e)]) (rest := []) (b := y) S0 (c_X5_readPass l g y ya yb yc yd ye yf yg yh yi yj yk yl ft tr lane ml cel np sl kd hg (ps + 3 + 5 * v) (dgR cel (ps + 1) e) v rq rz lg fk gt tkn nr ru rl rm rd e he hp3 hv7) (cwV 1 hts gX5_readCoast_X5_readPass rfl rfl rfl (by decide +kernel) ⟨by decide, by decide⟩) (zpreVM hK hP hD [0, 1, 2, 3, 4, 5, 6, 7, 8, 9, 10, 11, 12] rfl (by decide) (va_recv hK.1 hPc (ci := 5) (q0 := 0) rfl rfl)) rfl rfl hl.1 rfl (lv_room (Nat.le_of_ble_eq_true rfl)) dX5_readCoast_74 ⟨by decide, by decide⟩) hP hD hS [0, 1, 2, 3, 4, 5, 6, 7, 8, 9, 10, 11, 12] rfl (fun uu74 => wM g y ya yb yc yd ye yf yg yh yi yj yk yl ft tr lane ml cel np sl kd hg ((ps + 3 + 5 * v) + uu74.1) (dgR cel (ps + 1) e) (v + uu74.1 / 4) uu74.2.1 uu74.2.2 lg fk gt tkn nr ru rl rm rd) (fun _ => lz_wM.trans lz_wM.symm) (fun _ => rfl) (fun _ => ad_wM.trans ad_wM.symm) (fun r74 uu74 H locs h74 hP hD hS => ?_)
                  rcases h74 with ⟨ha_74, hr_74, rfl⟩ | ⟨ha_74, hr_74, rfl⟩
                  · have hg4 := go4 hv7 (by omega) hg3 hr_74.1
                    have he4 := gp_e hp3 hr_74.1
                    rw [ha_74] at hg4 he4
                    rw [ha_74, show ps + 3 + 5 * v + 4 = ps + 2 + 5 * (v + 1) by omega, show v + 4 / 4 = v + 1 from rfl] at hP hD
                    refine lv_if_ne (tgt := 37) hx hb dX5_readCoast_77 (by decide) (fun c77 => ?_) (fun c77 => ?_)
                    rotate_left
                    · exact absurd c77 (by decide)
                    exact ih37 (v + 1) uu74.2.1 uu74.2.2 _ _ ls (by omega) (by omega) (by omega) (fun j hj => hg4 j (by omega)) (rk_st ha_74 hr_74 hrk) (rh_st ha_74 hr_74 hrh) hP hD hS (lv_sub hl [0, 1] rfl)
                  · refine lv_if_ne (tgt := 37) hx hb dX5_readCoast_77 (by decide) (fun c77 => ?_) (fun c77 => ?_)
                    · exact absurd c77 (by decide)
                    refine lv_iconst (v := (nI 0)) hx hb dX5_readCoast_80 (by decide) ?_
                    exact zretMI (w1 := fun (uu : Nat × Int32 × Nat × (Nat → Int32) × (Nat → Int32)) => wM g y ya yb yc yd ye yf yg yh yi yj yk yl ft tr lane ml cel np sl kd hg uu.1 uu.2.1 uu.2.2.1 uu.2.2.2.1 uu.2.2.2.2 lg fk gt tkn nr ru rl rm rd) ((ps + 3 + 5 * v) + uu74.1, dgR cel (ps + 1) e, v + uu74.1 / 4, uu74.2.1, uu74.2.2) hx hb hr hlocks hS rfl (Or.inr ⟨rc_3 hv7 ha_74 hg3 hp3 hr_74.1 rfl, rfl⟩) hP dX5_readCoast_81
      exact lp37 (6 - 0 + 1) 0 rk rh _ _ ls (Nat.lt_succ_self _) (by omega) (by omega) (go2 h0 hd) (fun _ z => absurd z (Nat.not_lt_zero _)) (fun _ z => absurd z (Nat.not_lt_zero _)) hP hD hS (lv_sub hl [0, 1] rfl)
    · have hd : ¬ dgC cel (ps + 1) e := dgR_9 c32
      rw [dgP_n hd] at hP hD
      refine lv_iconst (v := (nI 0)) hx hb dX5_readCoast_35 (by decide) ?_
      exact zretMI (w1 := fun (uu : Nat × Int32 × Nat × (Nat → Int32) × (Nat → Int32)) => wM g y ya yb yc yd ye yf yg yh yi yj yk yl ft tr lane ml cel np sl kd hg uu.1 uu.2.1 uu.2.2.1 uu.2.2.2.1 uu.2.2.2.2 lg fk gt tkn nr ru rl rm rd) (ps + 1, (dgR cel (ps + 1) e), 0, rk, rh) hx hb hr hlocks hS rfl (Or.inr ⟨rc_1 h0 hd, rfl⟩) hP dX5_readCoast_36
  · have h0 := b01_0.mp c12
    rw [sgP_n h0] at hP hD
    refine lv_iconst (v := (nI 0)) hx hb dX5_readCoast_15 (by decide) ?_
    exact zretMI (w1 := fun (uu : Nat × Int32 × Nat × (Nat → Int32) × (Nat → Int32)) => wM g y ya yb yc yd ye yf yg yh yi yj yk yl ft tr lane ml cel np sl kd hg uu.1 uu.2.1 uu.2.2.1 uu.2.2.2.1 uu.2.2.2.2 lg fk gt tkn nr ru rl rm rd) (ps, rs, 0, rk, rh) hx hb hr hlocks hS rfl (Or.inr ⟨rc_0 hpe h0, rfl⟩) hP dX5_readCoast_16
