set_option maxHeartbeats 4000000 in
set_option maxRecDepth 100000 in
theorem lawc_12 {P : Program} {l : Launch} {E : Env} {s : State} {mt : MethodId} {below : List Frame} {meth : Method} {cd : Code} {b L : Nat} {xs : Nat → Int32} {g : Gx} {x y : Nat} {Q : State → Prop} (hC : LawC P s mt cd b L xs g) {i : Nat} (hi : i + 7 ≤ L) {H : Heap} {locs : List Loc} {ls : Array Slot} (hI : LawI g s x y H locs) (hl : lv_has ls 4 [(0, .ref b), (1, .ref x), (2, .ref y), (3, .int (nI i))]) (next : ∀ (H : Heap) (locs : List Loc) (ls : Array Slot), LawI g s x y H locs → lv_has ls 4 [(0, .ref b), (1, .ref x), (2, .ref y), (3, .int (nI i))] → W P l E room_1 s mt [Value.ref b].toArray below meth cd H locs 35 734 Q (F0 mt 1215 ls [])) : W P l E room_1 s mt [Value.ref b].toArray below meth cd H locs 35 734 Q (F0 mt 568 ls []) := by
  obtain ⟨hx, hb, S0, hX, hbl, hK, hL⟩ := hC
  have hts := S0.2.2.2.2
  obtain ⟨sh, co, ck, ch, cl, vo, vpa, vma, re, rua, rla, rma, rda, sad, cad, ya, yb, yc, yd, ye, yf, yg, yh, yi, yj, yk, yl, tr, ft, np, sl, kd, hg, nr, ru, rl, rm, rd, lane, ml, cel, lk, vn, vp, vm, ps, rs, rn, rk, rh, lg, fk, gt, tkn, hG, hP, hD, hS⟩ := hI
  have hbA : ¬ (fun q : Nat => s.heap.size ≤ q) b := Nat.not_le.mpr hbl
  have hL2 : L < 2 ^ 31 := by omega
  refine lv_aload_n hx hb dL_law_568 rfl (lv_at hl 1 rfl) ?_
  refine lv_aload_n hx hb dL_law_569 rfl (lv_at hl 0 rfl) ?_
  refine lv_iload_n hx hb dL_law_570 rfl (lv_at hl 3 rfl) ?_
  refine lv_iconst (v := nI 1) hx hb dL_law_571 (by decide) ?_
  refine n_iadd (a := i) (b := 1) hx hb dL_law_572 ?_
  refine n_sld (k := (i + 1)) hx hb hX hbl hbA hS (by omega) hL2 dL_law_573 ?_
  have hPc : PP g (wX g x sh co ck ch cl vo vpa vma re rua rla rma rda sad cad tr ft np sl kd hg lk vn vp vm nr ru rl rm rd lane ml cel) _ := (P_l hP lz_wX)
  refine zcallM (w := wX g x sh co ck ch cl vo vpa vma re rua rla rma rda sad cad tr ft np sl kd hg lk vn vp vm nr ru rl rm rd lane ml cel) (va_runV (As := [.int (xs (i + 1))]) (rest := []) (b := x) S0 (c_X4_fewest l g x sh co ck ch cl vo vpa vma re rua rla rma rda sad cad tr ft np sl kd hg lk vn vp vm nr ru rl rm rd lane ml cel (xs (i + 1)) hG) (cwV 1 hts gL_law_X4_fewest rfl rfl rfl (by decide +kernel) ⟨by decide, by decide⟩) (zpreVM hK hP hD isX (cW_l lz_wX) ndX (va_recv hK.1 hPc (ci := 4) (q0 := 0) rfl rfl)) rfl rfl hl.1 rfl (lv_room (Nat.le_of_ble_eq_true rfl)) dL_law_574 ⟨Nat.le_of_ble_eq_true rfl, Nat.le_of_ble_eq_true rfl⟩) hP hD hS isX (cW_l lz_wX) (fun (u574 : Nat → Nat) => wX g x sh co ck ch cl vo vpa vma re rua rla rma rda sad cad tr ft np sl kd hg u574 vn vp vm nr ru rl rm rd lane ml cel ++ wM g y ya yb yc yd ye yf yg yh yi yj yk yl ft tr lane ml cel np sl kd hg ps rs rn rk rh lg fk gt tkn nr ru rl rm rd) (fun _ => lz_wX.trans lz_wX.symm) (fun _ => sW_l lz_wX lz_wX) (fun _ => adW_l (ad_wX.trans ad_wX.symm)) (fun r574 u574 H locs h574 hP hD hS => ?_)
  subst h574
  refine lv_aload_n hx hb dL_law_577 rfl (lv_at hl 2 rfl) ?_
  refine lv_aload_n hx hb dL_law_578 rfl (lv_at hl 0 rfl) ?_
  refine lv_iload_n hx hb dL_law_579 rfl (lv_at hl 3 rfl) ?_
  refine lv_iconst (v := nI 1) hx hb dL_law_580 (by decide) ?_
  refine n_iadd (a := i) (b := 1) hx hb dL_law_581 ?_
  refine n_sld (k := (i + 1)) hx hb hX hbl hbA hS (by omega) hL2 dL_law_582 ?_
  have hPc : PP g (wM g y ya yb yc yd ye yf yg yh yi yj yk yl ft tr lane ml cel np sl kd hg ps rs rn rk rh lg fk gt tkn nr ru rl rm rd) _ := (P_r hP lz_wX lz_wM)
  refine zcallR (va_runV (As := [.int (xs (i + 1))]) (rest := [.int (sp_fewest np sl kd hg (xs (i + 1)))]) (b := y) S0 (c_X5_fewest l g y ya yb yc yd ye yf yg yh yi yj yk yl ft tr lane ml cel np sl kd hg ps rs rn rk rh lg fk gt tkn nr ru rl rm rd (xs (i + 1)) hG) (cwV 1 hts gL_law_X5_fewest rfl rfl rfl (by decide +kernel) ⟨by decide, by decide⟩) (zpreV hK hPc (va_recv hK.1 hPc (ci := 5) (q0 := 0) rfl rfl)) rfl rfl hl.1 rfl (lv_room (Nat.le_of_ble_eq_true rfl)) dL_law_583 ⟨Nat.le_of_ble_eq_true rfl, Nat.le_of_ble_eq_true rfl⟩) (fun r583 h583 => ?_)
  subst h583
  refine lv_icmp_eq (tgt := 1215) hx hb dL_law_586 (by decide) (fun _ => ?_) (fun c9 => absurd rfl c9)
  exact next _ _ ls ⟨sh, co, ck, ch, cl, vo, vpa, vma, re, rua, rla, rma, rda, sad, cad, ya, yb, yc, yd, ye, yf, yg, yh, yi, yj, yk, yl, tr, ft, np, sl, kd, hg, nr, ru, rl, rm, rd, lane, ml, cel, u574, vn, vp, vm, ps, rs, rn, rk, rh, lg, fk, gt, tkn, hG, hP, hD, hS⟩ hl

set_option maxHeartbeats 4000000 in
set_option maxRecDepth 100000 in
theorem lawc_13 {P : Program} {l : Launch} {E : Env} {s : State} {mt : MethodId} {below : List Frame} {meth : Method} {cd : Code} {b L : Nat} {xs : Nat → Int32} {g : Gx} {x y : Nat} {Q : State → Prop} (hC : LawC P s mt cd b L xs g) {i : Nat} (hi : i + 7 ≤ L) {H : Heap} {locs : List Loc} {ls : Array Slot} (hI : LawI g s x y H locs) (hl : lv_has ls 4 [(0, .ref b), (1, .ref x), (2, .ref y), (3, .int (nI i))]) (next : ∀ (H : Heap) (locs : List Loc) (ls : Array Slot), LawI g s x y H locs → lv_has ls 4 [(0, .ref b), (1, .ref x), (2, .ref y), (3, .int (nI i))] → W P l E room_1 s mt [Value.ref b].toArray below meth cd H locs 35 734 Q (F0 mt 1215 ls [])) : W P l E room_1 s mt [Value.ref b].toArray below meth cd H locs 35 734 Q (F0 mt 591 ls []) := by
  obtain ⟨hx, hb, S0, hX, hbl, hK, hL⟩ := hC
  have hts := S0.2.2.2.2
  obtain ⟨sh, co, ck, ch, cl, vo, vpa, vma, re, rua, rla, rma, rda, sad, cad, ya, yb, yc, yd, ye, yf, yg, yh, yi, yj, yk, yl, tr, ft, np, sl, kd, hg, nr, ru, rl, rm, rd, lane, ml, cel, lk, vn, vp, vm, ps, rs, rn, rk, rh, lg, fk, gt, tkn, hG, hP, hD, hS⟩ := hI
  have hbA : ¬ (fun q : Nat => s.heap.size ≤ q) b := Nat.not_le.mpr hbl
  have hL2 : L < 2 ^ 31 := by omega
  refine lv_aload_n hx hb dL_law_591 rfl (lv_at hl 1 rfl) ?_
  refine lv_aload_n hx hb dL_law_592 rfl (lv_at hl 0 rfl) ?_
  refine lv_iload_n hx hb dL_law_593 rfl (lv_at hl 3 rfl) ?_
  refine lv_iconst (v := nI 1) hx hb dL_law_594 (by decide) ?_
  refine n_iadd (a := i) (b := 1) hx hb dL_law_595 ?_
  refine n_sld (k := (i + 1)) hx hb hX hbl hbA hS (by omega) hL2 dL_law_596 ?_
  refine lv_aload_n hx hb dL_law_597 rfl (lv_at hl 0 rfl) ?_
  refine lv_iload_n hx hb dL_law_598 rfl (lv_at hl 3 rfl) ?_
  refine lv_iconst (v := nI 2) hx hb dL_law_599 (by decide) ?_
  refine n_iadd (a := i) (b := 2) hx hb dL_law_600 ?_
  refine n_sld (k := (i + 2)) hx hb hX hbl hbA hS (by omega) hL2 dL_law_601 ?_
  refine lv_aload_n hx hb dL_law_602 rfl (lv_at hl 0 rfl) ?_
  refine lv_iload_n hx hb dL_law_603 rfl (lv_at hl 3 rfl) ?_
  refine lv_iconst (v := nI 3) hx hb dL_law_604 (by decide) ?_
  refine n_iadd (a := i) (b := 3) hx hb dL_law_605 ?_
  refine n_sld (k := (i + 3)) hx hb hX hbl hbA hS (by omega) hL2 dL_law_606 ?_
  refine lv_aload_n hx hb dL_law_607 rfl (lv_at hl 0 rfl) ?_
  refine lv_iload_n hx hb dL_law_608 rfl (lv_at hl 3 rfl) ?_
  refine lv_iconst (v := nI 4) hx hb dL_law_609 (by decide) ?_
  refine n_iadd (a := i) (b := 4) hx hb dL_law_610 ?_
  refine n_sld (k := (i + 4)) hx hb hX hbl hbA hS (by omega) hL2 dL_law_611 ?_
  refine lv_aload_n hx hb dL_law_612 rfl (lv_at hl 0 rfl) ?_
  refine lv_iload_n hx hb dL_law_613 rfl (lv_at hl 3 rfl) ?_
  refine lv_iconst (v := nI 5) hx hb dL_law_614 (by decide) ?_
  refine n_iadd (a := i) (b := 5) hx hb dL_law_615 ?_
  refine n_sld (k := (i + 5)) hx hb hX hbl hbA hS (by omega) hL2 dL_law_616 ?_
  refine lv_aload_n hx hb dL_law_617 rfl (lv_at hl 0 rfl) ?_
  refine lv_iload_n hx hb dL_law_618 rfl (lv_at hl 3 rfl) ?_
  refine lv_bipush (v := nI 6) hx hb dL_law_619 (by decide) ?_
  refine n_iadd (a := i) (b := 6) hx hb dL_law_621 ?_
  refine n_sld (k := (i + 6)) hx hb hX hbl hbA hS (by omega) hL2 dL_law_622 ?_
  have hPc : PP g (wX g x sh co ck ch cl vo vpa vma re rua rla rma rda sad cad tr ft np sl kd hg lk vn vp vm nr ru rl rm rd lane ml cel) _ := (P_l hP lz_wX)
  refine zcallM (w := wX g x sh co ck ch cl vo vpa vma re rua rla rma rda sad cad tr ft np sl kd hg lk vn vp vm nr ru rl rm rd lane ml cel) (va_runV (As := [.int (xs (i + 1)), .int (xs (i + 2)), .int (xs (i + 3)), .int (xs (i + 4)), .int (xs (i + 5)), .int (xs (i + 6))]) (rest := []) (b := x) S0 (c_X4_voyages l g x sh co ck ch cl vo vpa vma re rua rla rma rda sad cad tr ft np sl kd hg lk vn vp vm nr ru rl rm rd lane ml cel (xs (i + 1)) (xs (i + 2)) (xs (i + 3)) (xs (i + 4)) (xs (i + 5)) (xs (i + 6)) hG) (cwV 6 hts gL_law_X4_voyages rfl rfl rfl (by decide +kernel) ⟨by decide, by decide⟩) (zpreVM hK hP hD isX (cW_l lz_wX) ndX (va_recv hK.1 hPc (ci := 4) (q0 := 0) rfl rfl)) rfl rfl hl.1 rfl (lv_room (Nat.le_of_ble_eq_true rfl)) dL_law_623 ⟨Nat.le_of_ble_eq_true rfl, Nat.le_of_ble_eq_true rfl⟩) hP hD hS isX (cW_l lz_wX) (fun (u623 : Nat × (Nat → Int32) × (Nat → Int32)) => wX g x sh co ck ch cl vo vpa vma re rua rla rma rda sad cad tr (ft_voy lane ml (xs (i + 2)) (xs (i + 3)) (xs (i + 4)) (xs (i + 5)) (xs (i + 6))) np sl kd hg lk u623.1 u623.2.1 u623.2.2 nr ru rl rm rd lane ml cel ++ wM g y ya yb yc yd ye yf yg yh yi yj yk yl ft tr lane ml cel np sl kd hg ps rs rn rk rh lg fk gt tkn nr ru rl rm rd) (fun _ => lz_wX.trans lz_wX.symm) (fun _ => sW_l lz_wX lz_wX) (fun _ => adW_l (ad_wX.trans ad_wX.symm)) (fun r623 u623 H locs h623 hP hD hS => ?_)
  subst h623
  refine lv_aload_n hx hb dL_law_626 rfl (lv_at hl 2 rfl) ?_
  refine lv_aload_n hx hb dL_law_627 rfl (lv_at hl 0 rfl) ?_
  refine lv_iload_n hx hb dL_law_628 rfl (lv_at hl 3 rfl) ?_
  refine lv_iconst (v := nI 1) hx hb dL_law_629 (by decide) ?_
  refine n_iadd (a := i) (b := 1) hx hb dL_law_630 ?_
  refine n_sld (k := (i + 1)) hx hb hX hbl hbA hS (by omega) hL2 dL_law_631 ?_
  refine lv_aload_n hx hb dL_law_632 rfl (lv_at hl 0 rfl) ?_
  refine lv_iload_n hx hb dL_law_633 rfl (lv_at hl 3 rfl) ?_
  refine lv_iconst (v := nI 2) hx hb dL_law_634 (by decide) ?_
  refine n_iadd (a := i) (b := 2) hx hb dL_law_635 ?_
  refine n_sld (k := (i + 2)) hx hb hX hbl hbA hS (by omega) hL2 dL_law_636 ?_
  refine lv_aload_n hx hb dL_law_637 rfl (lv_at hl 0 rfl) ?_
  refine lv_iload_n hx hb dL_law_638 rfl (lv_at hl 3 rfl) ?_
  refine lv_iconst (v := nI 3) hx hb dL_law_639 (by decide) ?_
  refine n_iadd (a := i) (b := 3) hx hb dL_law_640 ?_
  refine n_sld (k := (i + 3)) hx hb hX hbl hbA hS (by omega) hL2 dL_law_641 ?_
  refine lv_aload_n hx hb dL_law_642 rfl (lv_at hl 0 rfl) ?_
  refine lv_iload_n hx hb dL_law_643 rfl (lv_at hl 3 rfl) ?_
  refine lv_iconst (v := nI 4) hx hb dL_law_644 (by decide) ?_
  refine n_iadd (a := i) (b := 4) hx hb dL_law_645 ?_
  refine n_sld (k := (i + 4)) hx hb hX hbl hbA hS (by omega) hL2 dL_law_646 ?_
  refine lv_aload_n hx hb dL_law_647 rfl (lv_at hl 0 rfl) ?_
  refine lv_iload_n hx hb dL_law_648 rfl (lv_at hl 3 rfl) ?_
  refine lv_iconst (v := nI 5) hx hb dL_law_649 (by decide) ?_
  refine n_iadd (a := i) (b := 5) hx hb dL_law_650 ?_
  refine n_sld (k := (i + 5)) hx hb hX hbl hbA hS (by omega) hL2 dL_law_651 ?_
  refine lv_aload_n hx hb dL_law_652 rfl (lv_at hl 0 rfl) ?_
  refine lv_iload_n hx hb dL_law_653 rfl (lv_at hl 3 rfl) ?_
  refine lv_bipush (v := nI 6) hx hb dL_law_654 (by decide) ?_
  refine n_iadd (a := i) (b := 6) hx hb dL_law_656 ?_
  refine n_sld (k := (i + 6)) hx hb hX hbl hbA hS (by omega) hL2 dL_law_657 ?_
  have hPc : PP g (wM g y ya yb yc yd ye yf yg yh yi yj yk yl ft tr lane ml cel np sl kd hg ps rs rn rk rh lg fk gt tkn nr ru rl rm rd) _ := (P_r hP lz_wX lz_wM)
  refine zcallM (w := wM g y ya yb yc yd ye yf yg yh yi yj yk yl ft tr lane ml cel np sl kd hg ps rs rn rk rh lg fk gt tkn nr ru rl rm rd) (va_runV (As := [.int (xs (i + 1)), .int (xs (i + 2)), .int (xs (i + 3)), .int (xs (i + 4)), .int (xs (i + 5)), .int (xs (i + 6))]) (rest := [.int (sp_voy np sl kd hg lane ml cel (xs (i + 1)) (xs (i + 2)) (xs (i + 3)) (xs (i + 4)) (xs (i + 5)) (xs (i + 6)))]) (b := y) S0 (c_X5_voyages l g y ya yb yc yd ye yf yg yh yi yj yk yl ft tr lane ml cel np sl kd hg ps rs rn rk rh lg fk gt tkn nr ru rl rm rd (xs (i + 1)) (xs (i + 2)) (xs (i + 3)) (xs (i + 4)) (xs (i + 5)) (xs (i + 6)) hG) (cwV 6 hts gL_law_X5_voyages rfl rfl rfl (by decide +kernel) ⟨by decide, by decide⟩) (zpreVM hK hP hD isM (cW_r lz_wX lz_wM) ndM (va_recv hK.1 hPc (ci := 5) (q0 := 0) rfl rfl)) rfl rfl hl.1 rfl (lv_room (Nat.le_of_ble_eq_true rfl)) dL_law_658 ⟨Nat.le_of_ble_eq_true rfl, Nat.le_of_ble_eq_true rfl⟩) hP hD hS isM (cW_r lz_wX lz_wM) (fun (u658 : Int32 × Int32 × Int32 × (Nat → Int32)) => wX g x sh co ck ch cl vo vpa vma re rua rla rma rda sad cad tr (ft_voy lane ml (xs (i + 2)) (xs (i + 3)) (xs (i + 4)) (xs (i + 5)) (xs (i + 6))) np sl kd hg lk u623.1 u623.2.1 u623.2.2 nr ru rl rm rd lane ml cel ++ wM g y ya yb yc yd ye yf yg yh yi yj yk yl (ft_voy lane ml (xs (i + 2)) (xs (i + 3)) (xs (i + 4)) (xs (i + 5)) (xs (i + 6))) tr lane ml cel np sl kd hg ps rs rn rk rh u658.1 u658.2.1 u658.2.2.1 u658.2.2.2 nr ru rl rm rd) (fun _ => lz_wM.trans lz_wM.symm) (fun _ => sW_r lz_wX lz_wM lz_wM) (fun _ => adW_r (ad_wM.trans ad_wM.symm)) (fun r658 u658 H locs h658 hP hD hS => ?_)
  subst h658
  refine lv_icmp_eq (tgt := 1215) hx hb dL_law_661 (by decide) (fun _ => ?_) (fun c9 => absurd rfl c9)
  exact next _ _ ls ⟨sh, co, ck, ch, cl, vo, vpa, vma, re, rua, rla, rma, rda, sad, cad, ya, yb, yc, yd, ye, yf, yg, yh, yi, yj, yk, yl, tr, ft_voy lane ml (xs (i + 2)) (xs (i + 3)) (xs (i + 4)) (xs (i + 5)) (xs (i + 6)), np, sl, kd, hg, nr, ru, rl, rm, rd, lane, ml, cel, lk, u623.1, u623.2.1, u623.2.2, ps, rs, rn, rk, rh, u658.1, u658.2.1, u658.2.2.1, u658.2.2.2, hG, hP, hD, hS⟩ hl

set_option maxHeartbeats 4000000 in
set_option maxRecDepth 100000 in
theorem lawc_14 {P : Program} {l : Launch} {E : Env} {s : State} {mt : MethodId} {below : List Frame} {meth : Method} {cd : Code} {b L : Nat} {xs : Nat → Int32} {g : Gx} {x y : Nat} {Q : State → Prop} (hC : LawC P s mt cd b L xs g) {i : Nat} (hi : i + 7 ≤ L) {H : Heap} {locs : List Loc} {ls : Array Slot} (hI : LawI g s x y H locs) (hl : lv_has ls 4 [(0, .ref b), (1, .ref x), (2, .ref y), (3, .int (nI i))]) (next : ∀ (H : Heap) (locs : List Loc) (ls : Array Slot), LawI g s x y H locs → lv_has ls 4 [(0, .ref b), (1, .ref x), (2, .ref y), (3, .int (nI i))] → W P l E room_1 s mt [Value.ref b].toArray below meth cd H locs 35 734 Q (F0 mt 1215 ls [])) : W P l E room_1 s mt [Value.ref b].toArray below meth cd H locs 35 734 Q (F0 mt 666 ls []) := by
  obtain ⟨hx, hb, S0, hX, hbl, hK, hL⟩ := hC
  have hts := S0.2.2.2.2
  obtain ⟨sh, co, ck, ch, cl, vo, vpa, vma, re, rua, rla, rma, rda, sad, cad, ya, yb, yc, yd, ye, yf, yg, yh, yi, yj, yk, yl, tr, ft, np, sl, kd, hg, nr, ru, rl, rm, rd, lane, ml, cel, lk, vn, vp, vm, ps, rs, rn, rk, rh, lg, fk, gt, tkn, hG, hP, hD, hS⟩ := hI
  have hbA : ¬ (fun q : Nat => s.heap.size ≤ q) b := Nat.not_le.mpr hbl
  have hL2 : L < 2 ^ 31 := by omega
  refine lv_aload_n hx hb dL_law_666 rfl (lv_at hl 1 rfl) ?_
  refine lv_aload_n hx hb dL_law_667 rfl (lv_at hl 0 rfl) ?_
  refine lv_iload_n hx hb dL_law_668 rfl (lv_at hl 3 rfl) ?_
  refine lv_iconst (v := nI 1) hx hb dL_law_669 (by decide) ?_
  refine n_iadd (a := i) (b := 1) hx hb dL_law_670 ?_
  refine n_sld (k := (i + 1)) hx hb hX hbl hbA hS (by omega) hL2 dL_law_671 ?_
  refine lv_aload_n hx hb dL_law_672 rfl (lv_at hl 0 rfl) ?_
  refine lv_iload_n hx hb dL_law_673 rfl (lv_at hl 3 rfl) ?_
  refine lv_iconst (v := nI 2) hx hb dL_law_674 (by decide) ?_
  refine n_iadd (a := i) (b := 2) hx hb dL_law_675 ?_
  refine n_sld (k := (i + 2)) hx hb hX hbl hbA hS (by omega) hL2 dL_law_676 ?_
  refine lv_aload_n hx hb dL_law_677 rfl (lv_at hl 0 rfl) ?_
  refine lv_iload_n hx hb dL_law_678 rfl (lv_at hl 3 rfl) ?_
  refine lv_iconst (v := nI 3) hx hb dL_law_679 (by decide) ?_
  refine n_iadd (a := i) (b := 3) hx hb dL_law_680 ?_
  refine n_sld (k := (i + 3)) hx hb hX hbl hbA hS (by omega) hL2 dL_law_681 ?_
  refine lv_aload_n hx hb dL_law_682 rfl (lv_at hl 0 rfl) ?_
  refine lv_iload_n hx hb dL_law_683 rfl (lv_at hl 3 rfl) ?_
  refine lv_iconst (v := nI 4) hx hb dL_law_684 (by decide) ?_
  refine n_iadd (a := i) (b := 4) hx hb dL_law_685 ?_
  refine n_sld (k := (i + 4)) hx hb hX hbl hbA hS (by omega) hL2 dL_law_686 ?_
  refine lv_if_eq (tgt := 694) hx hb dL_law_687 (by decide) (fun c687 => ?_) (fun c687 => ?_)
  · refine lv_iconst (v := nI 0) hx hb dL_law_694 (by decide) ?_
    have hPc : PP g (wX g x sh co ck ch cl vo vpa vma re rua rla rma rda sad cad tr ft np sl kd hg lk vn vp vm nr ru rl rm rd lane ml cel) _ := (P_l hP lz_wX)
    refine zcallM (w := wX g x sh co ck ch cl vo vpa vma re rua rla rma rda sad cad tr ft np sl kd hg lk vn vp vm nr ru rl rm rd lane ml cel) (va_runV (As := [.int (xs (i + 1)), .int (xs (i + 2)), .int (xs (i + 3)), .int (nI 0)]) (rest := []) (b := x) S0 (c_X4_reading l g x sh co ck ch cl vo vpa vma re rua rla rma rda sad cad tr ft np sl kd hg lk vn vp vm nr ru rl rm rd lane ml cel (xs (i + 1)) (xs (i + 2)) (xs (i + 3)) 0 hG (by decide)) (cwV 4 hts gL_law_X4_reading rfl rfl rfl (by decide +kernel) ⟨by decide, by decide⟩) (zpreVM hK hP hD isX (cW_l lz_wX) ndX (va_recv hK.1 hPc (ci := 4) (q0 := 0) rfl rfl)) rfl rfl hl.1 rfl (lv_room (Nat.le_of_ble_eq_true rfl)) dL_law_695 ⟨Nat.le_of_ble_eq_true rfl, Nat.le_of_ble_eq_true rfl⟩) hP hD hS isX (cW_l lz_wX) (fun (u695 : Unit) => wX g x sh co ck ch cl vo vpa vma re rua rla rma rda sad cad tr ft np sl kd hg lk vn vp vm (st_nr np nr (xs (i + 1)) (xs (i + 2)) (xs (i + 3))) (st_r np nr (xs (i + 1)) (xs (i + 2)) (xs (i + 3)) ru (tN (xs (i + 1)))) (st_r np nr (xs (i + 1)) (xs (i + 2)) (xs (i + 3)) rl (tN (xs (i + 2)))) (st_r np nr (xs (i + 1)) (xs (i + 2)) (xs (i + 3)) rm (tN (xs (i + 3)))) (st_r np nr (xs (i + 1)) (xs (i + 2)) (xs (i + 3)) rd 0) lane ml cel ++ wM g y ya yb yc yd ye yf yg yh yi yj yk yl ft tr lane ml cel np sl kd hg ps rs rn rk rh lg fk gt tkn nr ru rl rm rd) (fun _ => lz_wX.trans lz_wX.symm) (fun _ => sW_l lz_wX lz_wX) (fun _ => adW_l (ad_wX.trans ad_wX.symm)) (fun r695 u695 H locs h695 hP hD hS => ?_)
    subst h695
    refine lv_aload_n hx hb dL_law_698 rfl (lv_at hl 2 rfl) ?_
    refine lv_aload_n hx hb dL_law_699 rfl (lv_at hl 0 rfl) ?_
    refine lv_iload_n hx hb dL_law_700 rfl (lv_at hl 3 rfl) ?_
    refine lv_iconst (v := nI 1) hx hb dL_law_701 (by decide) ?_
    refine n_iadd (a := i) (b := 1) hx hb dL_law_702 ?_
    refine n_sld (k := (i + 1)) hx hb hX hbl hbA hS (by omega) hL2 dL_law_703 ?_
    refine lv_aload_n hx hb dL_law_704 rfl (lv_at hl 0 rfl) ?_
    refine lv_iload_n hx hb dL_law_705 rfl (lv_at hl 3 rfl) ?_
    refine lv_iconst (v := nI 2) hx hb dL_law_706 (by decide) ?_
    refine n_iadd (a := i) (b := 2) hx hb dL_law_707 ?_
    refine n_sld (k := (i + 2)) hx hb hX hbl hbA hS (by omega) hL2 dL_law_708 ?_
    refine lv_aload_n hx hb dL_law_709 rfl (lv_at hl 0 rfl) ?_
    refine lv_iload_n hx hb dL_law_710 rfl (lv_at hl 3 rfl) ?_
    refine lv_iconst (v := nI 3) hx hb dL_law_711 (by decide) ?_
    refine n_iadd (a := i) (b := 3) hx hb dL_law_712 ?_
    refine n_sld (k := (i + 3)) hx hb hX hbl hbA hS (by omega) hL2 dL_law_713 ?_
    refine lv_aload_n hx hb dL_law_714 rfl (lv_at hl 0 rfl) ?_
    refine lv_iload_n hx hb dL_law_715 rfl (lv_at hl 3 rfl) ?_
    refine lv_iconst (v := nI 4) hx hb dL_law_716 (by decide) ?_
    refine n_iadd (a := i) (b := 4) hx hb dL_law_717 ?_
    refine n_sld (k := (i + 4)) hx hb hX hbl hbA hS (by omega) hL2 dL_law_718 ?_
    refine lv_if_eq (tgt := 726) hx hb dL_law_719 (by decide) (fun c719 => ?_) (fun c719 => ?_)
    rotate_left
    · exact absurd c687 c719
    refine lv_iconst (v := nI 0) hx hb dL_law_726 (by decide) ?_
    have hPc : PP g (wM g y ya yb yc yd ye yf yg yh yi yj yk yl ft tr lane ml cel np sl kd hg ps rs rn rk rh lg fk gt tkn nr ru rl rm rd) _ := (P_r hP lz_wX lz_wM)
    refine zcallM (w := wM g y ya yb yc yd ye yf yg yh yi yj yk yl ft tr lane ml cel np sl kd hg ps rs rn rk rh lg fk gt tkn nr ru rl rm rd) (va_runV (As := [.int (xs (i + 1)), .int (xs (i + 2)), .int (xs (i + 3)), .int (nI 0)]) (rest := [.int (sp_reading np nr (xs (i + 1)) (xs (i + 2)) (xs (i + 3)))]) (b := y) S0 (c_X5_reading l g y ya yb yc yd ye yf yg yh yi yj yk yl ft tr lane ml cel np sl kd hg ps rs rn rk rh lg fk gt tkn nr ru rl rm rd (xs (i + 1)) (xs (i + 2)) (xs (i + 3)) 0 hG (by decide)) (cwV 4 hts gL_law_X5_reading rfl rfl rfl (by decide +kernel) ⟨by decide, by decide⟩) (zpreVM hK hP hD isM (cW_r lz_wX lz_wM) ndM (va_recv hK.1 hPc (ci := 5) (q0 := 0) rfl rfl)) rfl rfl hl.1 rfl (lv_room (Nat.le_of_ble_eq_true rfl)) dL_law_727 ⟨Nat.le_of_ble_eq_true rfl, Nat.le_of_ble_eq_true rfl⟩) hP hD hS isM (cW_r lz_wX lz_wM) (fun (u727 : Unit) => wX g x sh co ck ch cl vo vpa vma re rua rla rma rda sad cad tr ft np sl kd hg lk vn vp vm (st_nr np nr (xs (i + 1)) (xs (i + 2)) (xs (i + 3))) (st_r np nr (xs (i + 1)) (xs (i + 2)) (xs (i + 3)) ru (tN (xs (i + 1)))) (st_r np nr (xs (i + 1)) (xs (i + 2)) (xs (i + 3)) rl (tN (xs (i + 2)))) (st_r np nr (xs (i + 1)) (xs (i + 2)) (xs (i + 3)) rm (tN (xs (i + 3)))) (st_r np nr (xs (i + 1)) (xs (i + 2)) (xs (i + 3)) rd 0) lane ml cel ++ wM g y ya yb yc yd ye yf yg yh yi yj yk yl ft tr lane ml cel np sl kd hg ps rs rn rk rh lg fk gt tkn (st_nr np nr (xs (i + 1)) (xs (i + 2)) (xs (i + 3))) (st_r np nr (xs (i + 1)) (xs (i + 2)) (xs (i + 3)) ru (tN (xs (i + 1)))) (st_r np nr (xs (i + 1)) (xs (i + 2)) (xs (i + 3)) rl (tN (xs (i + 2)))) (st_r np nr (xs (i + 1)) (xs (i + 2)) (xs (i + 3)) rm (tN (xs (i + 3)))) (st_r np nr (xs (i + 1)) (xs (i + 2)) (xs (i + 3)) rd 0)) (fun _ => lz_wM.trans lz_wM.symm) (fun _ => sW_r lz_wX lz_wM lz_wM) (fun _ => adW_r (ad_wM.trans ad_wM.symm)) (fun r727 u727 H locs h727 hP hD hS => ?_)
    subst h727
    refine lv_icmp_eq (tgt := 1215) hx hb dL_law_730 (by decide) (fun _ => ?_) (fun c9 => absurd rfl c9)
    exact next _ _ ls ⟨sh, co, ck, ch, cl, vo, vpa, vma, re, rua, rla, rma, rda, sad, cad, ya, yb, yc, yd, ye, yf, yg, yh, yi, yj, yk, yl, tr, ft, np, sl, kd, hg, st_nr np nr (xs (i + 1)) (xs (i + 2)) (xs (i + 3)), st_r np nr (xs (i + 1)) (xs (i + 2)) (xs (i + 3)) ru (tN (xs (i + 1))), st_r np nr (xs (i + 1)) (xs (i + 2)) (xs (i + 3)) rl (tN (xs (i + 2))), st_r np nr (xs (i + 1)) (xs (i + 2)) (xs (i + 3)) rm (tN (xs (i + 3))), st_r np nr (xs (i + 1)) (xs (i + 2)) (xs (i + 3)) rd 0, lane, ml, cel, lk, vn, vp, vm, ps, rs, rn, rk, rh, lg, fk, gt, tkn, (Gd_reading hG (xs (i + 1)) (xs (i + 2)) (xs (i + 3)) (by decide)), hP, hD, hS⟩ hl
  · refine lv_iconst (v := nI 1) hx hb dL_law_690 (by decide) ?_
    refine lv_goto (tgt := 695) hx hb dL_law_691 (by decide) ?_
    have hPc : PP g (wX g x sh co ck ch cl vo vpa vma re rua rla rma rda sad cad tr ft np sl kd hg lk vn vp vm nr ru rl rm rd lane ml cel) _ := (P_l hP lz_wX)
    refine zcallM (w := wX g x sh co ck ch cl vo vpa vma re rua rla rma rda sad cad tr ft np sl kd hg lk vn vp vm nr ru rl rm rd lane ml cel) (va_runV (As := [.int (xs (i + 1)), .int (xs (i + 2)), .int (xs (i + 3)), .int (nI 1)]) (rest := []) (b := x) S0 (c_X4_reading l g x sh co ck ch cl vo vpa vma re rua rla rma rda sad cad tr ft np sl kd hg lk vn vp vm nr ru rl rm rd lane ml cel (xs (i + 1)) (xs (i + 2)) (xs (i + 3)) 1 hG (by decide)) (cwV 4 hts gL_law_X4_reading rfl rfl rfl (by decide +kernel) ⟨by decide, by decide⟩) (zpreVM hK hP hD isX (cW_l lz_wX) ndX (va_recv hK.1 hPc (ci := 4) (q0 := 0) rfl rfl)) rfl rfl hl.1 rfl (lv_room (Nat.le_of_ble_eq_true rfl)) dL_law_695 ⟨Nat.le_of_ble_eq_true rfl, Nat.le_of_ble_eq_true rfl⟩) hP hD hS isX (cW_l lz_wX) (fun (u695 : Unit) => wX g x sh co ck ch cl vo vpa vma re rua rla rma rda sad cad tr ft np sl kd hg lk vn vp vm (st_nr np nr (xs (i + 1)) (xs (i + 2)) (xs (i + 3))) (st_r np nr (xs (i + 1)) (xs (i + 2)) (xs (i + 3)) ru (tN (xs (i + 1)))) (st_r np nr (xs (i + 1)) (xs (i + 2)) (xs (i + 3)) rl (tN (xs (i + 2)))) (st_r np nr (xs (i + 1)) (xs (i + 2)) (xs (i + 3)) rm (tN (xs (i + 3)))) (st_r np nr (xs (i + 1)) (xs (i + 2)) (xs (i + 3)) rd 1) lane ml cel ++ wM g y ya yb yc yd ye yf yg yh yi yj yk yl ft tr lane ml cel np sl kd hg ps rs rn rk rh lg fk gt tkn nr ru rl rm rd) (fun _ => lz_wX.trans lz_wX.symm) (fun _ => sW_l lz_wX lz_wX) (fun _ => adW_l (ad_wX.trans ad_wX.symm)) (fun r695 u695 H locs h695 hP hD hS => ?_)
    subst h695
    refine lv_aload_n hx hb dL_law_698 rfl (lv_at hl 2 rfl) ?_
    refine lv_aload_n hx hb dL_law_699 rfl (lv_at hl 0 rfl) ?_
    refine lv_iload_n hx hb dL_law_700 rfl (lv_at hl 3 rfl) ?_
    refine lv_iconst (v := nI 1) hx hb dL_law_701 (by decide) ?_
    refine n_iadd (a := i) (b := 1) hx hb dL_law_702 ?_
    refine n_sld (k := (i + 1)) hx hb hX hbl hbA hS (by omega) hL2 dL_law_703 ?_
    refine lv_aload_n hx hb dL_law_704 rfl (lv_at hl 0 rfl) ?_
    refine lv_iload_n hx hb dL_law_705 rfl (lv_at hl 3 rfl) ?_
    refine lv_iconst (v := nI 2) hx hb dL_law_706 (by decide) ?_
    refine n_iadd (a := i) (b := 2) hx hb dL_law_707 ?_
    refine n_sld (k := (i + 2)) hx hb hX hbl hbA hS (by omega) hL2 dL_law_708 ?_
    refine lv_aload_n hx hb dL_law_709 rfl (lv_at hl 0 rfl) ?_
    refine lv_iload_n hx hb dL_law_710 rfl (lv_at hl 3 rfl) ?_
    refine lv_iconst (v := nI 3) hx hb dL_law_711 (by decide) ?_
    refine n_iadd (a := i) (b := 3) hx hb dL_law_712 ?_
    refine n_sld (k := (i + 3)) hx hb hX hbl hbA hS (by omega) hL2 dL_law_713 ?_
    refine lv_aload_n hx hb dL_law_714 rfl (lv_at hl 0 rfl) ?_
    refine lv_iload_n hx hb dL_law_715 rfl (lv_at hl 3 rfl) ?_
    refine lv_iconst (v := nI 4) hx hb dL_law_716 (by decide) ?_
    refine n_iadd (a := i) (b := 4) hx hb dL_law_717 ?_
    refine n_sld (k := (i + 4)) hx hb hX hbl hbA hS (by omega) hL2 dL_law_718 ?_
    refine lv_if_eq (tgt := 726) hx hb dL_law_719 (by decide) (fun c719 => ?_) (fun c719 => ?_)
    · exact absurd c719 c687
    refine lv_iconst (v := nI 1) hx hb dL_law_722 (by decide) ?_
    refine lv_goto (tgt := 727) hx hb dL_law_723 (by decide) ?_
    have hPc : PP g (wM g y ya yb yc yd ye yf yg yh yi yj yk yl ft tr lane ml cel np sl kd hg ps rs rn rk rh lg fk gt tkn nr ru rl rm rd) _ := (P_r hP lz_wX lz_wM)
    refine zcallM (w := wM g y ya yb yc yd ye yf yg yh yi yj yk yl ft tr lane ml cel np sl kd hg ps rs rn rk rh lg fk gt tkn nr ru rl rm rd) (va_runV (As := [.int (xs (i + 1)), .int (xs (i + 2)), .int (xs (i + 3)), .int (nI 1)]) (rest := [.int (sp_reading np nr (xs (i + 1)) (xs (i + 2)) (xs (i + 3)))]) (b := y) S0 (c_X5_reading l g y ya yb yc yd ye yf yg yh yi yj yk yl ft tr lane ml cel np sl kd hg ps rs rn rk rh lg fk gt tkn nr ru rl rm rd (xs (i + 1)) (xs (i + 2)) (xs (i + 3)) 1 hG (by decide)) (cwV 4 hts gL_law_X5_reading rfl rfl rfl (by decide +kernel) ⟨by decide, by decide⟩) (zpreVM hK hP hD isM (cW_r lz_wX lz_wM) ndM (va_recv hK.1 hPc (ci := 5) (q0 := 0) rfl rfl)) rfl rfl hl.1 rfl (lv_room (Nat.le_of_ble_eq_true rfl)) dL_law_727 ⟨Nat.le_of_ble_eq_true rfl, Nat.le_of_ble_eq_true rfl⟩) hP hD hS isM (cW_r lz_wX lz_wM) (fun (u727 : Unit) => wX g x sh co ck ch cl vo vpa vma re rua rla rma rda sad cad tr ft np sl kd hg lk vn vp vm (st_nr np nr (xs (i + 1)) (xs (i + 2)) (xs (i + 3))) (st_r np nr (xs (i + 1)) (xs (i + 2)) (xs (i + 3)) ru (tN (xs (i + 1)))) (st_r np nr (xs (i + 1)) (xs (i + 2)) (xs (i + 3)) rl (tN (xs (i + 2)))) (st_r np nr (xs (i + 1)) (xs (i + 2)) (xs (i + 3)) rm (tN (xs (i + 3)))) (st_r np nr (xs (i + 1)) (xs (i + 2)) (xs (i + 3)) rd 1) lane ml cel ++ wM g y ya yb yc yd ye yf yg yh yi yj yk yl ft tr lane ml cel np sl kd hg ps rs rn rk rh lg fk gt tkn (st_nr np nr (xs (i + 1)) (xs (i + 2)) (xs (i + 3))) (st_r np nr (xs (i + 1)) (xs (i + 2)) (xs (i + 3)) ru (tN (xs (i + 1)))) (st_r np nr (xs (i + 1)) (xs (i + 2)) (xs (i + 3)) rl (tN (xs (i + 2)))) (st_r np nr (xs (i + 1)) (xs (i + 2)) (xs (i + 3)) rm (tN (xs (i + 3)))) (st_r np nr (xs (i + 1)) (xs (i + 2)) (xs (i + 3)) rd 1)) (fun _ => lz_wM.trans lz_wM.symm) (fun _ => sW_r lz_wX lz_wM lz_wM) (fun _ => adW_r (ad_wM.trans ad_wM.symm)) (fun r727 u727 H locs h727 hP hD hS => ?_)
    subst h727
    refine lv_icmp_eq (tgt := 1215) hx hb dL_law_730 (by decide) (fun _ => ?_) (fun c9 => absurd rfl c9)
    exact next _ _ ls ⟨sh, co, ck, ch, cl, vo, vpa, vma, re, rua, rla, rma, rda, sad, cad, ya, yb, yc, yd, ye, yf, yg, yh, yi, yj, yk, yl, tr, ft, np, sl, kd, hg, st_nr np nr (xs (i + 1)) (xs (i + 2)) (xs (i + 3)), st_r np nr (xs (i + 1)) (xs (i + 2)) (xs (i + 3)) ru (tN (xs (i + 1))), st_r np nr (xs (i + 1)) (xs (i + 2)) (xs (i + 3)) rl (tN (xs (i + 2))), st_r np nr (xs (i + 1)) (xs (i + 2)) (xs (i + 3)) rm (tN (xs (i + 3))), st_r np nr (xs (i + 1)) (xs (i + 2)) (xs (i + 3)) rd 1, lane, ml, cel, lk, vn, vp, vm, ps, rs, rn, rk, rh, lg, fk, gt, tkn, (Gd_reading hG (xs (i + 1)) (xs (i + 2)) (xs (i + 3)) (by decide)), hP, hD, hS⟩ hl

set_option maxHeartbeats 4000000 in
set_option maxRecDepth 100000 in
theorem lawc_15 {P : Program} {l : Launch} {E : Env} {s : State} {mt : MethodId} {below : List Frame} {meth : Method} {cd : Code} {b L : Nat} {xs : Nat → Int32} {g : Gx} {x y : Nat} {Q : State → Prop} (hC : LawC P s mt cd b L xs g) {i : Nat} (hi : i + 7 ≤ L) {H : Heap} {locs : List Loc} {ls : Array Slot} (hI : LawI g s x y H locs) (hl : lv_has ls 4 [(0, .ref b), (1, .ref x), (2, .ref y), (3, .int (nI i))]) (next : ∀ (H : Heap) (locs : List Loc) (ls : Array Slot), LawI g s x y H locs → lv_has ls 4 [(0, .ref b), (1, .ref x), (2, .ref y), (3, .int (nI i))] → W P l E room_1 s mt [Value.ref b].toArray below meth cd H locs 35 734 Q (F0 mt 1215 ls [])) : W P l E room_1 s mt [Value.ref b].toArray below meth cd H locs 35 734 Q (F0 mt 735 ls []) := by
  obtain ⟨hx, hb, S0, hX, hbl, hK, hL⟩ := hC
  have hts := S0.2.2.2.2
  obtain ⟨sh, co, ck, ch, cl, vo, vpa, vma, re, rua, rla, rma, rda, sad, cad, ya, yb, yc, yd, ye, yf, yg, yh, yi, yj, yk, yl, tr, ft, np, sl, kd, hg, nr, ru, rl, rm, rd, lane, ml, cel, lk, vn, vp, vm, ps, rs, rn, rk, rh, lg, fk, gt, tkn, hG, hP, hD, hS⟩ := hI
  have hbA : ¬ (fun q : Nat => s.heap.size ≤ q) b := Nat.not_le.mpr hbl
  have hL2 : L < 2 ^ 31 := by omega
  refine lv_aload_n hx hb dL_law_735 rfl (lv_at hl 1 rfl) ?_
  refine lv_aload_n hx hb dL_law_736 rfl (lv_at hl 0 rfl) ?_
  refine lv_iload_n hx hb dL_law_737 rfl (lv_at hl 3 rfl) ?_
  refine lv_iconst (v := nI 1) hx hb dL_law_738 (by decide) ?_
  refine n_iadd (a := i) (b := 1) hx hb dL_law_739 ?_
  refine n_sld (k := (i + 1)) hx hb hX hbl hbA hS (by omega) hL2 dL_law_740 ?_
  have hPc : PP g (wX g x sh co ck ch cl vo vpa vma re rua rla rma rda sad cad tr ft np sl kd hg lk vn vp vm nr ru rl rm rd lane ml cel) _ := (P_l hP lz_wX)
  refine zcallM (w := wX g x sh co ck ch cl vo vpa vma re rua rla rma rda sad cad tr ft np sl kd hg lk vn vp vm nr ru rl rm rd lane ml cel) (va_runV (As := [.int (xs (i + 1))]) (rest := []) (b := x) S0 (c_X4_back l g x sh co ck ch cl vo vpa vma re rua rla rma rda sad cad tr ft np sl kd hg lk vn vp vm nr ru rl rm rd lane ml cel (xs (i + 1)) hG) (cwV 1 hts gL_law_X4_back rfl rfl rfl (by decide +kernel) ⟨by decide, by decide⟩) (zpreVM hK hP hD isX (cW_l lz_wX) ndX (va_recv hK.1 hPc (ci := 4) (q0 := 0) rfl rfl)) rfl rfl hl.1 rfl (lv_room (Nat.le_of_ble_eq_true rfl)) dL_law_741 ⟨Nat.le_of_ble_eq_true rfl, Nat.le_of_ble_eq_true rfl⟩) hP hD hS isX (cW_l lz_wX) (fun (u741 : Unit) => wX g x sh co ck ch cl vo vpa vma re rua rla rma rda sad cad tr ft np sl kd hg lk vn vp vm (st_back nr (xs (i + 1))) ru rl rm rd lane ml cel ++ wM g y ya yb yc yd ye yf yg yh yi yj yk yl ft tr lane ml cel np sl kd hg ps rs rn rk rh lg fk gt tkn nr ru rl rm rd) (fun _ => lz_wX.trans lz_wX.symm) (fun _ => sW_l lz_wX lz_wX) (fun _ => adW_l (ad_wX.trans ad_wX.symm)) (fun r741 u741 H locs h741 hP hD hS => ?_)
  subst h741
  refine lv_aload_n hx hb dL_law_744 rfl (lv_at hl 2 rfl) ?_
  refine lv_aload_n hx hb dL_law_745 rfl (lv_at hl 0 rfl) ?_
  refine lv_iload_n hx hb dL_law_746 rfl (lv_at hl 3 rfl) ?_
  refine lv_iconst (v := nI 1) hx hb dL_law_747 (by decide) ?_
  refine n_iadd (a := i) (b := 1) hx hb dL_law_748 ?_
  refine n_sld (k := (i + 1)) hx hb hX hbl hbA hS (by omega) hL2 dL_law_749 ?_
  have hPc : PP g (wM g y ya yb yc yd ye yf yg yh yi yj yk yl ft tr lane ml cel np sl kd hg ps rs rn rk rh lg fk gt tkn nr ru rl rm rd) _ := (P_r hP lz_wX lz_wM)
  refine zcallM (w := wM g y ya yb yc yd ye yf yg yh yi yj yk yl ft tr lane ml cel np sl kd hg ps rs rn rk rh lg fk gt tkn nr ru rl rm rd) (va_runV (As := [.int (xs (i + 1))]) (rest := [.int (sp_back nr (xs (i + 1)))]) (b := y) S0 (c_X5_back l g y ya yb yc yd ye yf yg yh yi yj yk yl ft tr lane ml cel np sl kd hg ps rs rn rk rh lg fk gt tkn nr ru rl rm rd (xs (i + 1)) hG) (cwV 1 hts gL_law_X5_back rfl rfl rfl (by decide +kernel) ⟨by decide, by decide⟩) (zpreVM hK hP hD isM (cW_r lz_wX lz_wM) ndM (va_recv hK.1 hPc (ci := 5) (q0 := 0) rfl rfl)) rfl rfl hl.1 rfl (lv_room (Nat.le_of_ble_eq_true rfl)) dL_law_750 ⟨Nat.le_of_ble_eq_true rfl, Nat.le_of_ble_eq_true rfl⟩) hP hD hS isM (cW_r lz_wX lz_wM) (fun (u750 : Unit) => wX g x sh co ck ch cl vo vpa vma re rua rla rma rda sad cad tr ft np sl kd hg lk vn vp vm (st_back nr (xs (i + 1))) ru rl rm rd lane ml cel ++ wM g y ya yb yc yd ye yf yg yh yi yj yk yl ft tr lane ml cel np sl kd hg ps rs rn rk rh lg fk gt tkn (st_back nr (xs (i + 1))) ru rl rm rd) (fun _ => lz_wM.trans lz_wM.symm) (fun _ => sW_r lz_wX lz_wM lz_wM) (fun _ => adW_r (ad_wM.trans ad_wM.symm)) (fun r750 u750 H locs h750 hP hD hS => ?_)
  subst h750
  refine lv_icmp_eq (tgt := 1215) hx hb dL_law_753 (by decide) (fun _ => ?_) (fun c9 => absurd rfl c9)
  exact next _ _ ls ⟨sh, co, ck, ch, cl, vo, vpa, vma, re, rua, rla, rma, rda, sad, cad, ya, yb, yc, yd, ye, yf, yg, yh, yi, yj, yk, yl, tr, ft, np, sl, kd, hg, st_back nr (xs (i + 1)), ru, rl, rm, rd, lane, ml, cel, lk, vn, vp, vm, ps, rs, rn, rk, rh, lg, fk, gt, tkn, (Gd_back hG (xs (i + 1))), hP, hD, hS⟩ hl

set_option maxHeartbeats 4000000 in
set_option maxRecDepth 100000 in
theorem lawc_16 {P : Program} {l : Launch} {E : Env} {s : State} {mt : MethodId} {below : List Frame} {meth : Method} {cd : Code} {b L : Nat} {xs : Nat → Int32} {g : Gx} {x y : Nat} {Q : State → Prop} (hC : LawC P s mt cd b L xs g) {i : Nat} (hi : i + 7 ≤ L) {H : Heap} {locs : List Loc} {ls : Array Slot} (hI : LawI g s x y H locs) (hl : lv_has ls 4 [(0, .ref b), (1, .ref x), (2, .ref y), (3, .int (nI i))]) (next : ∀ (H : Heap) (locs : List Loc) (ls : Array Slot), LawI g s x y H locs → lv_has ls 4 [(0, .ref b), (1, .ref x), (2, .ref y), (3, .int (nI i))] → W P l E room_1 s mt [Value.ref b].toArray below meth cd H locs 35 734 Q (F0 mt 1215 ls [])) : W P l E room_1 s mt [Value.ref b].toArray below meth cd H locs 35 734 Q (F0 mt 758 ls []) := by
  obtain ⟨hx, hb, S0, hX, hbl, hK, hL⟩ := hC
  have hts := S0.2.2.2.2
  obtain ⟨sh, co, ck, ch, cl, vo, vpa, vma, re, rua, rla, rma, rda, sad, cad, ya, yb, yc, yd, ye, yf, yg, yh, yi, yj, yk, yl, tr, ft, np, sl, kd, hg, nr, ru, rl, rm, rd, lane, ml, cel, lk, vn, vp, vm, ps, rs, rn, rk, rh, lg, fk, gt, tkn, hG, hP, hD, hS⟩ := hI
  have hbA : ¬ (fun q : Nat => s.heap.size ≤ q) b := Nat.not_le.mpr hbl
  have hL2 : L < 2 ^ 31 := by omega
  refine lv_aload_n hx hb dL_law_758 rfl (lv_at hl 1 rfl) ?_
  refine lv_aload_n hx hb dL_law_759 rfl (lv_at hl 0 rfl) ?_
  refine lv_iload_n hx hb dL_law_760 rfl (lv_at hl 3 rfl) ?_
  refine lv_iconst (v := nI 1) hx hb dL_law_761 (by decide) ?_
  refine n_iadd (a := i) (b := 1) hx hb dL_law_762 ?_
  refine n_sld (k := (i + 1)) hx hb hX hbl hbA hS (by omega) hL2 dL_law_763 ?_
  refine lv_aload_n hx hb dL_law_764 rfl (lv_at hl 0 rfl) ?_
  refine lv_iload_n hx hb dL_law_765 rfl (lv_at hl 3 rfl) ?_
  refine lv_iconst (v := nI 2) hx hb dL_law_766 (by decide) ?_
  refine n_iadd (a := i) (b := 2) hx hb dL_law_767 ?_
  refine n_sld (k := (i + 2)) hx hb hX hbl hbA hS (by omega) hL2 dL_law_768 ?_
  have hPc : PP g (wX g x sh co ck ch cl vo vpa vma re rua rla rma rda sad cad tr ft np sl kd hg lk vn vp vm nr ru rl rm rd lane ml cel) _ := (P_l hP lz_wX)
  refine zcallM (w := wX g x sh co ck ch cl vo vpa vma re rua rla rma rda sad cad tr ft np sl kd hg lk vn vp vm nr ru rl rm rd lane ml cel) (va_runV (As := [.int (xs (i + 1)), .int (xs (i + 2))]) (rest := []) (b := x) S0 (c_X4_edges l g x sh co ck ch cl vo vpa vma re rua rla rma rda sad cad tr ft np sl kd hg lk vn vp vm nr ru rl rm rd lane ml cel (xs (i + 1)) (xs (i + 2)) hG) (cwV 2 hts gL_law_X4_edges rfl rfl rfl (by decide +kernel) ⟨by decide, by decide⟩) (zpreVM hK hP hD isX (cW_l lz_wX) ndX (va_recv hK.1 hPc (ci := 4) (q0 := 0) rfl rfl)) rfl rfl hl.1 rfl (lv_room (Nat.le_of_ble_eq_true rfl)) dL_law_769 ⟨Nat.le_of_ble_eq_true rfl, Nat.le_of_ble_eq_true rfl⟩) hP hD hS isX (cW_l lz_wX) (fun (u769 : Unit) => wX g x sh co ck ch cl vo vpa vma re rua rla rma rda sad cad tr ft np sl kd hg lk vn vp vm nr ru rl rm rd lane ml cel ++ wM g y ya yb yc yd ye yf yg yh yi yj yk yl ft tr lane ml cel np sl kd hg ps rs rn rk rh lg fk gt tkn nr ru rl rm rd) (fun _ => lz_wX.trans lz_wX.symm) (fun _ => sW_l lz_wX lz_wX) (fun _ => adW_l (ad_wX.trans ad_wX.symm)) (fun r769 u769 H locs h769 hP hD hS => ?_)
  subst h769
  refine lv_aload_n hx hb dL_law_772 rfl (lv_at hl 2 rfl) ?_
  refine lv_aload_n hx hb dL_law_773 rfl (lv_at hl 0 rfl) ?_
  refine lv_iload_n hx hb dL_law_774 rfl (lv_at hl 3 rfl) ?_
  refine lv_iconst (v := nI 1) hx hb dL_law_775 (by decide) ?_
  refine n_iadd (a := i) (b := 1) hx hb dL_law_776 ?_
  refine n_sld (k := (i + 1)) hx hb hX hbl hbA hS (by omega) hL2 dL_law_777 ?_
  refine lv_aload_n hx hb dL_law_778 rfl (lv_at hl 0 rfl) ?_
  refine lv_iload_n hx hb dL_law_779 rfl (lv_at hl 3 rfl) ?_
  refine lv_iconst (v := nI 2) hx hb dL_law_780 (by decide) ?_
  refine n_iadd (a := i) (b := 2) hx hb dL_law_781 ?_
  refine n_sld (k := (i + 2)) hx hb hX hbl hbA hS (by omega) hL2 dL_law_782 ?_
  have hPc : PP g (wM g y ya yb yc yd ye yf yg yh yi yj yk yl ft tr lane ml cel np sl kd hg ps rs rn rk rh lg fk gt tkn nr ru rl rm rd) _ := (P_r hP lz_wX lz_wM)
  refine zcallM (w := wM g y ya yb yc yd ye yf yg yh yi yj yk yl ft tr lane ml cel np sl kd hg ps rs rn rk rh lg fk gt tkn nr ru rl rm rd) (va_runV (As := [.int (xs (i + 1)), .int (xs (i + 2))]) (rest := [.int (sp_edges np sl kd hg nr ru rl rm rd (xs (i + 1)) (xs (i + 2)))]) (b := y) S0 (c_X5_edges l g y ya yb yc yd ye yf yg yh yi yj yk yl ft tr lane ml cel np sl kd hg ps rs rn rk rh lg fk gt tkn nr ru rl rm rd (xs (i + 1)) (xs (i + 2)) hG) (cwV 2 hts gL_law_X5_edges rfl rfl rfl (by decide +kernel) ⟨by decide, by decide⟩) (zpreVM hK hP hD isM (cW_r lz_wX lz_wM) ndM (va_recv hK.1 hPc (ci := 5) (q0 := 0) rfl rfl)) rfl rfl hl.1 rfl (lv_room (Nat.le_of_ble_eq_true rfl)) dL_law_783 ⟨Nat.le_of_ble_eq_true rfl, Nat.le_of_ble_eq_true rfl⟩) hP hD hS isM (cW_r lz_wX lz_wM) (fun (u783 : Unit) => wX g x sh co ck ch cl vo vpa vma re rua rla rma rda sad cad tr ft np sl kd hg lk vn vp vm nr ru rl rm rd lane ml cel ++ wM g y ya yb yc yd ye yf yg yh yi yj yk yl ft tr lane ml cel np sl kd hg ps rs rn rk rh lg fk gt tkn nr ru rl rm rd) (fun _ => lz_wM.trans lz_wM.symm) (fun _ => sW_r lz_wX lz_wM lz_wM) (fun _ => adW_r (ad_wM.trans ad_wM.symm)) (fun r783 u783 H locs h783 hP hD hS => ?_)
  subst h783
  refine lv_icmp_eq (tgt := 1215) hx hb dL_law_786 (by decide) (fun _ => ?_) (fun c9 => absurd rfl c9)
  exact next _ _ ls ⟨sh, co, ck, ch, cl, vo, vpa, vma, re, rua, rla, rma, rda, sad, cad, ya, yb, yc, yd, ye, yf, yg, yh, yi, yj, yk, yl, tr, ft, np, sl, kd, hg, nr, ru, rl, rm, rd, lane, ml, cel, lk, vn, vp, vm, ps, rs, rn, rk, rh, lg, fk, gt, tkn, hG, hP, hD, hS⟩ hl

set_option maxHeartbeats 4000000 in
set_option maxRecDepth 100000 in
theorem lawc_17 {P : Program} {l : Launch} {E : Env} {s : State} {mt : MethodId} {below : List Frame} {meth : Method} {cd : Code} {b L : Nat} {xs : Nat → Int32} {g : Gx} {x y : Nat} {Q : State → Prop} (hC : LawC P s mt cd b L xs g) {i : Nat} (hi : i + 7 ≤ L) {H : Heap} {locs : List Loc} {ls : Array Slot} (hI : LawI g s x y H locs) (hl : lv_has ls 4 [(0, .ref b), (1, .ref x), (2, .ref y), (3, .int (nI i))]) (next : ∀ (H : Heap) (locs : List Loc) (ls : Array Slot), LawI g s x y H locs → lv_has ls 4 [(0, .ref b), (1, .ref x), (2, .ref y), (3, .int (nI i))] → W P l E room_1 s mt [Value.ref b].toArray below meth cd H locs 35 734 Q (F0 mt 1215 ls [])) : W P l E room_1 s mt [Value.ref b].toArray below meth cd H locs 35 734 Q (F0 mt 791 ls []) := by
  obtain ⟨hx, hb, S0, hX, hbl, hK, hL⟩ := hC
  have hts := S0.2.2.2.2
  obtain ⟨sh, co, ck, ch, cl, vo, vpa, vma, re, rua, rla, rma, rda, sad, cad, ya, yb, yc, yd, ye, yf, yg, yh, yi, yj, yk, yl, tr, ft, np, sl, kd, hg, nr, ru, rl, rm, rd, lane, ml, cel, lk, vn, vp, vm, ps, rs, rn, rk, rh, lg, fk, gt, tkn, hG, hP, hD, hS⟩ := hI
  have hbA : ¬ (fun q : Nat => s.heap.size ≤ q) b := Nat.not_le.mpr hbl
  have hL2 : L < 2 ^ 31 := by omega
  refine lv_aload_n hx hb dL_law_791 rfl (lv_at hl 1 rfl) ?_
  refine lv_aload_n hx hb dL_law_792 rfl (lv_at hl 0 rfl) ?_
  refine lv_iload_n hx hb dL_law_793 rfl (lv_at hl 3 rfl) ?_
  refine lv_iconst (v := nI 1) hx hb dL_law_794 (by decide) ?_
  refine n_iadd (a := i) (b := 1) hx hb dL_law_795 ?_
  refine n_sld (k := (i + 1)) hx hb hX hbl hbA hS (by omega) hL2 dL_law_796 ?_
  have hPc : PP g (wX g x sh co ck ch cl vo vpa vma re rua rla rma rda sad cad tr ft np sl kd hg lk vn vp vm nr ru rl rm rd lane ml cel) _ := (P_l hP lz_wX)
  refine zcallM (w := wX g x sh co ck ch cl vo vpa vma re rua rla rma rda sad cad tr ft np sl kd hg lk vn vp vm nr ru rl rm rd lane ml cel) (va_runV (As := [.int (xs (i + 1))]) (rest := []) (b := x) S0 (c_X4_kinds l g x sh co ck ch cl vo vpa vma re rua rla rma rda sad cad tr ft np sl kd hg lk vn vp vm nr ru rl rm rd lane ml cel (xs (i + 1)) hG) (cwV 1 hts gL_law_X4_kinds rfl rfl rfl (by decide +kernel) ⟨by decide, by decide⟩) (zpreVM hK hP hD isX (cW_l lz_wX) ndX (va_recv hK.1 hPc (ci := 4) (q0 := 0) rfl rfl)) rfl rfl hl.1 rfl (lv_room (Nat.le_of_ble_eq_true rfl)) dL_law_797 ⟨Nat.le_of_ble_eq_true rfl, Nat.le_of_ble_eq_true rfl⟩) hP hD hS isX (cW_l lz_wX) (fun (u797 : Unit) => wX g x sh co ck ch cl vo vpa vma re rua rla rma rda sad cad tr ft np sl kd hg lk vn vp vm nr ru rl rm rd lane ml cel ++ wM g y ya yb yc yd ye yf yg yh yi yj yk yl ft tr lane ml cel np sl kd hg ps rs rn rk rh lg fk gt tkn nr ru rl rm rd) (fun _ => lz_wX.trans lz_wX.symm) (fun _ => sW_l lz_wX lz_wX) (fun _ => adW_l (ad_wX.trans ad_wX.symm)) (fun r797 u797 H locs h797 hP hD hS => ?_)
  subst h797
  refine lv_aload_n hx hb dL_law_800 rfl (lv_at hl 2 rfl) ?_
  refine lv_aload_n hx hb dL_law_801 rfl (lv_at hl 0 rfl) ?_
  refine lv_iload_n hx hb dL_law_802 rfl (lv_at hl 3 rfl) ?_
  refine lv_iconst (v := nI 1) hx hb dL_law_803 (by decide) ?_
  refine n_iadd (a := i) (b := 1) hx hb dL_law_804 ?_
  refine n_sld (k := (i + 1)) hx hb hX hbl hbA hS (by omega) hL2 dL_law_805 ?_
  have hPc : PP g (wM g y ya yb yc yd ye yf yg yh yi yj yk yl ft tr lane ml cel np sl kd hg ps rs rn rk rh lg fk gt tkn nr ru rl rm rd) _ := (P_r hP lz_wX lz_wM)
  refine zcallM (w := wM g y ya yb yc yd ye yf yg yh yi yj yk yl ft tr lane ml cel np sl kd hg ps rs rn rk rh lg fk gt tkn nr ru rl rm rd) (va_runV (As := [.int (xs (i + 1))]) (rest := [.int (sp_kinds np sl kd hg nr ru rl rm rd (xs (i + 1)))]) (b := y) S0 (c_X5_kinds l g y ya yb yc yd ye yf yg yh yi yj yk yl ft tr lane ml cel np sl kd hg ps rs rn rk rh lg fk gt tkn nr ru rl rm rd (xs (i + 1)) hG) (cwV 1 hts gL_law_X5_kinds rfl rfl rfl (by decide +kernel) ⟨by decide, by decide⟩) (zpreVM hK hP hD isM (cW_r lz_wX lz_wM) ndM (va_recv hK.1 hPc (ci := 5) (q0 := 0) rfl rfl)) rfl rfl hl.1 rfl (lv_room (Nat.le_of_ble_eq_true rfl)) dL_law_806 ⟨Nat.le_of_ble_eq_true rfl, Nat.le_of_ble_eq_true rfl⟩) hP hD hS isM (cW_r lz_wX lz_wM) (fun (u806 : Unit) => wX g x sh co ck ch cl vo vpa vma re rua rla rma rda sad cad tr ft np sl kd hg lk vn vp vm nr ru rl rm rd lane ml cel ++ wM g y ya yb yc yd ye yf yg yh yi yj yk yl ft tr lane ml cel np sl kd hg ps rs rn rk rh lg fk gt tkn nr ru rl rm rd) (fun _ => lz_wM.trans lz_wM.symm) (fun _ => sW_r lz_wX lz_wM lz_wM) (fun _ => adW_r (ad_wM.trans ad_wM.symm)) (fun r806 u806 H locs h806 hP hD hS => ?_)
  subst h806
  refine lv_icmp_eq (tgt := 1215) hx hb dL_law_809 (by decide) (fun _ => ?_) (fun c9 => absurd rfl c9)
  exact next _ _ ls ⟨sh, co, ck, ch, cl, vo, vpa, vma, re, rua, rla, rma, rda, sad, cad, ya, yb, yc, yd, ye, yf, yg, yh, yi, yj, yk, yl, tr, ft, np, sl, kd, hg, nr, ru, rl, rm, rd, lane, ml, cel, lk, vn, vp, vm, ps, rs, rn, rk, rh, lg, fk, gt, tkn, hG, hP, hD, hS⟩ hl
