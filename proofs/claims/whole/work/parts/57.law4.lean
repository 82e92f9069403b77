set_option maxHeartbeats 4000000 in
set_option maxRecDepth 100000 in
theorem lawc_18 {P : Program} {l : Launch} {E : Env} {s : State} {mt : MethodId} {below : List Frame} {meth : Method} {cd : Code} {b L : Nat} {xs : Nat → Int32} {g : Gx} {x y : Nat} {Q : State → Prop} (hC : LawC P s mt cd b L xs g) {i : Nat} (hi : i + 7 ≤ L) {H : Heap} {locs : List Loc} {ls : Array Slot} (hI : LawI g s x y H locs) (hl : lv_has ls 4 [(0, .ref b), (1, .ref x), (2, .ref y), (3, .int (nI i))]) (next : ∀ (H : Heap) (locs : List Loc) (ls : Array Slot), LawI g s x y H locs → lv_has ls 4 [(0, .ref b), (1, .ref x), (2, .ref y), (3, .int (nI i))] → W P l E room_1 s mt [Value.ref b].toArray below meth cd H locs 35 734 Q (F0 mt 1215 ls [])) : W P l E room_1 s mt [Value.ref b].toArray below meth cd H locs 35 734 Q (F0 mt 814 ls []) := by
  obtain ⟨hx, hb, S0, hX, hbl, hK, hL⟩ := hC
  have hts := S0.2.2.2.2
  obtain ⟨sh, co, ck, ch, cl, vo, vpa, vma, re, rua, rla, rma, rda, sad, cad, ya, yb, yc, yd, ye, yf, yg, yh, yi, yj, yk, yl, tr, ft, np, sl, kd, hg, nr, ru, rl, rm, rd, lane, ml, cel, lk, vn, vp, vm, ps, rs, rn, rk, rh, lg, fk, gt, tkn, hG, hP, hD, hS⟩ := hI
  have hbA : ¬ (fun q : Nat => s.heap.size ≤ q) b := Nat.not_le.mpr hbl
  have hL2 : L < 2 ^ 31 := by omega
  refine lv_aload_n hx hb dL_law_814 rfl (lv_at hl 1 rfl) ?_
  have hPc : PP g (wX g x sh co ck ch cl vo vpa vma re rua rla rma rda sad cad tr ft np sl kd hg lk vn vp vm nr ru rl rm rd lane ml cel) _ := (P_l hP lz_wX)
  refine zcallM (w := wX g x sh co ck ch cl vo vpa vma re rua rla rma rda sad cad tr ft np sl kd hg lk vn vp vm nr ru rl rm rd lane ml cel) (va_runV (As := []) (rest := []) (b := x) S0 (c_X4_slacks l g x sh co ck ch cl vo vpa vma re rua rla rma rda sad cad tr ft np sl kd hg lk vn vp vm nr ru rl rm rd lane ml cel hG) (cwV 0 hts gL_law_X4_slacks rfl rfl rfl (by decide +kernel) ⟨by decide, by decide⟩) (zpreVM hK hP hD isX (cW_l lz_wX) ndX (va_recv hK.1 hPc (ci := 4) (q0 := 0) rfl rfl)) rfl rfl hl.1 rfl (lv_room (Nat.le_of_ble_eq_true rfl)) dL_law_815 ⟨Nat.le_of_ble_eq_true rfl, Nat.le_of_ble_eq_true rfl⟩) hP hD hS isX (cW_l lz_wX) (fun (u815 : Unit) => wX g x sh co ck ch cl vo vpa vma re rua rla rma rda sad cad tr ft np sl kd hg lk vn vp vm nr ru rl rm rd lane ml cel ++ wM g y ya yb yc yd ye yf yg yh yi yj yk yl ft tr lane ml cel np sl kd hg ps rs rn rk rh lg fk gt tkn nr ru rl rm rd) (fun _ => lz_wX.trans lz_wX.symm) (fun _ => sW_l lz_wX lz_wX) (fun _ => adW_l (ad_wX.trans ad_wX.symm)) (fun r815 u815 H locs h815 hP hD hS => ?_)
  subst h815
  refine lv_aload_n hx hb dL_law_818 rfl (lv_at hl 2 rfl) ?_
  have hPc : PP g (wM g y ya yb yc yd ye yf yg yh yi yj yk yl ft tr lane ml cel np sl kd hg ps rs rn rk rh lg fk gt tkn nr ru rl rm rd) _ := (P_r hP lz_wX lz_wM)
  refine zcallM (w := wM g y ya yb yc yd ye yf yg yh yi yj yk yl ft tr lane ml cel np sl kd hg ps rs rn rk rh lg fk gt tkn nr ru rl rm rd) (va_runV (As := []) (rest := [.int (sp_slacks np kd hg nr ru rl rm rd)]) (b := y) S0 (c_X5_slacks l g y ya yb yc yd ye yf yg yh yi yj yk yl ft tr lane ml cel np sl kd hg ps rs rn rk rh lg fk gt tkn nr ru rl rm rd hG) (cwV 0 hts gL_law_X5_slacks rfl rfl rfl (by decide +kernel) ⟨by decide, by decide⟩) (zpreVM hK hP hD isM (cW_r lz_wX lz_wM) ndM (va_recv hK.1 hPc (ci := 5) (q0 := 0) rfl rfl)) rfl rfl hl.1 rfl (lv_room (Nat.le_of_ble_eq_true rfl)) dL_law_819 ⟨Nat.le_of_ble_eq_true rfl, Nat.le_of_ble_eq_true rfl⟩) hP hD hS isM (cW_r lz_wX lz_wM) (fun (u819 : Unit) => wX g x sh co ck ch cl vo vpa vma re rua rla rma rda sad cad tr ft np sl kd hg lk vn vp vm nr ru rl rm rd lane ml cel ++ wM g y ya yb yc yd ye yf yg yh yi yj yk yl ft tr lane ml cel np sl kd hg ps rs rn rk rh lg fk gt tkn nr ru rl rm rd) (fun _ => lz_wM.trans lz_wM.symm) (fun _ => sW_r lz_wX lz_wM lz_wM) (fun _ => adW_r (ad_wM.trans ad_wM.symm)) (fun r819 u819 H locs h819 hP hD hS => ?_)
  subst h819
  refine lv_icmp_eq (tgt := 1215) hx hb dL_law_822 (by decide) (fun _ => ?_) (fun c9 => absurd rfl c9)
  exact next _ _ ls ⟨sh, co, ck, ch, cl, vo, vpa, vma, re, rua, rla, rma, rda, sad, cad, ya, yb, yc, yd, ye, yf, yg, yh, yi, yj, yk, yl, tr, ft, np, sl, kd, hg, nr, ru, rl, rm, rd, lane, ml, cel, lk, vn, vp, vm, ps, rs, rn, rk, rh, lg, fk, gt, tkn, hG, hP, hD, hS⟩ hl

set_option maxHeartbeats 4000000 in
set_option maxRecDepth 100000 in
theorem lawc_19 {P : Program} {l : Launch} {E : Env} {s : State} {mt : MethodId} {below : List Frame} {meth : Method} {cd : Code} {b L : Nat} {xs : Nat → Int32} {g : Gx} {x y : Nat} {Q : State → Prop} (hC : LawC P s mt cd b L xs g) {i : Nat} (hi : i + 7 ≤ L) {H : Heap} {locs : List Loc} {ls : Array Slot} (hI : LawI g s x y H locs) (hl : lv_has ls 4 [(0, .ref b), (1, .ref x), (2, .ref y), (3, .int (nI i))]) (next : ∀ (H : Heap) (locs : List Loc) (ls : Array Slot), LawI g s x y H locs → lv_has ls 4 [(0, .ref b), (1, .ref x), (2, .ref y), (3, .int (nI i))] → W P l E room_1 s mt [Value.ref b].toArray below meth cd H locs 35 734 Q (F0 mt 1215 ls [])) : W P l E room_1 s mt [Value.ref b].toArray below meth cd H locs 35 734 Q (F0 mt 827 ls []) := by
  obtain ⟨hx, hb, S0, hX, hbl, hK, hL⟩ := hC
  have hts := S0.2.2.2.2
  obtain ⟨sh, co, ck, ch, cl, vo, vpa, vma, re, rua, rla, rma, rda, sad, cad, ya, yb, yc, yd, ye, yf, yg, yh, yi, yj, yk, yl, tr, ft, np, sl, kd, hg, nr, ru, rl, rm, rd, lane, ml, cel, lk, vn, vp, vm, ps, rs, rn, rk, rh, lg, fk, gt, tkn, hG, hP, hD, hS⟩ := hI
  have hbA : ¬ (fun q : Nat => s.heap.size ≤ q) b := Nat.not_le.mpr hbl
  have hL2 : L < 2 ^ 31 := by omega
  refine lv_aload_n hx hb dL_law_827 rfl (lv_at hl 1 rfl) ?_
  refine lv_aload_n hx hb dL_law_828 rfl (lv_at hl 0 rfl) ?_
  refine lv_iload_n hx hb dL_law_829 rfl (lv_at hl 3 rfl) ?_
  refine lv_iconst (v := nI 1) hx hb dL_law_830 (by decide) ?_
  refine n_iadd (a := i) (b := 1) hx hb dL_law_831 ?_
  refine n_sld (k := (i + 1)) hx hb hX hbl hbA hS (by omega) hL2 dL_law_832 ?_
  refine lv_aload_n hx hb dL_law_833 rfl (lv_at hl 0 rfl) ?_
  refine lv_iload_n hx hb dL_law_834 rfl (lv_at hl 3 rfl) ?_
  refine lv_iconst (v := nI 2) hx hb dL_law_835 (by decide) ?_
  refine n_iadd (a := i) (b := 2) hx hb dL_law_836 ?_
  refine n_sld (k := (i + 2)) hx hb hX hbl hbA hS (by omega) hL2 dL_law_837 ?_
  refine lv_aload_n hx hb dL_law_838 rfl (lv_at hl 0 rfl) ?_
  refine lv_iload_n hx hb dL_law_839 rfl (lv_at hl 3 rfl) ?_
  refine lv_iconst (v := nI 3) hx hb dL_law_840 (by decide) ?_
  refine n_iadd (a := i) (b := 3) hx hb dL_law_841 ?_
  refine n_sld (k := (i + 3)) hx hb hX hbl hbA hS (by omega) hL2 dL_law_842 ?_
  have hPc : PP g (wX g x sh co ck ch cl vo vpa vma re rua rla rma rda sad cad tr ft np sl kd hg lk vn vp vm nr ru rl rm rd lane ml cel) _ := (P_l hP lz_wX)
  refine zcallRL (va_runV (As := [.int (xs (i + 1)), .int (xs (i + 2)), .int (xs (i + 3))]) (rest := []) (b := x) S0 (c_X4_odds l g x sh co ck ch cl vo vpa vma re rua rla rma rda sad cad tr ft np sl kd hg lk vn vp vm nr ru rl rm rd lane ml cel (xs (i + 1)) (xs (i + 2)) (xs (i + 3)) hG) (cwV 3 hts gL_law_X4_odds rfl rfl rfl (by decide +kernel) ⟨by decide, by decide⟩) (zpreV hK hPc (va_recv hK.1 hPc (ci := 4) (q0 := 0) rfl rfl)) rfl rfl hl.1 rfl (lv_room (Nat.le_of_ble_eq_true rfl)) dL_law_843 ⟨Nat.le_of_ble_eq_true rfl, Nat.le_of_ble_eq_true rfl⟩) (fun r843 h843 => ?_)
  subst h843
  refine lv_aload_n hx hb dL_law_846 rfl (lv_at hl 2 rfl) ?_
  refine lv_aload_n hx hb dL_law_847 rfl (lv_at hl 0 rfl) ?_
  refine lv_iload_n hx hb dL_law_848 rfl (lv_at hl 3 rfl) ?_
  refine lv_iconst (v := nI 1) hx hb dL_law_849 (by decide) ?_
  refine n_iadd (a := i) (b := 1) hx hb dL_law_850 ?_
  refine n_sld (k := (i + 1)) hx hb hX hbl hbA hS (by omega) hL2 dL_law_851 ?_
  refine lv_aload_n hx hb dL_law_852 rfl (lv_at hl 0 rfl) ?_
  refine lv_iload_n hx hb dL_law_853 rfl (lv_at hl 3 rfl) ?_
  refine lv_iconst (v := nI 2) hx hb dL_law_854 (by decide) ?_
  refine n_iadd (a := i) (b := 2) hx hb dL_law_855 ?_
  refine n_sld (k := (i + 2)) hx hb hX hbl hbA hS (by omega) hL2 dL_law_856 ?_
  refine lv_aload_n hx hb dL_law_857 rfl (lv_at hl 0 rfl) ?_
  refine lv_iload_n hx hb dL_law_858 rfl (lv_at hl 3 rfl) ?_
  refine lv_iconst (v := nI 3) hx hb dL_law_859 (by decide) ?_
  refine n_iadd (a := i) (b := 3) hx hb dL_law_860 ?_
  refine n_sld (k := (i + 3)) hx hb hX hbl hbA hS (by omega) hL2 dL_law_861 ?_
  have hPc : PP g (wM g y ya yb yc yd ye yf yg yh yi yj yk yl ft tr lane ml cel np sl kd hg ps rs rn rk rh lg fk gt tkn nr ru rl rm rd) _ := (P_r hP lz_wX lz_wM)
  refine zcallRL (va_runV (As := [.int (xs (i + 1)), .int (xs (i + 2)), .int (xs (i + 3))]) (rest := [.long (sp_odds np sl kd hg (xs (i + 1)) (xs (i + 2)) (xs (i + 3)))]) (b := y) S0 (c_X5_odds l g y ya yb yc yd ye yf yg yh yi yj yk yl ft tr lane ml cel np sl kd hg ps rs rn rk rh lg fk gt tkn nr ru rl rm rd (xs (i + 1)) (xs (i + 2)) (xs (i + 3)) hG) (cwV 3 hts gL_law_X5_odds rfl rfl rfl (by decide +kernel) ⟨by decide, by decide⟩) (zpreV hK hPc (va_recv hK.1 hPc (ci := 5) (q0 := 0) rfl rfl)) rfl rfl hl.1 rfl (lv_room (Nat.le_of_ble_eq_true rfl)) dL_law_862 ⟨Nat.le_of_ble_eq_true rfl, Nat.le_of_ble_eq_true rfl⟩) (fun r862 h862 => ?_)
  subst h862
  refine W.lcmp hx hb dL_law_865 ?_
  refine lv_if_eq (tgt := 1215) hx hb dL_law_866 (by decide) (fun _ => ?_) (fun c9 => absurd (lcmp_rf _) c9)
  exact next _ _ ls ⟨sh, co, ck, ch, cl, vo, vpa, vma, re, rua, rla, rma, rda, sad, cad, ya, yb, yc, yd, ye, yf, yg, yh, yi, yj, yk, yl, tr, ft, np, sl, kd, hg, nr, ru, rl, rm, rd, lane, ml, cel, lk, vn, vp, vm, ps, rs, rn, rk, rh, lg, fk, gt, tkn, hG, hP, hD, hS⟩ hl

set_option maxHeartbeats 4000000 in
set_option maxRecDepth 100000 in
theorem lawc_20 {P : Program} {l : Launch} {E : Env} {s : State} {mt : MethodId} {below : List Frame} {meth : Method} {cd : Code} {b L : Nat} {xs : Nat → Int32} {g : Gx} {x y : Nat} {Q : State → Prop} (hC : LawC P s mt cd b L xs g) {i : Nat} (hi : i + 7 ≤ L) {H : Heap} {locs : List Loc} {ls : Array Slot} (hI : LawI g s x y H locs) (hl : lv_has ls 4 [(0, .ref b), (1, .ref x), (2, .ref y), (3, .int (nI i))]) (next : ∀ (H : Heap) (locs : List Loc) (ls : Array Slot), LawI g s x y H locs → lv_has ls 4 [(0, .ref b), (1, .ref x), (2, .ref y), (3, .int (nI i))] → W P l E room_1 s mt [Value.ref b].toArray below meth cd H locs 35 734 Q (F0 mt 1215 ls [])) : W P l E room_1 s mt [Value.ref b].toArray below meth cd H locs 35 734 Q (F0 mt 871 ls []) := by
  obtain ⟨hx, hb, S0, hX, hbl, hK, hL⟩ := hC
  have hts := S0.2.2.2.2
  obtain ⟨sh, co, ck, ch, cl, vo, vpa, vma, re, rua, rla, rma, rda, sad, cad, ya, yb, yc, yd, ye, yf, yg, yh, yi, yj, yk, yl, tr, ft, np, sl, kd, hg, nr, ru, rl, rm, rd, lane, ml, cel, lk, vn, vp, vm, ps, rs, rn, rk, rh, lg, fk, gt, tkn, hG, hP, hD, hS⟩ := hI
  have hbA : ¬ (fun q : Nat => s.heap.size ≤ q) b := Nat.not_le.mpr hbl
  have hL2 : L < 2 ^ 31 := by omega
  refine lv_aload_n hx hb dL_law_871 rfl (lv_at hl 1 rfl) ?_
  refine lv_aload_n hx hb dL_law_872 rfl (lv_at hl 0 rfl) ?_
  refine lv_iload_n hx hb dL_law_873 rfl (lv_at hl 3 rfl) ?_
  refine lv_iconst (v := nI 1) hx hb dL_law_874 (by decide) ?_
  refine n_iadd (a := i) (b := 1) hx hb dL_law_875 ?_
  refine n_sld (k := (i + 1)) hx hb hX hbl hbA hS (by omega) hL2 dL_law_876 ?_
  refine lv_aload_n hx hb dL_law_877 rfl (lv_at hl 0 rfl) ?_
  refine lv_iload_n hx hb dL_law_878 rfl (lv_at hl 3 rfl) ?_
  refine lv_iconst (v := nI 2) hx hb dL_law_879 (by decide) ?_
  refine n_iadd (a := i) (b := 2) hx hb dL_law_880 ?_
  refine n_sld (k := (i + 2)) hx hb hX hbl hbA hS (by omega) hL2 dL_law_881 ?_
  refine lv_aload_n hx hb dL_law_882 rfl (lv_at hl 0 rfl) ?_
  refine lv_iload_n hx hb dL_law_883 rfl (lv_at hl 3 rfl) ?_
  refine lv_iconst (v := nI 3) hx hb dL_law_884 (by decide) ?_
  refine n_iadd (a := i) (b := 3) hx hb dL_law_885 ?_
  refine n_sld (k := (i + 3)) hx hb hX hbl hbA hS (by omega) hL2 dL_law_886 ?_
  have hPc : PP g (wX g x sh co ck ch cl vo vpa vma re rua rla rma rda sad cad tr ft np sl kd hg lk vn vp vm nr ru rl rm rd lane ml cel) _ := (P_l hP lz_wX)
  refine zcallM (w := wX g x sh co ck ch cl vo vpa vma re rua rla rma rda sad cad tr ft np sl kd hg lk vn vp vm nr ru rl rm rd lane ml cel) (va_runV (As := [.int (xs (i + 1)), .int (xs (i + 2)), .int (xs (i + 3))]) (rest := []) (b := x) S0 (c_X4_sheet l g x sh co ck ch cl vo vpa vma re rua rla rma rda sad cad tr ft np sl kd hg lk vn vp vm nr ru rl rm rd lane ml cel (xs (i + 1)) (xs (i + 2)) (xs (i + 3)) hG) (cwV 3 hts gL_law_X4_sheet rfl rfl rfl (by decide +kernel) ⟨by decide, by decide⟩) (zpreVM hK hP hD isX (cW_l lz_wX) ndX (va_recv hK.1 hPc (ci := 4) (q0 := 0) rfl rfl)) rfl rfl hl.1 rfl (lv_room (Nat.le_of_ble_eq_true rfl)) dL_law_887 ⟨Nat.le_of_ble_eq_true rfl, Nat.le_of_ble_eq_true rfl⟩) hP hD hS isX (cW_l lz_wX) (fun (u887 : Unit) => wX g x sh co ck ch cl vo vpa vma re rua rla rma rda sad cad tr (ft_sheet (xs (i + 1)) (xs (i + 2)) (xs (i + 3))) np sl kd hg lk vn vp vm nr ru rl rm rd (st_lane lane (xs (i + 1)) (xs (i + 2)) (xs (i + 3))) (st_ml ml (xs (i + 1)) (xs (i + 2)) (xs (i + 3))) (st_cel cel (xs (i + 1)) (xs (i + 2)) (xs (i + 3))) ++ wM g y ya yb yc yd ye yf yg yh yi yj yk yl ft tr lane ml cel np sl kd hg ps rs rn rk rh lg fk gt tkn nr ru rl rm rd) (fun _ => lz_wX.trans lz_wX.symm) (fun _ => sW_l lz_wX lz_wX) (fun _ => adW_l (ad_wX.trans ad_wX.symm)) (fun r887 u887 H locs h887 hP hD hS => ?_)
  subst h887
  refine lv_aload_n hx hb dL_law_890 rfl (lv_at hl 2 rfl) ?_
  refine lv_aload_n hx hb dL_law_891 rfl (lv_at hl 0 rfl) ?_
  refine lv_iload_n hx hb dL_law_892 rfl (lv_at hl 3 rfl) ?_
  refine lv_iconst (v := nI 1) hx hb dL_law_893 (by decide) ?_
  refine n_iadd (a := i) (b := 1) hx hb dL_law_894 ?_
  refine n_sld (k := (i + 1)) hx hb hX hbl hbA hS (by omega) hL2 dL_law_895 ?_
  refine lv_aload_n hx hb dL_law_896 rfl (lv_at hl 0 rfl) ?_
  refine lv_iload_n hx hb dL_law_897 rfl (lv_at hl 3 rfl) ?_
  refine lv_iconst (v := nI 2) hx hb dL_law_898 (by decide) ?_
  refine n_iadd (a := i) (b := 2) hx hb dL_law_899 ?_
  refine n_sld (k := (i + 2)) hx hb hX hbl hbA hS (by omega) hL2 dL_law_900 ?_
  refine lv_aload_n hx hb dL_law_901 rfl (lv_at hl 0 rfl) ?_
  refine lv_iload_n hx hb dL_law_902 rfl (lv_at hl 3 rfl) ?_
  refine lv_iconst (v := nI 3) hx hb dL_law_903 (by decide) ?_
  refine n_iadd (a := i) (b := 3) hx hb dL_law_904 ?_
  refine n_sld (k := (i + 3)) hx hb hX hbl hbA hS (by omega) hL2 dL_law_905 ?_
  have hPc : PP g (wM g y ya yb yc yd ye yf yg yh yi yj yk yl ft tr lane ml cel np sl kd hg ps rs rn rk rh lg fk gt tkn nr ru rl rm rd) _ := (P_r hP lz_wX lz_wM)
  refine zcallM (w := wM g y ya yb yc yd ye yf yg yh yi yj yk yl ft tr lane ml cel np sl kd hg ps rs rn rk rh lg fk gt tkn nr ru rl rm rd) (va_runV (As := [.int (xs (i + 1)), .int (xs (i + 2)), .int (xs (i + 3))]) (rest := [.int (sp_sheet (xs (i + 1)) (xs (i + 2)) (xs (i + 3)))]) (b := y) S0 (c_X5_sheet l g y ya yb yc yd ye yf yg yh yi yj yk yl ft tr lane ml cel np sl kd hg ps rs rn rk rh lg fk gt tkn nr ru rl rm rd (xs (i + 1)) (xs (i + 2)) (xs (i + 3)) hG) (cwV 3 hts gL_law_X5_sheet rfl rfl rfl (by decide +kernel) ⟨by decide, by decide⟩) (zpreVM hK hP hD isM (cW_r lz_wX lz_wM) ndM (va_recv hK.1 hPc (ci := 5) (q0 := 0) rfl rfl)) rfl rfl hl.1 rfl (lv_room (Nat.le_of_ble_eq_true rfl)) dL_law_906 ⟨Nat.le_of_ble_eq_true rfl, Nat.le_of_ble_eq_true rfl⟩) hP hD hS isM (cW_r lz_wX lz_wM) (fun (u906 : Unit) => wX g x sh co ck ch cl vo vpa vma re rua rla rma rda sad cad tr (ft_sheet (xs (i + 1)) (xs (i + 2)) (xs (i + 3))) np sl kd hg lk vn vp vm nr ru rl rm rd (st_lane lane (xs (i + 1)) (xs (i + 2)) (xs (i + 3))) (st_ml ml (xs (i + 1)) (xs (i + 2)) (xs (i + 3))) (st_cel cel (xs (i + 1)) (xs (i + 2)) (xs (i + 3))) ++ wM g y ya yb yc yd ye yf yg yh yi yj yk yl (ft_sheet (xs (i + 1)) (xs (i + 2)) (xs (i + 3))) tr (st_lane lane (xs (i + 1)) (xs (i + 2)) (xs (i + 3))) (st_ml ml (xs (i + 1)) (xs (i + 2)) (xs (i + 3))) (st_cel cel (xs (i + 1)) (xs (i + 2)) (xs (i + 3))) np sl kd hg ps rs rn rk rh lg fk gt tkn nr ru rl rm rd) (fun _ => lz_wM.trans lz_wM.symm) (fun _ => sW_r lz_wX lz_wM lz_wM) (fun _ => adW_r (ad_wM.trans ad_wM.symm)) (fun r906 u906 H locs h906 hP hD hS => ?_)
  subst h906
  refine lv_icmp_eq (tgt := 1215) hx hb dL_law_909 (by decide) (fun _ => ?_) (fun c9 => absurd rfl c9)
  exact next _ _ ls ⟨sh, co, ck, ch, cl, vo, vpa, vma, re, rua, rla, rma, rda, sad, cad, ya, yb, yc, yd, ye, yf, yg, yh, yi, yj, yk, yl, tr, ft_sheet (xs (i + 1)) (xs (i + 2)) (xs (i + 3)), np, sl, kd, hg, nr, ru, rl, rm, rd, st_lane lane (xs (i + 1)) (xs (i + 2)) (xs (i + 3)), st_ml ml (xs (i + 1)) (xs (i + 2)) (xs (i + 3)), st_cel cel (xs (i + 1)) (xs (i + 2)) (xs (i + 3)), lk, vn, vp, vm, ps, rs, rn, rk, rh, lg, fk, gt, tkn, (Gd_sheet hG (xs (i + 1)) (xs (i + 2)) (xs (i + 3))), hP, hD, hS⟩ hl

set_option maxHeartbeats 4000000 in
set_option maxRecDepth 100000 in
theorem lawc_21 {P : Program} {l : Launch} {E : Env} {s : State} {mt : MethodId} {below : List Frame} {meth : Method} {cd : Code} {b L : Nat} {xs : Nat → Int32} {g : Gx} {x y : Nat} {Q : State → Prop} (hC : LawC P s mt cd b L xs g) {i : Nat} (hi : i + 7 ≤ L) {H : Heap} {locs : List Loc} {ls : Array Slot} (hI : LawI g s x y H locs) (hl : lv_has ls 4 [(0, .ref b), (1, .ref x), (2, .ref y), (3, .int (nI i))]) (next : ∀ (H : Heap) (locs : List Loc) (ls : Array Slot), LawI g s x y H locs → lv_has ls 4 [(0, .ref b), (1, .ref x), (2, .ref y), (3, .int (nI i))] → W P l E room_1 s mt [Value.ref b].toArray below meth cd H locs 35 734 Q (F0 mt 1215 ls [])) : W P l E room_1 s mt [Value.ref b].toArray below meth cd H locs 35 734 Q (F0 mt 914 ls []) := by
  obtain ⟨hx, hb, S0, hX, hbl, hK, hL⟩ := hC
  have hts := S0.2.2.2.2
  obtain ⟨sh, co, ck, ch, cl, vo, vpa, vma, re, rua, rla, rma, rda, sad, cad, ya, yb, yc, yd, ye, yf, yg, yh, yi, yj, yk, yl, tr, ft, np, sl, kd, hg, nr, ru, rl, rm, rd, lane, ml, cel, lk, vn, vp, vm, ps, rs, rn, rk, rh, lg, fk, gt, tkn, hG, hP, hD, hS⟩ := hI
  have hbA : ¬ (fun q : Nat => s.heap.size ≤ q) b := Nat.not_le.mpr hbl
  have hL2 : L < 2 ^ 31 := by omega
  refine lv_aload_n hx hb dL_law_914 rfl (lv_at hl 1 rfl) ?_
  refine lv_aload_n hx hb dL_law_915 rfl (lv_at hl 0 rfl) ?_
  refine lv_iload_n hx hb dL_law_916 rfl (lv_at hl 3 rfl) ?_
  refine lv_iconst (v := nI 1) hx hb dL_law_917 (by decide) ?_
  refine n_iadd (a := i) (b := 1) hx hb dL_law_918 ?_
  refine n_sld (k := (i + 1)) hx hb hX hbl hbA hS (by omega) hL2 dL_law_919 ?_
  have hPc : PP g (wX g x sh co ck ch cl vo vpa vma re rua rla rma rda sad cad tr ft np sl kd hg lk vn vp vm nr ru rl rm rd lane ml cel) _ := (P_l hP lz_wX)
  refine zcallM (w := wX g x sh co ck ch cl vo vpa vma re rua rla rma rda sad cad tr ft np sl kd hg lk vn vp vm nr ru rl rm rd lane ml cel) (va_runV (As := [.int (xs (i + 1))]) (rest := []) (b := x) S0 (c_X4_lose l g x sh co ck ch cl vo vpa vma re rua rla rma rda sad cad tr ft np sl kd hg lk vn vp vm nr ru rl rm rd lane ml cel (xs (i + 1)) hG) (cwV 1 hts gL_law_X4_lose rfl rfl rfl (by decide +kernel) ⟨by decide, by decide⟩) (zpreVM hK hP hD isX (cW_l lz_wX) ndX (va_recv hK.1 hPc (ci := 4) (q0 := 0) rfl rfl)) rfl rfl hl.1 rfl (lv_room (Nat.le_of_ble_eq_true rfl)) dL_law_920 ⟨Nat.le_of_ble_eq_true rfl, Nat.le_of_ble_eq_true rfl⟩) hP hD hS isX (cW_l lz_wX) (fun (u920 : Unit) => wX g x sh co ck ch cl vo vpa vma re rua rla rma rda sad cad tr ft np sl kd hg lk vn vp vm nr ru rl rm rd (st_lose lane (xs (i + 1))) ml cel ++ wM g y ya yb yc yd ye yf yg yh yi yj yk yl ft tr lane ml cel np sl kd hg ps rs rn rk rh lg fk gt tkn nr ru rl rm rd) (fun _ => lz_wX.trans lz_wX.symm) (fun _ => sW_l lz_wX lz_wX) (fun _ => adW_l (ad_wX.trans ad_wX.symm)) (fun r920 u920 H locs h920 hP hD hS => ?_)
  subst h920
  refine lv_aload_n hx hb dL_law_923 rfl (lv_at hl 2 rfl) ?_
  refine lv_aload_n hx hb dL_law_924 rfl (lv_at hl 0 rfl) ?_
  refine lv_iload_n hx hb dL_law_925 rfl (lv_at hl 3 rfl) ?_
  refine lv_iconst (v := nI 1) hx hb dL_law_926 (by decide) ?_
  refine n_iadd (a := i) (b := 1) hx hb dL_law_927 ?_
  refine n_sld (k := (i + 1)) hx hb hX hbl hbA hS (by omega) hL2 dL_law_928 ?_
  have hPc : PP g (wM g y ya yb yc yd ye yf yg yh yi yj yk yl ft tr lane ml cel np sl kd hg ps rs rn rk rh lg fk gt tkn nr ru rl rm rd) _ := (P_r hP lz_wX lz_wM)
  refine zcallM (w := wM g y ya yb yc yd ye yf yg yh yi yj yk yl ft tr lane ml cel np sl kd hg ps rs rn rk rh lg fk gt tkn nr ru rl rm rd) (va_runV (As := [.int (xs (i + 1))]) (rest := [.int (sp_lose lane (xs (i + 1)))]) (b := y) S0 (c_X5_lose l g y ya yb yc yd ye yf yg yh yi yj yk yl ft tr lane ml cel np sl kd hg ps rs rn rk rh lg fk gt tkn nr ru rl rm rd (xs (i + 1)) hG) (cwV 1 hts gL_law_X5_lose rfl rfl rfl (by decide +kernel) ⟨by decide, by decide⟩) (zpreVM hK hP hD isM (cW_r lz_wX lz_wM) ndM (va_recv hK.1 hPc (ci := 5) (q0 := 0) rfl rfl)) rfl rfl hl.1 rfl (lv_room (Nat.le_of_ble_eq_true rfl)) dL_law_929 ⟨Nat.le_of_ble_eq_true rfl, Nat.le_of_ble_eq_true rfl⟩) hP hD hS isM (cW_r lz_wX lz_wM) (fun (u929 : Unit) => wX g x sh co ck ch cl vo vpa vma re rua rla rma rda sad cad tr ft np sl kd hg lk vn vp vm nr ru rl rm rd (st_lose lane (xs (i + 1))) ml cel ++ wM g y ya yb yc yd ye yf yg yh yi yj yk yl ft tr (st_lose lane (xs (i + 1))) ml cel np sl kd hg ps rs rn rk rh lg fk gt tkn nr ru rl rm rd) (fun _ => lz_wM.trans lz_wM.symm) (fun _ => sW_r lz_wX lz_wM lz_wM) (fun _ => adW_r (ad_wM.trans ad_wM.symm)) (fun r929 u929 H locs h929 hP hD hS => ?_)
  subst h929
  refine lv_icmp_eq (tgt := 1215) hx hb dL_law_932 (by decide) (fun _ => ?_) (fun c9 => absurd rfl c9)
  exact next _ _ ls ⟨sh, co, ck, ch, cl, vo, vpa, vma, re, rua, rla, rma, rda, sad, cad, ya, yb, yc, yd, ye, yf, yg, yh, yi, yj, yk, yl, tr, ft, np, sl, kd, hg, nr, ru, rl, rm, rd, st_lose lane (xs (i + 1)), ml, cel, lk, vn, vp, vm, ps, rs, rn, rk, rh, lg, fk, gt, tkn, (Gd_lose hG (xs (i + 1))), hP, hD, hS⟩ hl

set_option maxHeartbeats 4000000 in
set_option maxRecDepth 100000 in
theorem lawc_22 {P : Program} {l : Launch} {E : Env} {s : State} {mt : MethodId} {below : List Frame} {meth : Method} {cd : Code} {b L : Nat} {xs : Nat → Int32} {g : Gx} {x y : Nat} {Q : State → Prop} (hC : LawC P s mt cd b L xs g) {i : Nat} (hi : i + 7 ≤ L) {H : Heap} {locs : List Loc} {ls : Array Slot} (hI : LawI g s x y H locs) (hl : lv_has ls 4 [(0, .ref b), (1, .ref x), (2, .ref y), (3, .int (nI i))]) (next : ∀ (H : Heap) (locs : List Loc) (ls : Array Slot), LawI g s x y H locs → lv_has ls 4 [(0, .ref b), (1, .ref x), (2, .ref y), (3, .int (nI i))] → W P l E room_1 s mt [Value.ref b].toArray below meth cd H locs 35 734 Q (F0 mt 1215 ls [])) : W P l E room_1 s mt [Value.ref b].toArray below meth cd H locs 35 734 Q (F0 mt 937 ls []) := by
  obtain ⟨hx, hb, S0, hX, hbl, hK, hL⟩ := hC
  have hts := S0.2.2.2.2
  obtain ⟨sh, co, ck, ch, cl, vo, vpa, vma, re, rua, rla, rma, rda, sad, cad, ya, yb, yc, yd, ye, yf, yg, yh, yi, yj, yk, yl, tr, ft, np, sl, kd, hg, nr, ru, rl, rm, rd, lane, ml, cel, lk, vn, vp, vm, ps, rs, rn, rk, rh, lg, fk, gt, tkn, hG, hP, hD, hS⟩ := hI
  have hbA : ¬ (fun q : Nat => s.heap.size ≤ q) b := Nat.not_le.mpr hbl
  have hL2 : L < 2 ^ 31 := by omega
  refine lv_aload_n hx hb dL_law_937 rfl (lv_at hl 1 rfl) ?_
  refine lv_aload_n hx hb dL_law_938 rfl (lv_at hl 0 rfl) ?_
  refine lv_iload_n hx hb dL_law_939 rfl (lv_at hl 3 rfl) ?_
  refine lv_iconst (v := nI 1) hx hb dL_law_940 (by decide) ?_
  refine n_iadd (a := i) (b := 1) hx hb dL_law_941 ?_
  refine n_sld (k := (i + 1)) hx hb hX hbl hbA hS (by omega) hL2 dL_law_942 ?_
  refine lv_aload_n hx hb dL_law_943 rfl (lv_at hl 0 rfl) ?_
  refine lv_iload_n hx hb dL_law_944 rfl (lv_at hl 3 rfl) ?_
  refine lv_iconst (v := nI 2) hx hb dL_law_945 (by decide) ?_
  refine n_iadd (a := i) (b := 2) hx hb dL_law_946 ?_
  refine n_sld (k := (i + 2)) hx hb hX hbl hbA hS (by omega) hL2 dL_law_947 ?_
  refine lv_aload_n hx hb dL_law_948 rfl (lv_at hl 0 rfl) ?_
  refine lv_iload_n hx hb dL_law_949 rfl (lv_at hl 3 rfl) ?_
  refine lv_iconst (v := nI 3) hx hb dL_law_950 (by decide) ?_
  refine n_iadd (a := i) (b := 3) hx hb dL_law_951 ?_
  refine n_sld (k := (i + 3)) hx hb hX hbl hbA hS (by omega) hL2 dL_law_952 ?_
  have hPc : PP g (wX g x sh co ck ch cl vo vpa vma re rua rla rma rda sad cad tr ft np sl kd hg lk vn vp vm nr ru rl rm rd lane ml cel) _ := (P_l hP lz_wX)
  refine zcallM (w := wX g x sh co ck ch cl vo vpa vma re rua rla rma rda sad cad tr ft np sl kd hg lk vn vp vm nr ru rl rm rd lane ml cel) (va_runV (As := [.int (xs (i + 1)), .int (xs (i + 2)), .int (xs (i + 3))]) (rest := []) (b := x) S0 (c_X4_put l g x sh co ck ch cl vo vpa vma re rua rla rma rda sad cad tr ft np sl kd hg lk vn vp vm nr ru rl rm rd lane ml cel (xs (i + 1)) (xs (i + 2)) (xs (i + 3)) hG) (cwV 3 hts gL_law_X4_put rfl rfl rfl (by decide +kernel) ⟨by decide, by decide⟩) (zpreVM hK hP hD isX (cW_l lz_wX) ndX (va_recv hK.1 hPc (ci := 4) (q0 := 0) rfl rfl)) rfl rfl hl.1 rfl (lv_room (Nat.le_of_ble_eq_true rfl)) dL_law_953 ⟨Nat.le_of_ble_eq_true rfl, Nat.le_of_ble_eq_true rfl⟩) hP hD hS isX (cW_l lz_wX) (fun (u953 : Unit) => wX g x sh co ck ch cl vo vpa vma re rua rla rma rda sad cad tr (ft_put lane ml (xs (i + 1)) (xs (i + 2))) np sl kd hg lk vn vp vm nr ru rl rm rd lane ml (st_put lane ml cel (xs (i + 1)) (xs (i + 2)) (xs (i + 3))) ++ wM g y ya yb yc yd ye yf yg yh yi yj yk yl ft tr lane ml cel np sl kd hg ps rs rn rk rh lg fk gt tkn nr ru rl rm rd) (fun _ => lz_wX.trans lz_wX.symm) (fun _ => sW_l lz_wX lz_wX) (fun _ => adW_l (ad_wX.trans ad_wX.symm)) (fun r953 u953 H locs h953 hP hD hS => ?_)
  subst h953
  refine lv_aload_n hx hb dL_law_956 rfl (lv_at hl 2 rfl) ?_
  refine lv_aload_n hx hb dL_law_957 rfl (lv_at hl 0 rfl) ?_
  refine lv_iload_n hx hb dL_law_958 rfl (lv_at hl 3 rfl) ?_
  refine lv_iconst (v := nI 1) hx hb dL_law_959 (by decide) ?_
  refine n_iadd (a := i) (b := 1) hx hb dL_law_960 ?_
  refine n_sld (k := (i + 1)) hx hb hX hbl hbA hS (by omega) hL2 dL_law_961 ?_
  refine lv_aload_n hx hb dL_law_962 rfl (lv_at hl 0 rfl) ?_
  refine lv_iload_n hx hb dL_law_963 rfl (lv_at hl 3 rfl) ?_
  refine lv_iconst (v := nI 2) hx hb dL_law_964 (by decide) ?_
  refine n_iadd (a := i) (b := 2) hx hb dL_law_965 ?_
  refine n_sld (k := (i + 2)) hx hb hX hbl hbA hS (by omega) hL2 dL_law_966 ?_
  refine lv_aload_n hx hb dL_law_967 rfl (lv_at hl 0 rfl) ?_
  refine lv_iload_n hx hb dL_law_968 rfl (lv_at hl 3 rfl) ?_
  refine lv_iconst (v := nI 3) hx hb dL_law_969 (by decide) ?_
  refine n_iadd (a := i) (b := 3) hx hb dL_law_970 ?_
  refine n_sld (k := (i + 3)) hx hb hX hbl hbA hS (by omega) hL2 dL_law_971 ?_
  have hPc : PP g (wM g y ya yb yc yd ye yf yg yh yi yj yk yl ft tr lane ml cel np sl kd hg ps rs rn rk rh lg fk gt tkn nr ru rl rm rd) _ := (P_r hP lz_wX lz_wM)
  refine zcallM (w := wM g y ya yb yc yd ye yf yg yh yi yj yk yl ft tr lane ml cel np sl kd hg ps rs rn rk rh lg fk gt tkn nr ru rl rm rd) (va_runV (As := [.int (xs (i + 1)), .int (xs (i + 2)), .int (xs (i + 3))]) (rest := [.int (sp_put lane ml (xs (i + 1)) (xs (i + 2)))]) (b := y) S0 (c_X5_put l g y ya yb yc yd ye yf yg yh yi yj yk yl ft tr lane ml cel np sl kd hg ps rs rn rk rh lg fk gt tkn nr ru rl rm rd (xs (i + 1)) (xs (i + 2)) (xs (i + 3)) hG) (cwV 3 hts gL_law_X5_put rfl rfl rfl (by decide +kernel) ⟨by decide, by decide⟩) (zpreVM hK hP hD isM (cW_r lz_wX lz_wM) ndM (va_recv hK.1 hPc (ci := 5) (q0 := 0) rfl rfl)) rfl rfl hl.1 rfl (lv_room (Nat.le_of_ble_eq_true rfl)) dL_law_972 ⟨Nat.le_of_ble_eq_true rfl, Nat.le_of_ble_eq_true rfl⟩) hP hD hS isM (cW_r lz_wX lz_wM) (fun (u972 : Unit) => wX g x sh co ck ch cl vo vpa vma re rua rla rma rda sad cad tr (ft_put lane ml (xs (i + 1)) (xs (i + 2))) np sl kd hg lk vn vp vm nr ru rl rm rd lane ml (st_put lane ml cel (xs (i + 1)) (xs (i + 2)) (xs (i + 3))) ++ wM g y ya yb yc yd ye yf yg yh yi yj yk yl (ft_put lane ml (xs (i + 1)) (xs (i + 2))) tr lane ml (st_put lane ml cel (xs (i + 1)) (xs (i + 2)) (xs (i + 3))) np sl kd hg ps rs rn rk rh lg fk gt tkn nr ru rl rm rd) (fun _ => lz_wM.trans lz_wM.symm) (fun _ => sW_r lz_wX lz_wM lz_wM) (fun _ => adW_r (ad_wM.trans ad_wM.symm)) (fun r972 u972 H locs h972 hP hD hS => ?_)
  subst h972
  refine lv_icmp_eq (tgt := 1215) hx hb dL_law_975 (by decide) (fun _ => ?_) (fun c9 => absurd rfl c9)
  exact next _ _ ls ⟨sh, co, ck, ch, cl, vo, vpa, vma, re, rua, rla, rma, rda, sad, cad, ya, yb, yc, yd, ye, yf, yg, yh, yi, yj, yk, yl, tr, ft_put lane ml (xs (i + 1)) (xs (i + 2)), np, sl, kd, hg, nr, ru, rl, rm, rd, lane, ml, st_put lane ml cel (xs (i + 1)) (xs (i + 2)) (xs (i + 3)), lk, vn, vp, vm, ps, rs, rn, rk, rh, lg, fk, gt, tkn, hG, hP, hD, hS⟩ hl

set_option maxHeartbeats 4000000 in
set_option maxRecDepth 100000 in
theorem lawc_23 {P : Program} {l : Launch} {E : Env} {s : State} {mt : MethodId} {below : List Frame} {meth : Method} {cd : Code} {b L : Nat} {xs : Nat → Int32} {g : Gx} {x y : Nat} {Q : State → Prop} (hC : LawC P s mt cd b L xs g) {i : Nat} (hi : i + 7 ≤ L) {H : Heap} {locs : List Loc} {ls : Array Slot} (hI : LawI g s x y H locs) (hl : lv_has ls 4 [(0, .ref b), (1, .ref x), (2, .ref y), (3, .int (nI i))]) (next : ∀ (H : Heap) (locs : List Loc) (ls : Array Slot), LawI g s x y H locs → lv_has ls 4 [(0, .ref b), (1, .ref x), (2, .ref y), (3, .int (nI i))] → W P l E room_1 s mt [Value.ref b].toArray below meth cd H locs 35 734 Q (F0 mt 1215 ls [])) : W P l E room_1 s mt [Value.ref b].toArray below meth cd H locs 35 734 Q (F0 mt 980 ls []) := by
  obtain ⟨hx, hb, S0, hX, hbl, hK, hL⟩ := hC
  have hts := S0.2.2.2.2
  obtain ⟨sh, co, ck, ch, cl, vo, vpa, vma, re, rua, rla, rma, rda, sad, cad, ya, yb, yc, yd, ye, yf, yg, yh, yi, yj, yk, yl, tr, ft, np, sl, kd, hg, nr, ru, rl, rm, rd, lane, ml, cel, lk, vn, vp, vm, ps, rs, rn, rk, rh, lg, fk, gt, tkn, hG, hP, hD, hS⟩ := hI
  have hbA : ¬ (fun q : Nat => s.heap.size ≤ q) b := Nat.not_le.mpr hbl
  have hL2 : L < 2 ^ 31 := by omega
  refine lv_aload_n hx hb dL_law_980 rfl (lv_at hl 1 rfl) ?_
  refine lv_aload_n hx hb dL_law_981 rfl (lv_at hl 0 rfl) ?_
  refine lv_iload_n hx hb dL_law_982 rfl (lv_at hl 3 rfl) ?_
  refine lv_iconst (v := nI 1) hx hb dL_law_983 (by decide) ?_
  refine n_iadd (a := i) (b := 1) hx hb dL_law_984 ?_
  refine n_sld (k := (i + 1)) hx hb hX hbl hbA hS (by omega) hL2 dL_law_985 ?_
  refine lv_aload_n hx hb dL_law_986 rfl (lv_at hl 0 rfl) ?_
  refine lv_iload_n hx hb dL_law_987 rfl (lv_at hl 3 rfl) ?_
  refine lv_iconst (v := nI 2) hx hb dL_law_988 (by decide) ?_
  refine n_iadd (a := i) (b := 2) hx hb dL_law_989 ?_
  refine n_sld (k := (i + 2)) hx hb hX hbl hbA hS (by omega) hL2 dL_law_990 ?_
  refine lv_aload_n hx hb dL_law_991 rfl (lv_at hl 0 rfl) ?_
  refine lv_iload_n hx hb dL_law_992 rfl (lv_at hl 3 rfl) ?_
  refine lv_iconst (v := nI 3) hx hb dL_law_993 (by decide) ?_
  refine n_iadd (a := i) (b := 3) hx hb dL_law_994 ?_
  refine n_sld (k := (i + 3)) hx hb hX hbl hbA hS (by omega) hL2 dL_law_995 ?_
  have hPc : PP g (wX g x sh co ck ch cl vo vpa vma re rua rla rma rda sad cad tr ft np sl kd hg lk vn vp vm nr ru rl rm rd lane ml cel) _ := (P_l hP lz_wX)
  refine zcallML (w := wX g x sh co ck ch cl vo vpa vma re rua rla rma rda sad cad tr ft np sl kd hg lk vn vp vm nr ru rl rm rd lane ml cel) (va_runV (As := [.int (xs (i + 1)), .int (xs (i + 2)), .int (xs (i + 3))]) (rest := []) (b := x) S0 (c_X4_cell l g x sh co ck ch cl vo vpa vma re rua rla rma rda sad cad tr ft np sl kd hg lk vn vp vm nr ru rl rm rd lane ml cel (xs (i + 1)) (xs (i + 2)) (xs (i + 3)) hG) (cwV 3 hts gL_law_X4_cell rfl rfl rfl (by decide +kernel) ⟨by decide, by decide⟩) (zpreVM hK hP hD isX (cW_l lz_wX) ndX (va_recv hK.1 hPc (ci := 4) (q0 := 0) rfl rfl)) rfl rfl hl.1 rfl (lv_room (Nat.le_of_ble_eq_true rfl)) dL_law_996 ⟨Nat.le_of_ble_eq_true rfl, Nat.le_of_ble_eq_true rfl⟩) hP hD hS isX (cW_l lz_wX) (fun (u996 : Unit) => wX g x sh co ck ch cl vo vpa vma re rua rla rma rda sad cad tr (ft_cell lane ml (xs (i + 1)) (xs (i + 2)) (xs (i + 3))) np sl kd hg lk vn vp vm nr ru rl rm rd lane ml cel ++ wM g y ya yb yc yd ye yf yg yh yi yj yk yl ft tr lane ml cel np sl kd hg ps rs rn rk rh lg fk gt tkn nr ru rl rm rd) (fun _ => lz_wX.trans lz_wX.symm) (fun _ => sW_l lz_wX lz_wX) (fun _ => adW_l (ad_wX.trans ad_wX.symm)) (fun r996 u996 H locs h996 hP hD hS => ?_)
  subst h996
  refine lv_aload_n hx hb dL_law_999 rfl (lv_at hl 2 rfl) ?_
  refine lv_aload_n hx hb dL_law_1000 rfl (lv_at hl 0 rfl) ?_
  refine lv_iload_n hx hb dL_law_1001 rfl (lv_at hl 3 rfl) ?_
  refine lv_iconst (v := nI 1) hx hb dL_law_1002 (by decide) ?_
  refine n_iadd (a := i) (b := 1) hx hb dL_law_1003 ?_
  refine n_sld (k := (i + 1)) hx hb hX hbl hbA hS (by omega) hL2 dL_law_1004 ?_
  refine lv_aload_n hx hb dL_law_1005 rfl (lv_at hl 0 rfl) ?_
  refine lv_iload_n hx hb dL_law_1006 rfl (lv_at hl 3 rfl) ?_
  refine lv_iconst (v := nI 2) hx hb dL_law_1007 (by decide) ?_
  refine n_iadd (a := i) (b := 2) hx hb dL_law_1008 ?_
  refine n_sld (k := (i + 2)) hx hb hX hbl hbA hS (by omega) hL2 dL_law_1009 ?_
  refine lv_aload_n hx hb dL_law_1010 rfl (lv_at hl 0 rfl) ?_
  refine lv_iload_n hx hb dL_law_1011 rfl (lv_at hl 3 rfl) ?_
  refine lv_iconst (v := nI 3) hx hb dL_law_1012 (by decide) ?_
  refine n_iadd (a := i) (b := 3) hx hb dL_law_1013 ?_
  refine n_sld (k := (i + 3)) hx hb hX hbl hbA hS (by omega) hL2 dL_law_1014 ?_
  have hPc : PP g (wM g y ya yb yc yd ye yf yg yh yi yj yk yl ft tr lane ml cel np sl kd hg ps rs rn rk rh lg fk gt tkn nr ru rl rm rd) _ := (P_r hP lz_wX lz_wM)
  refine zcallML (w := wM g y ya yb yc yd ye yf yg yh yi yj yk yl ft tr lane ml cel np sl kd hg ps rs rn rk rh lg fk gt tkn nr ru rl rm rd) (va_runV (As := [.int (xs (i + 1)), .int (xs (i + 2)), .int (xs (i + 3))]) (rest := [.long (sp_cell lane ml cel (xs (i + 1)) (xs (i + 2)) (xs (i + 3)))]) (b := y) S0 (c_X5_cell l g y ya yb yc yd ye yf yg yh yi yj yk yl ft tr lane ml cel np sl kd hg ps rs rn rk rh lg fk gt tkn nr ru rl rm rd (xs (i + 1)) (xs (i + 2)) (xs (i + 3)) hG) (cwV 3 hts gL_law_X5_cell rfl rfl rfl (by decide +kernel) ⟨by decide, by decide⟩) (zpreVM hK hP hD isM (cW_r lz_wX lz_wM) ndM (va_recv hK.1 hPc (ci := 5) (q0 := 0) rfl rfl)) rfl rfl hl.1 rfl (lv_room (Nat.le_of_ble_eq_true rfl)) dL_law_1015 ⟨Nat.le_of_ble_eq_true rfl, Nat.le_of_ble_eq_true rfl⟩) hP hD hS isM (cW_r lz_wX lz_wM) (fun (u1015 : Unit) => wX g x sh co ck ch cl vo vpa vma re rua rla rma rda sad cad tr (ft_cell lane ml (xs (i + 1)) (xs (i + 2)) (xs (i + 3))) np sl kd hg lk vn vp vm nr ru rl rm rd lane ml cel ++ wM g y ya yb yc yd ye yf yg yh yi yj yk yl (ft_cell lane ml (xs (i + 1)) (xs (i + 2)) (xs (i + 3))) tr lane ml cel np sl kd hg ps rs rn rk rh lg fk gt tkn nr ru rl rm rd) (fun _ => lz_wM.trans lz_wM.symm) (fun _ => sW_r lz_wX lz_wM lz_wM) (fun _ => adW_r (ad_wM.trans ad_wM.symm)) (fun r1015 u1015 H locs h1015 hP hD hS => ?_)
  subst h1015
  refine W.lcmp hx hb dL_law_1018 ?_
  refine lv_if_eq (tgt := 1215) hx hb dL_law_1019 (by decide) (fun _ => ?_) (fun c9 => absurd (lcmp_rf _) c9)
  exact next _ _ ls ⟨sh, co, ck, ch, cl, vo, vpa, vma, re, rua, rla, rma, rda, sad, cad, ya, yb, yc, yd, ye, yf, yg, yh, yi, yj, yk, yl, tr, ft_cell lane ml (xs (i + 1)) (xs (i + 2)) (xs (i + 3)), np, sl, kd, hg, nr, ru, rl, rm, rd, lane, ml, cel, lk, vn, vp, vm, ps, rs, rn, rk, rh, lg, fk, gt, tkn, hG, hP, hD, hS⟩ hl
