set_option maxHeartbeats 4000000 in
set_option maxRecDepth 100000 in
theorem lawc_24 {P : Program} {l : Launch} {E : Env} {s : State} {mt : MethodId} {below : List Frame} {meth : Method} {cd : Code} {b L : Nat} {xs : Nat → Int32} {g : Gx} {x y : Nat} {Q : State → Prop} (hC : LawC P s mt cd b L xs g) {i : Nat} (hi : i + 7 ≤ L) {H : Heap} {locs : List Loc} {ls : Array Slot} (hI : LawI g s x y H locs) (hl : lv_has ls 4 [(0, .ref b), (1, .ref x), (2, .ref y), (3, .int (nI i))]) (next : ∀ (H : Heap) (locs : List Loc) (ls : Array Slot), LawI g s x y H locs → lv_has ls 4 [(0, .ref b), (1, .ref x), (2, .ref y), (3, .int (nI i))] → W P l E room_1 s mt [Value.ref b].toArray below meth cd H locs 35 734 Q (F0 mt 1215 ls [])) : W P l E room_1 s mt [Value.ref b].toArray below meth cd H locs 35 734 Q (F0 mt 1024 ls []) := by
  obtain ⟨hx, hb, S0, hX, hbl, hK, hL⟩ := hC
  have hts := S0.2.2.2.2
  obtain ⟨sh, co, ck, ch, cl, vo, vpa, vma, re, rua, rla, rma, rda, sad, cad, ya, yb, yc, yd, ye, yf, yg, yh, yi, yj, yk, yl, tr, ft, np, sl, kd, hg, nr, ru, rl, rm, rd, lane, ml, cel, lk, vn, vp, vm, ps, rs, rn, rk, rh, lg, fk, gt, tkn, hG, hP, hD, hS⟩ := hI
  have hbA : ¬ (fun q : Nat => s.heap.size ≤ q) b := Nat.not_le.mpr hbl
  have hL2 : L < 2 ^ 31 := by omega
  refine lv_aload_n hx hb dL_law_1024 rfl (lv_at hl 1 rfl) ?_
  refine lv_aload_n hx hb dL_law_1025 rfl (lv_at hl 0 rfl) ?_
  refine lv_iload_n hx hb dL_law_1026 rfl (lv_at hl 3 rfl) ?_
  refine lv_iconst (v := nI 1) hx hb dL_law_1027 (by decide) ?_
  refine n_iadd (a := i) (b := 1) hx hb dL_law_1028 ?_
  refine n_sld (k := (i + 1)) hx hb hX hbl hbA hS (by omega) hL2 dL_law_1029 ?_
  refine lv_aload_n hx hb dL_law_1030 rfl (lv_at hl 0 rfl) ?_
  refine lv_iload_n hx hb dL_law_1031 rfl (lv_at hl 3 rfl) ?_
  refine lv_iconst (v := nI 2) hx hb dL_law_1032 (by decide) ?_
  refine n_iadd (a := i) (b := 2) hx hb dL_law_1033 ?_
  refine n_sld (k := (i + 2)) hx hb hX hbl hbA hS (by omega) hL2 dL_law_1034 ?_
  refine lv_aload_n hx hb dL_law_1035 rfl (lv_at hl 0 rfl) ?_
  refine lv_iload_n hx hb dL_law_1036 rfl (lv_at hl 3 rfl) ?_
  refine lv_iconst (v := nI 3) hx hb dL_law_1037 (by decide) ?_
  refine n_iadd (a := i) (b := 3) hx hb dL_law_1038 ?_
  refine n_sld (k := (i + 3)) hx hb hX hbl hbA hS (by omega) hL2 dL_law_1039 ?_
  refine lv_aload_n hx hb dL_law_1040 rfl (lv_at hl 0 rfl) ?_
  refine lv_iload_n hx hb dL_law_1041 rfl (lv_at hl 3 rfl) ?_
  refine lv_iconst (v := nI 4) hx hb dL_law_1042 (by decide) ?_
  refine n_iadd (a := i) (b := 4) hx hb dL_law_1043 ?_
  refine n_sld (k := (i + 4)) hx hb hX hbl hbA hS (by omega) hL2 dL_law_1044 ?_
  refine lv_aload_n hx hb dL_law_1045 rfl (lv_at hl 0 rfl) ?_
  refine lv_iload_n hx hb dL_law_1046 rfl (lv_at hl 3 rfl) ?_
  refine lv_iconst (v := nI 5) hx hb dL_law_1047 (by decide) ?_
  refine n_iadd (a := i) (b := 5) hx hb dL_law_1048 ?_
  refine n_sld (k := (i + 5)) hx hb hX hbl hbA hS (by omega) hL2 dL_law_1049 ?_
  have hPc : PP g (wX g x sh co ck ch cl vo vpa vma re rua rla rma rda sad cad tr ft np sl kd hg lk vn vp vm nr ru rl rm rd lane ml cel) _ := (P_l hP lz_wX)
  refine zcallM (w := wX g x sh co ck ch cl vo vpa vma re rua rla rma rda sad cad tr ft np sl kd hg lk vn vp vm nr ru rl rm rd lane ml cel) (va_runV (As := [.int (xs (i + 1)), .int (xs (i + 2)), .int (xs (i + 3)), .int (xs (i + 4)), .int (xs (i + 5))]) (rest := []) (b := x) S0 (c_X4_copy l g x sh co ck ch cl vo vpa vma re rua rla rma rda sad cad tr ft np sl kd hg lk vn vp vm nr ru rl rm rd lane ml cel (xs (i + 1)) (xs (i + 2)) (xs (i + 3)) (xs (i + 4)) (xs (i + 5)) hG) (cwV 5 hts gL_law_X4_copy rfl rfl rfl (by decide +kernel) ⟨by decide, by decide⟩) (zpreVM hK hP hD isX (cW_l lz_wX) ndX (va_recv hK.1 hPc (ci := 4) (q0 := 0) rfl rfl)) rfl rfl hl.1 rfl (lv_room (Nat.le_of_ble_eq_true rfl)) dL_law_1050 ⟨Nat.le_of_ble_eq_true rfl, Nat.le_of_ble_eq_true rfl⟩) hP hD hS isX (cW_l lz_wX) (fun (u1050 : Unit) => wX g x sh co ck ch cl vo vpa vma re rua rla rma rda sad cad tr (ft_copy lane ml (xs (i + 1)) (xs (i + 2)) (xs (i + 3)) (xs (i + 4)) (xs (i + 5))) np sl kd hg lk vn vp vm nr ru rl rm rd lane ml (st_copy lane ml cel (xs (i + 1)) (xs (i + 2)) (xs (i + 3)) (xs (i + 4)) (xs (i + 5))) ++ wM g y ya yb yc yd ye yf yg yh yi yj yk yl ft tr lane ml cel np sl kd hg ps rs rn rk rh lg fk gt tkn nr ru rl rm rd) (fun _ => lz_wX.trans lz_wX.symm) (fun _ => sW_l lz_wX lz_wX) (fun _ => adW_l (ad_wX.trans ad_wX.symm)) (fun r1050 u1050 H locs h1050 hP hD hS => ?_)
  subst h1050
  refine lv_aload_n hx hb dL_law_1053 rfl (lv_at hl 2 rfl) ?_
  refine lv_aload_n hx hb dL_law_1054 rfl (lv_at hl 0 rfl) ?_
  refine lv_iload_n hx hb dL_law_1055 rfl (lv_at hl 3 rfl) ?_
  refine lv_iconst (v := nI 1) hx hb dL_law_1056 (by decide) ?_
  refine n_iadd (a := i) (b := 1) hx hb dL_law_1057 ?_
  refine n_sld (k := (i + 1)) hx hb hX hbl hbA hS (by omega) hL2 dL_law_1058 ?_
  refine lv_aload_n hx hb dL_law_1059 rfl (lv_at hl 0 rfl) ?_
  refine lv_iload_n hx hb dL_law_1060 rfl (lv_at hl 3 rfl) ?_
  refine lv_iconst (v := nI 2) hx hb dL_law_1061 (by decide) ?_
  refine n_iadd (a := i) (b := 2) hx hb dL_law_1062 ?_
  refine n_sld (k := (i + 2)) hx hb hX hbl hbA hS (by omega) hL2 dL_law_1063 ?_
  refine lv_aload_n hx hb dL_law_1064 rfl (lv_at hl 0 rfl) ?_
  refine lv_iload_n hx hb dL_law_1065 rfl (lv_at hl 3 rfl) ?_
  refine lv_iconst (v := nI 3) hx hb dL_law_1066 (by decide) ?_
  refine n_iadd (a := i) (b := 3) hx hb dL_law_1067 ?_
  refine n_sld (k := (i + 3)) hx hb hX hbl hbA hS (by omega) hL2 dL_law_1068 ?_
  refine lv_aload_n hx hb dL_law_1069 rfl (lv_at hl 0 rfl) ?_
  refine lv_iload_n hx hb dL_law_1070 rfl (lv_at hl 3 rfl) ?_
  refine lv_iconst (v := nI 4) hx hb dL_law_1071 (by decide) ?_
  refine n_iadd (a := i) (b := 4) hx hb dL_law_1072 ?_
  refine n_sld (k := (i + 4)) hx hb hX hbl hbA hS (by omega) hL2 dL_law_1073 ?_
  refine lv_aload_n hx hb dL_law_1074 rfl (lv_at hl 0 rfl) ?_
  refine lv_iload_n hx hb dL_law_1075 rfl (lv_at hl 3 rfl) ?_
  refine lv_iconst (v := nI 5) hx hb dL_law_1076 (by decide) ?_
  refine n_iadd (a := i) (b := 5) hx hb dL_law_1077 ?_
  refine n_sld (k := (i + 5)) hx hb hX hbl hbA hS (by omega) hL2 dL_law_1078 ?_
  have hPc : PP g (wM g y ya yb yc yd ye yf yg yh yi yj yk yl ft tr lane ml cel np sl kd hg ps rs rn rk rh lg fk gt tkn nr ru rl rm rd) _ := (P_r hP lz_wX lz_wM)
  refine zcallM (w := wM g y ya yb yc yd ye yf yg yh yi yj yk yl ft tr lane ml cel np sl kd hg ps rs rn rk rh lg fk gt tkn nr ru rl rm rd) (va_runV (As := [.int (xs (i + 1)), .int (xs (i + 2)), .int (xs (i + 3)), .int (xs (i + 4)), .int (xs (i + 5))]) (rest := [.int (sp_copy lane ml (xs (i + 1)) (xs (i + 2)) (xs (i + 3)) (xs (i + 4)) (xs (i + 5)))]) (b := y) S0 (c_X5_copy l g y ya yb yc yd ye yf yg yh yi yj yk yl ft tr lane ml cel np sl kd hg ps rs rn rk rh lg fk gt tkn nr ru rl rm rd (xs (i + 1)) (xs (i + 2)) (xs (i + 3)) (xs (i + 4)) (xs (i + 5)) hG) (cwV 5 hts gL_law_X5_copy rfl rfl rfl (by decide +kernel) ⟨by decide, by decide⟩) (zpreVM hK hP hD isM (cW_r lz_wX lz_wM) ndM (va_recv hK.1 hPc (ci := 5) (q0 := 0) rfl rfl)) rfl rfl hl.1 rfl (lv_room (Nat.le_of_ble_eq_true rfl)) dL_law_1079 ⟨Nat.le_of_ble_eq_true rfl, Nat.le_of_ble_eq_true rfl⟩) hP hD hS isM (cW_r lz_wX lz_wM) (fun (u1079 : Unit) => wX g x sh co ck ch cl vo vpa vma re rua rla rma rda sad cad tr (ft_copy lane ml (xs (i + 1)) (xs (i + 2)) (xs (i + 3)) (xs (i + 4)) (xs (i + 5))) np sl kd hg lk vn vp vm nr ru rl rm rd lane ml (st_copy lane ml cel (xs (i + 1)) (xs (i + 2)) (xs (i + 3)) (xs (i + 4)) (xs (i + 5))) ++ wM g y ya yb yc yd ye yf yg yh yi yj yk yl (ft_copy lane ml (xs (i + 1)) (xs (i + 2)) (xs (i + 3)) (xs (i + 4)) (xs (i + 5))) tr lane ml (st_copy lane ml cel (xs (i + 1)) (xs (i + 2)) (xs (i + 3)) (xs (i + 4)) (xs (i + 5))) np sl kd hg ps rs rn rk rh lg fk gt tkn nr ru rl rm rd) (fun _ => lz_wM.trans lz_wM.symm) (fun _ => sW_r lz_wX lz_wM lz_wM) (fun _ => adW_r (ad_wM.trans ad_wM.symm)) (fun r1079 u1079 H locs h1079 hP hD hS => ?_)
  subst h1079
  refine lv_icmp_eq (tgt := 1215) hx hb dL_law_1082 (by decide) (fun _ => ?_) (fun c9 => absurd rfl c9)
  exact next _ _ ls ⟨sh, co, ck, ch, cl, vo, vpa, vma, re, rua, rla, rma, rda, sad, cad, ya, yb, yc, yd, ye, yf, yg, yh, yi, yj, yk, yl, tr, ft_copy lane ml (xs (i + 1)) (xs (i + 2)) (xs (i + 3)) (xs (i + 4)) (xs (i + 5)), np, sl, kd, hg, nr, ru, rl, rm, rd, lane, ml, st_copy lane ml cel (xs (i + 1)) (xs (i + 2)) (xs (i + 3)) (xs (i + 4)) (xs (i + 5)), lk, vn, vp, vm, ps, rs, rn, rk, rh, lg, fk, gt, tkn, hG, hP, hD, hS⟩ hl

set_option maxHeartbeats 4000000 in
set_option maxRecDepth 100000 in
theorem lawc_25 {P : Program} {l : Launch} {E : Env} {s : State} {mt : MethodId} {below : List Frame} {meth : Method} {cd : Code} {b L : Nat} {xs : Nat → Int32} {g : Gx} {x y : Nat} {Q : State → Prop} (hC : LawC P s mt cd b L xs g) {i : Nat} (hi : i + 7 ≤ L) {H : Heap} {locs : List Loc} {ls : Array Slot} (hI : LawI g s x y H locs) (hl : lv_has ls 4 [(0, .ref b), (1, .ref x), (2, .ref y), (3, .int (nI i))]) (next : ∀ (H : Heap) (locs : List Loc) (ls : Array Slot), LawI g s x y H locs → lv_has ls 4 [(0, .ref b), (1, .ref x), (2, .ref y), (3, .int (nI i))] → W P l E room_1 s mt [Value.ref b].toArray below meth cd H locs 35 734 Q (F0 mt 1215 ls [])) : W P l E room_1 s mt [Value.ref b].toArray below meth cd H locs 35 734 Q (F0 mt 1087 ls []) := by
  obtain ⟨hx, hb, S0, hX, hbl, hK, hL⟩ := hC
  have hts := S0.2.2.2.2
  obtain ⟨sh, co, ck, ch, cl, vo, vpa, vma, re, rua, rla, rma, rda, sad, cad, ya, yb, yc, yd, ye, yf, yg, yh, yi, yj, yk, yl, tr, ft, np, sl, kd, hg, nr, ru, rl, rm, rd, lane, ml, cel, lk, vn, vp, vm, ps, rs, rn, rk, rh, lg, fk, gt, tkn, hG, hP, hD, hS⟩ := hI
  have hbA : ¬ (fun q : Nat => s.heap.size ≤ q) b := Nat.not_le.mpr hbl
  have hL2 : L < 2 ^ 31 := by omega
  refine lv_aload_n hx hb dL_law_1087 rfl (lv_at hl 1 rfl) ?_
  refine lv_aload_n hx hb dL_law_1088 rfl (lv_at hl 0 rfl) ?_
  refine lv_iload_n hx hb dL_law_1089 rfl (lv_at hl 3 rfl) ?_
  refine lv_iconst (v := nI 1) hx hb dL_law_1090 (by decide) ?_
  refine n_iadd (a := i) (b := 1) hx hb dL_law_1091 ?_
  refine n_sld (k := (i + 1)) hx hb hX hbl hbA hS (by omega) hL2 dL_law_1092 ?_
  have hPc : PP g (wX g x sh co ck ch cl vo vpa vma re rua rla rma rda sad cad tr ft np sl kd hg lk vn vp vm nr ru rl rm rd lane ml cel) _ := (P_l hP lz_wX)
  refine zcallM (w := wX g x sh co ck ch cl vo vpa vma re rua rla rma rda sad cad tr ft np sl kd hg lk vn vp vm nr ru rl rm rd lane ml cel) (va_runV (As := [.int (xs (i + 1))]) (rest := []) (b := x) S0 (c_X4_tell l g x sh co ck ch cl vo vpa vma re rua rla rma rda sad cad tr ft np sl kd hg lk vn vp vm nr ru rl rm rd lane ml cel (xs (i + 1)) hG) (cwV 1 hts gL_law_X4_tell rfl rfl rfl (by decide +kernel) ⟨by decide, by decide⟩) (zpreVM hK hP hD isX (cW_l lz_wX) ndX (va_recv hK.1 hPc (ci := 4) (q0 := 0) rfl rfl)) rfl rfl hl.1 rfl (lv_room (Nat.le_of_ble_eq_true rfl)) dL_law_1093 ⟨Nat.le_of_ble_eq_true rfl, Nat.le_of_ble_eq_true rfl⟩) hP hD hS isX (cW_l lz_wX) (fun (u1093 : Unit) => wX g x sh co ck ch cl vo vpa vma re rua rla rma rda sad cad (st_tell np kd tr (xs (i + 1))) ft np sl kd hg lk vn vp vm nr ru rl rm rd lane ml cel ++ wM g y ya yb yc yd ye yf yg yh yi yj yk yl ft tr lane ml cel np sl kd hg ps rs rn rk rh lg fk gt tkn nr ru rl rm rd) (fun _ => lz_wX.trans lz_wX.symm) (fun _ => sW_l lz_wX lz_wX) (fun _ => adW_l (ad_wX.trans ad_wX.symm)) (fun r1093 u1093 H locs h1093 hP hD hS => ?_)
  subst h1093
  refine lv_aload_n hx hb dL_law_1096 rfl (lv_at hl 2 rfl) ?_
  refine lv_aload_n hx hb dL_law_1097 rfl (lv_at hl 0 rfl) ?_
  refine lv_iload_n hx hb dL_law_1098 rfl (lv_at hl 3 rfl) ?_
  refine lv_iconst (v := nI 1) hx hb dL_law_1099 (by decide) ?_
  refine n_iadd (a := i) (b := 1) hx hb dL_law_1100 ?_
  refine n_sld (k := (i + 1)) hx hb hX hbl hbA hS (by omega) hL2 dL_law_1101 ?_
  have hPc : PP g (wM g y ya yb yc yd ye yf yg yh yi yj yk yl ft tr lane ml cel np sl kd hg ps rs rn rk rh lg fk gt tkn nr ru rl rm rd) _ := (P_r hP lz_wX lz_wM)
  refine zcallM (w := wM g y ya yb yc yd ye yf yg yh yi yj yk yl ft tr lane ml cel np sl kd hg ps rs rn rk rh lg fk gt tkn nr ru rl rm rd) (va_runV (As := [.int (xs (i + 1))]) (rest := [.int (sp_tell np kd hg (xs (i + 1)))]) (b := y) S0 (c_X5_tell l g y ya yb yc yd ye yf yg yh yi yj yk yl ft tr lane ml cel np sl kd hg ps rs rn rk rh lg fk gt tkn nr ru rl rm rd (xs (i + 1)) hG) (cwV 1 hts gL_law_X5_tell rfl rfl rfl (by decide +kernel) ⟨by decide, by decide⟩) (zpreVM hK hP hD isM (cW_r lz_wX lz_wM) ndM (va_recv hK.1 hPc (ci := 5) (q0 := 0) rfl rfl)) rfl rfl hl.1 rfl (lv_room (Nat.le_of_ble_eq_true rfl)) dL_law_1102 ⟨Nat.le_of_ble_eq_true rfl, Nat.le_of_ble_eq_true rfl⟩) hP hD hS isM (cW_r lz_wX lz_wM) (fun (u1102 : Unit) => wX g x sh co ck ch cl vo vpa vma re rua rla rma rda sad cad (st_tell np kd tr (xs (i + 1))) ft np sl kd hg lk vn vp vm nr ru rl rm rd lane ml cel ++ wM g y ya yb yc yd ye yf yg yh yi yj yk yl ft (st_tell np kd tr (xs (i + 1))) lane ml cel np sl kd hg ps rs rn rk rh lg fk gt tkn nr ru rl rm rd) (fun _ => lz_wM.trans lz_wM.symm) (fun _ => sW_r lz_wX lz_wM lz_wM) (fun _ => adW_r (ad_wM.trans ad_wM.symm)) (fun r1102 u1102 H locs h1102 hP hD hS => ?_)
  subst h1102
  refine lv_icmp_eq (tgt := 1215) hx hb dL_law_1105 (by decide) (fun _ => ?_) (fun c9 => absurd rfl c9)
  exact next _ _ ls ⟨sh, co, ck, ch, cl, vo, vpa, vma, re, rua, rla, rma, rda, sad, cad, ya, yb, yc, yd, ye, yf, yg, yh, yi, yj, yk, yl, st_tell np kd tr (xs (i + 1)), ft, np, sl, kd, hg, nr, ru, rl, rm, rd, lane, ml, cel, lk, vn, vp, vm, ps, rs, rn, rk, rh, lg, fk, gt, tkn, hG, hP, hD, hS⟩ hl

set_option maxHeartbeats 4000000 in
set_option maxRecDepth 100000 in
theorem lawc_26 {P : Program} {l : Launch} {E : Env} {s : State} {mt : MethodId} {below : List Frame} {meth : Method} {cd : Code} {b L : Nat} {xs : Nat → Int32} {g : Gx} {x y : Nat} {Q : State → Prop} (hC : LawC P s mt cd b L xs g) {i : Nat} (hi : i + 7 ≤ L) {H : Heap} {locs : List Loc} {ls : Array Slot} (hI : LawI g s x y H locs) (hl : lv_has ls 4 [(0, .ref b), (1, .ref x), (2, .ref y), (3, .int (nI i))]) (next : ∀ (H : Heap) (locs : List Loc) (ls : Array Slot), LawI g s x y H locs → lv_has ls 4 [(0, .ref b), (1, .ref x), (2, .ref y), (3, .int (nI i))] → W P l E room_1 s mt [Value.ref b].toArray below meth cd H locs 35 734 Q (F0 mt 1215 ls [])) : W P l E room_1 s mt [Value.ref b].toArray below meth cd H locs 35 734 Q (F0 mt 1110 ls []) := by
  obtain ⟨hx, hb, S0, hX, hbl, hK, hL⟩ := hC
  have hts := S0.2.2.2.2
  obtain ⟨sh, co, ck, ch, cl, vo, vpa, vma, re, rua, rla, rma, rda, sad, cad, ya, yb, yc, yd, ye, yf, yg, yh, yi, yj, yk, yl, tr, ft, np, sl, kd, hg, nr, ru, rl, rm, rd, lane, ml, cel, lk, vn, vp, vm, ps, rs, rn, rk, rh, lg, fk, gt, tkn, hG, hP, hD, hS⟩ := hI
  have hbA : ¬ (fun q : Nat => s.heap.size ≤ q) b := Nat.not_le.mpr hbl
  have hL2 : L < 2 ^ 31 := by omega
  refine lv_aload_n hx hb dL_law_1110 rfl (lv_at hl 1 rfl) ?_
  refine lv_aload_n hx hb dL_law_1111 rfl (lv_at hl 0 rfl) ?_
  refine lv_iload_n hx hb dL_law_1112 rfl (lv_at hl 3 rfl) ?_
  refine lv_iconst (v := nI 1) hx hb dL_law_1113 (by decide) ?_
  refine n_iadd (a := i) (b := 1) hx hb dL_law_1114 ?_
  refine n_sld (k := (i + 1)) hx hb hX hbl hbA hS (by omega) hL2 dL_law_1115 ?_
  have hPc : PP g (wX g x sh co ck ch cl vo vpa vma re rua rla rma rda sad cad tr ft np sl kd hg lk vn vp vm nr ru rl rm rd lane ml cel) _ := (P_l hP lz_wX)
  refine zcallM (w := wX g x sh co ck ch cl vo vpa vma re rua rla rma rda sad cad tr ft np sl kd hg lk vn vp vm nr ru rl rm rd lane ml cel) (va_runV (As := [.int (xs (i + 1))]) (rest := []) (b := x) S0 (c_X4_seal l g x sh co ck ch cl vo vpa vma re rua rla rma rda sad cad tr ft np sl kd hg lk vn vp vm nr ru rl rm rd lane ml cel (xs (i + 1)) hG) (cwV 1 hts gL_law_X4_seal rfl rfl rfl (by decide +kernel) ⟨by decide, by decide⟩) (zpreVM hK hP hD isX (cW_l lz_wX) ndX (va_recv hK.1 hPc (ci := 4) (q0 := 0) rfl rfl)) rfl rfl hl.1 rfl (lv_room (Nat.le_of_ble_eq_true rfl)) dL_law_1116 ⟨Nat.le_of_ble_eq_true rfl, Nat.le_of_ble_eq_true rfl⟩) hP hD hS isX (cW_l lz_wX) (fun (u1116 : Unit) => wX g x sh co ck ch cl vo vpa vma re rua rla rma rda sad cad (st_seal np kd tr (xs (i + 1))) ft np sl kd hg lk vn vp vm nr ru rl rm rd lane ml cel ++ wM g y ya yb yc yd ye yf yg yh yi yj yk yl ft tr lane ml cel np sl kd hg ps rs rn rk rh lg fk gt tkn nr ru rl rm rd) (fun _ => lz_wX.trans lz_wX.symm) (fun _ => sW_l lz_wX lz_wX) (fun _ => adW_l (ad_wX.trans ad_wX.symm)) (fun r1116 u1116 H locs h1116 hP hD hS => ?_)
  subst h1116
  refine lv_aload_n hx hb dL_law_1119 rfl (lv_at hl 2 rfl) ?_
  refine lv_aload_n hx hb dL_law_1120 rfl (lv_at hl 0 rfl) ?_
  refine lv_iload_n hx hb dL_law_1121 rfl (lv_at hl 3 rfl) ?_
  refine lv_iconst (v := nI 1) hx hb dL_law_1122 (by decide) ?_
  refine n_iadd (a := i) (b := 1) hx hb dL_law_1123 ?_
  refine n_sld (k := (i + 1)) hx hb hX hbl hbA hS (by omega) hL2 dL_law_1124 ?_
  have hPc : PP g (wM g y ya yb yc yd ye yf yg yh yi yj yk yl ft tr lane ml cel np sl kd hg ps rs rn rk rh lg fk gt tkn nr ru rl rm rd) _ := (P_r hP lz_wX lz_wM)
  refine zcallM (w := wM g y ya yb yc yd ye yf yg yh yi yj yk yl ft tr lane ml cel np sl kd hg ps rs rn rk rh lg fk gt tkn nr ru rl rm rd) (va_runV (As := [.int (xs (i + 1))]) (rest := [.int (sp_seal np kd (xs (i + 1)))]) (b := y) S0 (c_X5_seal l g y ya yb yc yd ye yf yg yh yi yj yk yl ft tr lane ml cel np sl kd hg ps rs rn rk rh lg fk gt tkn nr ru rl rm rd (xs (i + 1)) hG) (cwV 1 hts gL_law_X5_seal rfl rfl rfl (by decide +kernel) ⟨by decide, by decide⟩) (zpreVM hK hP hD isM (cW_r lz_wX lz_wM) ndM (va_recv hK.1 hPc (ci := 5) (q0 := 0) rfl rfl)) rfl rfl hl.1 rfl (lv_room (Nat.le_of_ble_eq_true rfl)) dL_law_1125 ⟨Nat.le_of_ble_eq_true rfl, Nat.le_of_ble_eq_true rfl⟩) hP hD hS isM (cW_r lz_wX lz_wM) (fun (u1125 : Unit) => wX g x sh co ck ch cl vo vpa vma re rua rla rma rda sad cad (st_seal np kd tr (xs (i + 1))) ft np sl kd hg lk vn vp vm nr ru rl rm rd lane ml cel ++ wM g y ya yb yc yd ye yf yg yh yi yj yk yl ft (st_seal np kd tr (xs (i + 1))) lane ml cel np sl kd hg ps rs rn rk rh lg fk gt tkn nr ru rl rm rd) (fun _ => lz_wM.trans lz_wM.symm) (fun _ => sW_r lz_wX lz_wM lz_wM) (fun _ => adW_r (ad_wM.trans ad_wM.symm)) (fun r1125 u1125 H locs h1125 hP hD hS => ?_)
  subst h1125
  refine lv_icmp_eq (tgt := 1215) hx hb dL_law_1128 (by decide) (fun _ => ?_) (fun c9 => absurd rfl c9)
  exact next _ _ ls ⟨sh, co, ck, ch, cl, vo, vpa, vma, re, rua, rla, rma, rda, sad, cad, ya, yb, yc, yd, ye, yf, yg, yh, yi, yj, yk, yl, st_seal np kd tr (xs (i + 1)), ft, np, sl, kd, hg, nr, ru, rl, rm, rd, lane, ml, cel, lk, vn, vp, vm, ps, rs, rn, rk, rh, lg, fk, gt, tkn, hG, hP, hD, hS⟩ hl

set_option maxHeartbeats 4000000 in
set_option maxRecDepth 100000 in
theorem lawc_27 {P : Program} {l : Launch} {E : Env} {s : State} {mt : MethodId} {below : List Frame} {meth : Method} {cd : Code} {b L : Nat} {xs : Nat → Int32} {g : Gx} {x y : Nat} {Q : State → Prop} (hC : LawC P s mt cd b L xs g) {i : Nat} (hi : i + 7 ≤ L) {H : Heap} {locs : List Loc} {ls : Array Slot} (hI : LawI g s x y H locs) (hl : lv_has ls 4 [(0, .ref b), (1, .ref x), (2, .ref y), (3, .int (nI i))]) (next : ∀ (H : Heap) (locs : List Loc) (ls : Array Slot), LawI g s x y H locs → lv_has ls 4 [(0, .ref b), (1, .ref x), (2, .ref y), (3, .int (nI i))] → W P l E room_1 s mt [Value.ref b].toArray below meth cd H locs 35 734 Q (F0 mt 1215 ls [])) : W P l E room_1 s mt [Value.ref b].toArray below meth cd H locs 35 734 Q (F0 mt 1133 ls []) := by
  obtain ⟨hx, hb, S0, hX, hbl, hK, hL⟩ := hC
  have hts := S0.2.2.2.2
  obtain ⟨sh, co, ck, ch, cl, vo, vpa, vma, re, rua, rla, rma, rda, sad, cad, ya, yb, yc, yd, ye, yf, yg, yh, yi, yj, yk, yl, tr, ft, np, sl, kd, hg, nr, ru, rl, rm, rd, lane, ml, cel, lk, vn, vp, vm, ps, rs, rn, rk, rh, lg, fk, gt, tkn, hG, hP, hD, hS⟩ := hI
  have hbA : ¬ (fun q : Nat => s.heap.size ≤ q) b := Nat.not_le.mpr hbl
  have hL2 : L < 2 ^ 31 := by omega
  refine lv_aload_n hx hb dL_law_1133 rfl (lv_at hl 1 rfl) ?_
  refine lv_aload_n hx hb dL_law_1134 rfl (lv_at hl 0 rfl) ?_
  refine lv_iload_n hx hb dL_law_1135 rfl (lv_at hl 3 rfl) ?_
  refine lv_iconst (v := nI 1) hx hb dL_law_1136 (by decide) ?_
  refine n_iadd (a := i) (b := 1) hx hb dL_law_1137 ?_
  refine n_sld (k := (i + 1)) hx hb hX hbl hbA hS (by omega) hL2 dL_law_1138 ?_
  refine lv_aload_n hx hb dL_law_1139 rfl (lv_at hl 0 rfl) ?_
  refine lv_iload_n hx hb dL_law_1140 rfl (lv_at hl 3 rfl) ?_
  refine lv_iconst (v := nI 2) hx hb dL_law_1141 (by decide) ?_
  refine n_iadd (a := i) (b := 2) hx hb dL_law_1142 ?_
  refine n_sld (k := (i + 2)) hx hb hX hbl hbA hS (by omega) hL2 dL_law_1143 ?_
  have hPc : PP g (wX g x sh co ck ch cl vo vpa vma re rua rla rma rda sad cad tr ft np sl kd hg lk vn vp vm nr ru rl rm rd lane ml cel) _ := (P_l hP lz_wX)
  refine zcallM (w := wX g x sh co ck ch cl vo vpa vma re rua rla rma rda sad cad tr ft np sl kd hg lk vn vp vm nr ru rl rm rd lane ml cel) (va_runV (As := [.int (xs (i + 1)), .int (xs (i + 2))]) (rest := []) (b := x) S0 (c_X4_as l g x sh co ck ch cl vo vpa vma re rua rla rma rda sad cad tr ft np sl kd hg lk vn vp vm nr ru rl rm rd lane ml cel (xs (i + 1)) (xs (i + 2)) hG) (cwV 2 hts gL_law_X4_as rfl rfl rfl (by decide +kernel) ⟨by decide, by decide⟩) (zpreVM hK hP hD isX (cW_l lz_wX) ndX (va_recv hK.1 hPc (ci := 4) (q0 := 0) rfl rfl)) rfl rfl hl.1 rfl (lv_room (Nat.le_of_ble_eq_true rfl)) dL_law_1144 ⟨Nat.le_of_ble_eq_true rfl, Nat.le_of_ble_eq_true rfl⟩) hP hD hS isX (cW_l lz_wX) (fun (u1144 : Unit) => wX g x sh co ck ch cl vo vpa vma re rua rla rma rda sad cad tr (ft_as np kd (xs (i + 1)) (xs (i + 2))) np sl kd hg lk vn vp vm nr ru rl rm rd lane ml cel ++ wM g y ya yb yc yd ye yf yg yh yi yj yk yl ft tr lane ml cel np sl kd hg ps rs rn rk rh lg fk gt tkn nr ru rl rm rd) (fun _ => lz_wX.trans lz_wX.symm) (fun _ => sW_l lz_wX lz_wX) (fun _ => adW_l (ad_wX.trans ad_wX.symm)) (fun r1144 u1144 H locs h1144 hP hD hS => ?_)
  subst h1144
  refine lv_aload_n hx hb dL_law_1147 rfl (lv_at hl 2 rfl) ?_
  refine lv_aload_n hx hb dL_law_1148 rfl (lv_at hl 0 rfl) ?_
  refine lv_iload_n hx hb dL_law_1149 rfl (lv_at hl 3 rfl) ?_
  refine lv_iconst (v := nI 1) hx hb dL_law_1150 (by decide) ?_
  refine n_iadd (a := i) (b := 1) hx hb dL_law_1151 ?_
  refine n_sld (k := (i + 1)) hx hb hX hbl hbA hS (by omega) hL2 dL_law_1152 ?_
  refine lv_aload_n hx hb dL_law_1153 rfl (lv_at hl 0 rfl) ?_
  refine lv_iload_n hx hb dL_law_1154 rfl (lv_at hl 3 rfl) ?_
  refine lv_iconst (v := nI 2) hx hb dL_law_1155 (by decide) ?_
  refine n_iadd (a := i) (b := 2) hx hb dL_law_1156 ?_
  refine n_sld (k := (i + 2)) hx hb hX hbl hbA hS (by omega) hL2 dL_law_1157 ?_
  have hPc : PP g (wM g y ya yb yc yd ye yf yg yh yi yj yk yl ft tr lane ml cel np sl kd hg ps rs rn rk rh lg fk gt tkn nr ru rl rm rd) _ := (P_r hP lz_wX lz_wM)
  refine zcallM (w := wM g y ya yb yc yd ye yf yg yh yi yj yk yl ft tr lane ml cel np sl kd hg ps rs rn rk rh lg fk gt tkn nr ru rl rm rd) (va_runV (As := [.int (xs (i + 1)), .int (xs (i + 2))]) (rest := [.int (sp_as np kd (xs (i + 1)) (xs (i + 2)))]) (b := y) S0 (c_X5_as l g y ya yb yc yd ye yf yg yh yi yj yk yl ft tr lane ml cel np sl kd hg ps rs rn rk rh lg fk gt tkn nr ru rl rm rd (xs (i + 1)) (xs (i + 2)) hG) (cwV 2 hts gL_law_X5_as rfl rfl rfl (by decide +kernel) ⟨by decide, by decide⟩) (zpreVM hK hP hD isM (cW_r lz_wX lz_wM) ndM (va_recv hK.1 hPc (ci := 5) (q0 := 0) rfl rfl)) rfl rfl hl.1 rfl (lv_room (Nat.le_of_ble_eq_true rfl)) dL_law_1158 ⟨Nat.le_of_ble_eq_true rfl, Nat.le_of_ble_eq_true rfl⟩) hP hD hS isM (cW_r lz_wX lz_wM) (fun (u1158 : Unit) => wX g x sh co ck ch cl vo vpa vma re rua rla rma rda sad cad tr (ft_as np kd (xs (i + 1)) (xs (i + 2))) np sl kd hg lk vn vp vm nr ru rl rm rd lane ml cel ++ wM g y ya yb yc yd ye yf yg yh yi yj yk yl (ft_as np kd (xs (i + 1)) (xs (i + 2))) tr lane ml cel np sl kd hg ps rs rn rk rh lg fk gt tkn nr ru rl rm rd) (fun _ => lz_wM.trans lz_wM.symm) (fun _ => sW_r lz_wX lz_wM lz_wM) (fun _ => adW_r (ad_wM.trans ad_wM.symm)) (fun r1158 u1158 H locs h1158 hP hD hS => ?_)
  subst h1158
  refine lv_icmp_eq (tgt := 1215) hx hb dL_law_1161 (by decide) (fun _ => ?_) (fun c9 => absurd rfl c9)
  exact next _ _ ls ⟨sh, co, ck, ch, cl, vo, vpa, vma, re, rua, rla, rma, rda, sad, cad, ya, yb, yc, yd, ye, yf, yg, yh, yi, yj, yk, yl, tr, ft_as np kd (xs (i + 1)) (xs (i + 2)), np, sl, kd, hg, nr, ru, rl, rm, rd, lane, ml, cel, lk, vn, vp, vm, ps, rs, rn, rk, rh, lg, fk, gt, tkn, hG, hP, hD, hS⟩ hl

set_option maxHeartbeats 4000000 in
set_option maxRecDepth 100000 in
theorem lawc_28 {P : Program} {l : Launch} {E : Env} {s : State} {mt : MethodId} {below : List Frame} {meth : Method} {cd : Code} {b L : Nat} {xs : Nat → Int32} {g : Gx} {x y : Nat} {Q : State → Prop} (hC : LawC P s mt cd b L xs g) {i : Nat} (hi : i + 7 ≤ L) {H : Heap} {locs : List Loc} {ls : Array Slot} (hI : LawI g s x y H locs) (hl : lv_has ls 4 [(0, .ref b), (1, .ref x), (2, .ref y), (3, .int (nI i))]) (next : ∀ (H : Heap) (locs : List Loc) (ls : Array Slot), LawI g s x y H locs → lv_has ls 4 [(0, .ref b), (1, .ref x), (2, .ref y), (3, .int (nI i))] → W P l E room_1 s mt [Value.ref b].toArray below meth cd H locs 35 734 Q (F0 mt 1215 ls [])) : W P l E room_1 s mt [Value.ref b].toArray below meth cd H locs 35 734 Q (F0 mt 1166 ls []) := by
  obtain ⟨hx, hb, S0, hX, hbl, hK, hL⟩ := hC
  have hts := S0.2.2.2.2
  obtain ⟨sh, co, ck, ch, cl, vo, vpa, vma, re, rua, rla, rma, rda, sad, cad, ya, yb, yc, yd, ye, yf, yg, yh, yi, yj, yk, yl, tr, ft, np, sl, kd, hg, nr, ru, rl, rm, rd, lane, ml, cel, lk, vn, vp, vm, ps, rs, rn, rk, rh, lg, fk, gt, tkn, hG, hP, hD, hS⟩ := hI
  have hbA : ¬ (fun q : Nat => s.heap.size ≤ q) b := Nat.not_le.mpr hbl
  have hL2 : L < 2 ^ 31 := by omega
  refine lv_aload_n hx hb dL_law_1166 rfl (lv_at hl 1 rfl) ?_
  have hPc : PP g (wX g x sh co ck ch cl vo vpa vma re rua rla rma rda sad cad tr ft np sl kd hg lk vn vp vm nr ru rl rm rd lane ml cel) _ := (P_l hP lz_wX)
  refine zcallR (va_runV (As := []) (rest := []) (b := x) S0 (c_X4_trace l g x sh co ck ch cl vo vpa vma re rua rla rma rda sad cad tr ft np sl kd hg lk vn vp vm nr ru rl rm rd lane ml cel) (cwV 0 hts gL_law_X4_trace rfl rfl rfl (by decide +kernel) ⟨by decide, by decide⟩) (zpreV hK hPc (va_recv hK.1 hPc (ci := 4) (q0 := 0) rfl rfl)) rfl rfl hl.1 rfl (lv_room (Nat.le_of_ble_eq_true rfl)) dL_law_1167 ⟨Nat.le_of_ble_eq_true rfl, Nat.le_of_ble_eq_true rfl⟩) (fun r1167 h1167 => ?_)
  refine ztopI tr h1167 ?_
  refine lv_aload_n hx hb dL_law_1170 rfl (lv_at hl 2 rfl) ?_
  have hPc : PP g (wM g y ya yb yc yd ye yf yg yh yi yj yk yl ft tr lane ml cel np sl kd hg ps rs rn rk rh lg fk gt tkn nr ru rl rm rd) _ := (P_r hP lz_wX lz_wM)
  refine zcallR (va_runV (As := []) (rest := [.int (tr)]) (b := y) S0 (c_X5_trace l g y ya yb yc yd ye yf yg yh yi yj yk yl ft tr lane ml cel np sl kd hg ps rs rn rk rh lg fk gt tkn nr ru rl rm rd) (cwV 0 hts gL_law_X5_trace rfl rfl rfl (by decide +kernel) ⟨by decide, by decide⟩) (zpreV hK hPc (va_recv hK.1 hPc (ci := 5) (q0 := 0) rfl rfl)) rfl rfl hl.1 rfl (lv_room (Nat.le_of_ble_eq_true rfl)) dL_law_1171 ⟨Nat.le_of_ble_eq_true rfl, Nat.le_of_ble_eq_true rfl⟩) (fun r1171 h1171 => ?_)
  refine ztopI tr h1171 ?_
  refine lv_icmp_eq (tgt := 1215) hx hb dL_law_1174 (by decide) (fun _ => ?_) (fun c9 => absurd rfl c9)
  exact next _ _ ls ⟨sh, co, ck, ch, cl, vo, vpa, vma, re, rua, rla, rma, rda, sad, cad, ya, yb, yc, yd, ye, yf, yg, yh, yi, yj, yk, yl, tr, ft, np, sl, kd, hg, nr, ru, rl, rm, rd, lane, ml, cel, lk, vn, vp, vm, ps, rs, rn, rk, rh, lg, fk, gt, tkn, hG, hP, hD, hS⟩ hl

set_option maxHeartbeats 4000000 in
set_option maxRecDepth 100000 in
theorem lawc_29 {P : Program} {l : Launch} {E : Env} {s : State} {mt : MethodId} {below : List Frame} {meth : Method} {cd : Code} {b L : Nat} {xs : Nat → Int32} {g : Gx} {x y : Nat} {Q : State → Prop} (hC : LawC P s mt cd b L xs g) {i : Nat} (hi : i + 7 ≤ L) {H : Heap} {locs : List Loc} {ls : Array Slot} (hI : LawI g s x y H locs) (hl : lv_has ls 4 [(0, .ref b), (1, .ref x), (2, .ref y), (3, .int (nI i))]) (next : ∀ (H : Heap) (locs : List Loc) (ls : Array Slot), LawI g s x y H locs → lv_has ls 4 [(0, .ref b), (1, .ref x), (2, .ref y), (3, .int (nI i))] → W P l E room_1 s mt [Value.ref b].toArray below meth cd H locs 35 734 Q (F0 mt 1215 ls [])) : W P l E room_1 s mt [Value.ref b].toArray below meth cd H locs 35 734 Q (F0 mt 1179 ls []) := by
  obtain ⟨hx, hb, S0, hX, hbl, hK, hL⟩ := hC
  have hts := S0.2.2.2.2
  obtain ⟨sh, co, ck, ch, cl, vo, vpa, vma, re, rua, rla, rma, rda, sad, cad, ya, yb, yc, yd, ye, yf, yg, yh, yi, yj, yk, yl, tr, ft, np, sl, kd, hg, nr, ru, rl, rm, rd, lane, ml, cel, lk, vn, vp, vm, ps, rs, rn, rk, rh, lg, fk, gt, tkn, hG, hP, hD, hS⟩ := hI
  have hbA : ¬ (fun q : Nat => s.heap.size ≤ q) b := Nat.not_le.mpr hbl
  have hL2 : L < 2 ^ 31 := by omega
  refine lv_aload_n hx hb dL_law_1179 rfl (lv_at hl 1 rfl) ?_
  have hPc : PP g (wX g x sh co ck ch cl vo vpa vma re rua rla rma rda sad cad tr ft np sl kd hg lk vn vp vm nr ru rl rm rd lane ml cel) _ := (P_l hP lz_wX)
  refine zcallR (va_runV (As := []) (rest := []) (b := x) S0 (c_X4_fault l g x sh co ck ch cl vo vpa vma re rua rla rma rda sad cad tr ft np sl kd hg lk vn vp vm nr ru rl rm rd lane ml cel) (cwV 0 hts gL_law_X4_fault rfl rfl rfl (by decide +kernel) ⟨by decide, by decide⟩) (zpreV hK hPc (va_recv hK.1 hPc (ci := 4) (q0 := 0) rfl rfl)) rfl rfl hl.1 rfl (lv_room (Nat.le_of_ble_eq_true rfl)) dL_law_1180 ⟨Nat.le_of_ble_eq_true rfl, Nat.le_of_ble_eq_true rfl⟩) (fun r1180 h1180 => ?_)
  subst h1180
  refine lv_aload_n hx hb dL_law_1183 rfl (lv_at hl 2 rfl) ?_
  have hPc : PP g (wM g y ya yb yc yd ye yf yg yh yi yj yk yl ft tr lane ml cel np sl kd hg ps rs rn rk rh lg fk gt tkn nr ru rl rm rd) _ := (P_r hP lz_wX lz_wM)
  refine zcallR (va_runV (As := []) (rest := [.int (nI ft)]) (b := y) S0 (c_X5_fault l g y ya yb yc yd ye yf yg yh yi yj yk yl ft tr lane ml cel np sl kd hg ps rs rn rk rh lg fk gt tkn nr ru rl rm rd) (cwV 0 hts gL_law_X5_fault rfl rfl rfl (by decide +kernel) ⟨by decide, by decide⟩) (zpreV hK hPc (va_recv hK.1 hPc (ci := 5) (q0 := 0) rfl rfl)) rfl rfl hl.1 rfl (lv_room (Nat.le_of_ble_eq_true rfl)) dL_law_1184 ⟨Nat.le_of_ble_eq_true rfl, Nat.le_of_ble_eq_true rfl⟩) (fun r1184 h1184 => ?_)
  subst h1184
  refine lv_icmp_eq (tgt := 1215) hx hb dL_law_1187 (by decide) (fun _ => ?_) (fun c9 => absurd rfl c9)
  exact next _ _ ls ⟨sh, co, ck, ch, cl, vo, vpa, vma, re, rua, rla, rma, rda, sad, cad, ya, yb, yc, yd, ye, yf, yg, yh, yi, yj, yk, yl, tr, ft, np, sl, kd, hg, nr, ru, rl, rm, rd, lane, ml, cel, lk, vn, vp, vm, ps, rs, rn, rk, rh, lg, fk, gt, tkn, hG, hP, hD, hS⟩ hl

set_option maxHeartbeats 4000000 in
set_option maxRecDepth 100000 in
theorem lawc_30 {P : Program} {l : Launch} {E : Env} {s : State} {mt : MethodId} {below : List Frame} {meth : Method} {cd : Code} {b L : Nat} {xs : Nat → Int32} {g : Gx} {x y : Nat} {Q : State → Prop} (hC : LawC P s mt cd b L xs g) {i : Nat} (hi : i + 7 ≤ L) {H : Heap} {locs : List Loc} {ls : Array Slot} (hI : LawI g s x y H locs) (hl : lv_has ls 4 [(0, .ref b), (1, .ref x), (2, .ref y), (3, .int (nI i))]) (next : ∀ (H : Heap) (locs : List Loc) (ls : Array Slot), LawI g s x y H locs → lv_has ls 4 [(0, .ref b), (1, .ref x), (2, .ref y), (3, .int (nI i))] → W P l E room_1 s mt [Value.ref b].toArray below meth cd H locs 35 734 Q (F0 mt 1215 ls [])) : W P l E room_1 s mt [Value.ref b].toArray below meth cd H locs 35 734 Q (F0 mt 1192 ls []) := by
  obtain ⟨hx, hb, S0, hX, hbl, hK, hL⟩ := hC
  have hts := S0.2.2.2.2
  obtain ⟨sh, co, ck, ch, cl, vo, vpa, vma, re, rua, rla, rma, rda, sad, cad, ya, yb, yc, yd, ye, yf, yg, yh, yi, yj, yk, yl, tr, ft, np, sl, kd, hg, nr, ru, rl, rm, rd, lane, ml, cel, lk, vn, vp, vm, ps, rs, rn, rk, rh, lg, fk, gt, tkn, hG, hP, hD, hS⟩ := hI
  have hbA : ¬ (fun q : Nat => s.heap.size ≤ q) b := Nat.not_le.mpr hbl
  have hL2 : L < 2 ^ 31 := by omega
  refine lv_aload_n hx hb dL_law_1192 rfl (lv_at hl 1 rfl) ?_
  refine lv_aload_n hx hb dL_law_1193 rfl (lv_at hl 0 rfl) ?_
  refine lv_iload_n hx hb dL_law_1194 rfl (lv_at hl 3 rfl) ?_
  refine lv_iconst (v := nI 1) hx hb dL_law_1195 (by decide) ?_
  refine n_iadd (a := i) (b := 1) hx hb dL_law_1196 ?_
  refine n_sld (k := (i + 1)) hx hb hX hbl hbA hS (by omega) hL2 dL_law_1197 ?_
  have hPc : PP g (wX g x sh co ck ch cl vo vpa vma re rua rla rma rda sad cad tr ft np sl kd hg lk vn vp vm nr ru rl rm rd lane ml cel) _ := (P_l hP lz_wX)
  refine zcallR (va_runV (As := [.int (xs (i + 1))]) (rest := []) (b := x) S0 (c_X4_many l g x sh co ck ch cl vo vpa vma re rua rla rma rda sad cad tr ft np sl kd hg lk vn vp vm nr ru rl rm rd lane ml cel (xs (i + 1))) (cwV 1 hts gL_law_X4_many rfl rfl rfl (by decide +kernel) ⟨by decide, by decide⟩) (zpreV hK hPc (va_recv hK.1 hPc (ci := 4) (q0 := 0) rfl rfl)) rfl rfl hl.1 rfl (lv_room (Nat.le_of_ble_eq_true rfl)) dL_law_1198 ⟨Nat.le_of_ble_eq_true rfl, Nat.le_of_ble_eq_true rfl⟩) (fun r1198 h1198 => ?_)
  subst h1198
  refine lv_aload_n hx hb dL_law_1201 rfl (lv_at hl 2 rfl) ?_
  refine lv_aload_n hx hb dL_law_1202 rfl (lv_at hl 0 rfl) ?_
  refine lv_iload_n hx hb dL_law_1203 rfl (lv_at hl 3 rfl) ?_
  refine lv_iconst (v := nI 1) hx hb dL_law_1204 (by decide) ?_
  refine n_iadd (a := i) (b := 1) hx hb dL_law_1205 ?_
  refine n_sld (k := (i + 1)) hx hb hX hbl hbA hS (by omega) hL2 dL_law_1206 ?_
  have hPc : PP g (wM g y ya yb yc yd ye yf yg yh yi yj yk yl ft tr lane ml cel np sl kd hg ps rs rn rk rh lg fk gt tkn nr ru rl rm rd) _ := (P_r hP lz_wX lz_wM)
  refine zcallR (va_runV (As := [.int (xs (i + 1))]) (rest := [.int (sp_many np sl nr (xs (i + 1)))]) (b := y) S0 (c_X5_many l g y ya yb yc yd ye yf yg yh yi yj yk yl ft tr lane ml cel np sl kd hg ps rs rn rk rh lg fk gt tkn nr ru rl rm rd (xs (i + 1))) (cwV 1 hts gL_law_X5_many rfl rfl rfl (by decide +kernel) ⟨by decide, by decide⟩) (zpreV hK hPc (va_recv hK.1 hPc (ci := 5) (q0 := 0) rfl rfl)) rfl rfl hl.1 rfl (lv_room (Nat.le_of_ble_eq_true rfl)) dL_law_1207 ⟨Nat.le_of_ble_eq_true rfl, Nat.le_of_ble_eq_true rfl⟩) (fun r1207 h1207 => ?_)
  subst h1207
  refine lv_icmp_eq (tgt := 1215) hx hb dL_law_1210 (by decide) (fun _ => ?_) (fun c9 => absurd rfl c9)
  exact next _ _ ls ⟨sh, co, ck, ch, cl, vo, vpa, vma, re, rua, rla, rma, rda, sad, cad, ya, yb, yc, yd, ye, yf, yg, yh, yi, yj, yk, yl, tr, ft, np, sl, kd, hg, nr, ru, rl, rm, rd, lane, ml, cel, lk, vn, vp, vm, ps, rs, rn, rk, rh, lg, fk, gt, tkn, hG, hP, hD, hS⟩ hl
