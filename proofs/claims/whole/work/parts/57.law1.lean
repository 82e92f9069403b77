theorem lcmp_rf (z : Int64) : lg_cmp z z = 0 := by
  unfold lg_cmp
  first
    | (rw [if_neg (Int64.lt_irrefl), if_neg (Int64.lt_irrefl)])
    | (rw [if_neg (Int64.lt_irrefl), if_pos rfl])
    | (rw [if_pos rfl])
    | (simp)
set_option maxHeartbeats 4000000 in
set_option maxRecDepth 100000 in
theorem lawc_0 {P : Program} {l : Launch} {E : Env} {s : State} {mt : MethodId} {below : List Frame} {meth : Method} {cd : Code} {b L : Nat} {xs : Nat → Int32} {g : Gx} {x y : Nat} {Q : State → Prop} (hC : LawC P s mt cd b L xs g) {i : Nat} (hi : i + 7 ≤ L) {H : Heap} {locs : List Loc} {ls : Array Slot} (hI : LawI g s x y H locs) (hl : lv_has ls 4 [(0, .ref b), (1, .ref x), (2, .ref y), (3, .int (nI i))]) (next : ∀ (H : Heap) (locs : List Loc) (ls : Array Slot), LawI g s x y H locs → lv_has ls 4 [(0, .ref b), (1, .ref x), (2, .ref y), (3, .int (nI i))] → W P l E room_1 s mt [Value.ref b].toArray below meth cd H locs 35 734 Q (F0 mt 1215 ls [])) : W P l E room_1 s mt [Value.ref b].toArray below meth cd H locs 35 734 Q (F0 mt 172 ls []) := by
  obtain ⟨hx, hb, S0, hX, hbl, hK, hL⟩ := hC
  have hts := S0.2.2.2.2
  obtain ⟨sh, co, ck, ch, cl, vo, vpa, vma, re, rua, rla, rma, rda, sad, cad, ya, yb, yc, yd, ye, yf, yg, yh, yi, yj, yk, yl, tr, ft, np, sl, kd, hg, nr, ru, rl, rm, rd, lane, ml, cel, lk, vn, vp, vm, ps, rs, rn, rk, rh, lg, fk, gt, tkn, hG, hP, hD, hS⟩ := hI
  have hbA : ¬ (fun q : Nat => s.heap.size ≤ q) b := Nat.not_le.mpr hbl
  have hL2 : L < 2 ^ 31 := by omega
  refine lv_aload_n hx hb dL_law_172 rfl (lv_at hl 1 rfl) ?_
  refine lv_aload_n hx hb dL_law_173 rfl (lv_at hl 0 rfl) ?_
  refine lv_iload_n hx hb dL_law_174 rfl (lv_at hl 3 rfl) ?_
  refine lv_iconst (v := nI 1) hx hb dL_law_175 (by decide) ?_
  refine n_iadd (a := i) (b := 1) hx hb dL_law_176 ?_
  refine n_sld (k := (i + 1)) hx hb hX hbl hbA hS (by omega) hL2 dL_law_177 ?_
  refine lv_aload_n hx hb dL_law_178 rfl (lv_at hl 0 rfl) ?_
  refine lv_iload_n hx hb dL_law_179 rfl (lv_at hl 3 rfl) ?_
  refine lv_iconst (v := nI 2) hx hb dL_law_180 (by decide) ?_
  refine n_iadd (a := i) (b := 2) hx hb dL_law_181 ?_
  refine n_sld (k := (i + 2)) hx hb hX hbl hbA hS (by omega) hL2 dL_law_182 ?_
  refine lv_aload_n hx hb dL_law_183 rfl (lv_at hl 0 rfl) ?_
  refine lv_iload_n hx hb dL_law_184 rfl (lv_at hl 3 rfl) ?_
  refine lv_iconst (v := nI 3) hx hb dL_law_185 (by decide) ?_
  refine n_iadd (a := i) (b := 3) hx hb dL_law_186 ?_
  refine n_sld (k := (i + 3)) hx hb hX hbl hbA hS (by omega) hL2 dL_law_187 ?_
  refine lv_aload_n hx hb dL_law_188 rfl (lv_at hl 0 rfl) ?_
  refine lv_iload_n hx hb dL_law_189 rfl (lv_at hl 3 rfl) ?_
  refine lv_iconst (v := nI 4) hx hb dL_law_190 (by decide) ?_
  refine n_iadd (a := i) (b := 4) hx hb dL_law_191 ?_
  refine n_sld (k := (i + 4)) hx hb hX hbl hbA hS (by omega) hL2 dL_law_192 ?_
  have hPc : PP g (wX g x sh co ck ch cl vo vpa vma re rua rla rma rda sad cad tr ft np sl kd hg lk vn vp vm nr ru rl rm rd lane ml cel) _ := (P_l hP lz_wX)
  refine zcallM (w := wX g x sh co ck ch cl vo vpa vma re rua rla rma rda sad cad tr ft np sl kd hg lk vn vp vm nr ru rl rm rd lane ml cel) (va_runV (As := [.int (xs (i + 1)), .int (xs (i + 2)), .int (xs (i + 3)), .int (xs (i + 4))]) (rest := []) (b := x) S0 (c_X4_coast l g x sh co ck ch cl vo vpa vma re rua rla rma rda sad cad tr ft np sl kd hg lk vn vp vm nr ru rl rm rd lane ml cel (xs (i + 1)) (xs (i + 2)) (xs (i + 3)) (xs (i + 4)) hG) (cwV 4 hts gL_law_X4_coast rfl rfl rfl (by decide +kernel) ⟨by decide, by decide⟩) (zpreVM hK hP hD isX (cW_l lz_wX) ndX (va_recv hK.1 hPc (ci := 4) (q0 := 0) rfl rfl)) rfl rfl hl.1 rfl (lv_room (Nat.le_of_ble_eq_true rfl)) dL_law_193 ⟨Nat.le_of_ble_eq_true rfl, Nat.le_of_ble_eq_true rfl⟩) hP hD hS isX (cW_l lz_wX) (fun (u193 : Unit) => wX g x sh co ck ch cl vo vpa vma re rua rla rma rda sad cad tr (ft_coast lane ml (xs (i + 1)) (xs (i + 2)) (xs (i + 3)) (xs (i + 4))) (sc_np lane ml cel (xs (i + 1)) (xs (i + 2)) (xs (i + 3)) (xs (i + 4)) np) (sc_sl lane ml cel (xs (i + 1)) (xs (i + 2)) (xs (i + 3)) (xs (i + 4)) sl) (sc_kd lane ml cel (xs (i + 1)) (xs (i + 2)) (xs (i + 3)) (xs (i + 4)) kd) (sc_hg lane ml cel (xs (i + 1)) (xs (i + 2)) (xs (i + 3)) (xs (i + 4)) hg) lk vn vp vm (sc_nr lane ml cel (xs (i + 1)) (xs (i + 2)) (xs (i + 3)) (xs (i + 4)) nr) ru rl rm rd lane ml cel ++ wM g y ya yb yc yd ye yf yg yh yi yj yk yl ft tr lane ml cel np sl kd hg ps rs rn rk rh lg fk gt tkn nr ru rl rm rd) (fun _ => lz_wX.trans lz_wX.symm) (fun _ => sW_l lz_wX lz_wX) (fun _ => adW_l (ad_wX.trans ad_wX.symm)) (fun r193 u193 H locs h193 hP hD hS => ?_)
  subst h193
  refine lv_aload_n hx hb dL_law_196 rfl (lv_at hl 2 rfl) ?_
  refine lv_aload_n hx hb dL_law_197 rfl (lv_at hl 0 rfl) ?_
  refine lv_iload_n hx hb dL_law_198 rfl (lv_at hl 3 rfl) ?_
  refine lv_iconst (v := nI 1) hx hb dL_law_199 (by decide) ?_
  refine n_iadd (a := i) (b := 1) hx hb dL_law_200 ?_
  refine n_sld (k := (i + 1)) hx hb hX hbl hbA hS (by omega) hL2 dL_law_201 ?_
  refine lv_aload_n hx hb dL_law_202 rfl (lv_at hl 0 rfl) ?_
  refine lv_iload_n hx hb dL_law_203 rfl (lv_at hl 3 rfl) ?_
  refine lv_iconst (v := nI 2) hx hb dL_law_204 (by decide) ?_
  refine n_iadd (a := i) (b := 2) hx hb dL_law_205 ?_
  refine n_sld (k := (i + 2)) hx hb hX hbl hbA hS (by omega) hL2 dL_law_206 ?_
  refine lv_aload_n hx hb dL_law_207 rfl (lv_at hl 0 rfl) ?_
  refine lv_iload_n hx hb dL_law_208 rfl (lv_at hl 3 rfl) ?_
  refine lv_iconst (v := nI 3) hx hb dL_law_209 (by decide) ?_
  refine n_iadd (a := i) (b := 3) hx hb dL_law_210 ?_
  refine n_sld (k := (i + 3)) hx hb hX hbl hbA hS (by omega) hL2 dL_law_211 ?_
  refine lv_aload_n hx hb dL_law_212 rfl (lv_at hl 0 rfl) ?_
  refine lv_iload_n hx hb dL_law_213 rfl (lv_at hl 3 rfl) ?_
  refine lv_iconst (v := nI 4) hx hb dL_law_214 (by decide) ?_
  refine n_iadd (a := i) (b := 4) hx hb dL_law_215 ?_
  refine n_sld (k := (i + 4)) hx hb hX hbl hbA hS (by omega) hL2 dL_law_216 ?_
  have hPc : PP g (wM g y ya yb yc yd ye yf yg yh yi yj yk yl ft tr lane ml cel np sl kd hg ps rs rn rk rh lg fk gt tkn nr ru rl rm rd) _ := (P_r hP lz_wX lz_wM)
  refine zcallM (w := wM g y ya yb yc yd ye yf yg yh yi yj yk yl ft tr lane ml cel np sl kd hg ps rs rn rk rh lg fk gt tkn nr ru rl rm rd) (va_runV (As := [.int (xs (i + 1)), .int (xs (i + 2)), .int (xs (i + 3)), .int (xs (i + 4))]) (rest := [.int (sp_coast lane ml cel (xs (i + 1)) (xs (i + 2)) (xs (i + 3)) (xs (i + 4)))]) (b := y) S0 (c_X5_coast l g y ya yb yc yd ye yf yg yh yi yj yk yl ft tr lane ml cel np sl kd hg ps rs rn rk rh lg fk gt tkn nr ru rl rm rd (xs (i + 1)) (xs (i + 2)) (xs (i + 3)) (xs (i + 4)) hG) (cwV 4 hts gL_law_X5_coast rfl rfl rfl (by decide +kernel) ⟨by decide, by decide⟩) (zpreVM hK hP hD isM (cW_r lz_wX lz_wM) ndM (va_recv hK.1 hPc (ci := 5) (q0 := 0) rfl rfl)) rfl rfl hl.1 rfl (lv_room (Nat.le_of_ble_eq_true rfl)) dL_law_217 ⟨Nat.le_of_ble_eq_true rfl, Nat.le_of_ble_eq_true rfl⟩) hP hD hS isM (cW_r lz_wX lz_wM) (fun (u217 : Nat × Int32 × Nat × (Nat → Int32) × (Nat → Int32)) => wX g x sh co ck ch cl vo vpa vma re rua rla rma rda sad cad tr (ft_coast lane ml (xs (i + 1)) (xs (i + 2)) (xs (i + 3)) (xs (i + 4))) (sc_np lane ml cel (xs (i + 1)) (xs (i + 2)) (xs (i + 3)) (xs (i + 4)) np) (sc_sl lane ml cel (xs (i + 1)) (xs (i + 2)) (xs (i + 3)) (xs (i + 4)) sl) (sc_kd lane ml cel (xs (i + 1)) (xs (i + 2)) (xs (i + 3)) (xs (i + 4)) kd) (sc_hg lane ml cel (xs (i + 1)) (xs (i + 2)) (xs (i + 3)) (xs (i + 4)) hg) lk vn vp vm (sc_nr lane ml cel (xs (i + 1)) (xs (i + 2)) (xs (i + 3)) (xs (i + 4)) nr) ru rl rm rd lane ml cel ++ wM g y ya yb yc yd ye yf yg yh yi yj yk yl (ft_coast lane ml (xs (i + 1)) (xs (i + 2)) (xs (i + 3)) (xs (i + 4))) tr lane ml cel (sc_np lane ml cel (xs (i + 1)) (xs (i + 2)) (xs (i + 3)) (xs (i + 4)) np) (sc_sl lane ml cel (xs (i + 1)) (xs (i + 2)) (xs (i + 3)) (xs (i + 4)) sl) (sc_kd lane ml cel (xs (i + 1)) (xs (i + 2)) (xs (i + 3)) (xs (i + 4)) kd) (sc_hg lane ml cel (xs (i + 1)) (xs (i + 2)) (xs (i + 3)) (xs (i + 4)) hg) u217.1 u217.2.1 u217.2.2.1 u217.2.2.2.1 u217.2.2.2.2 lg fk gt tkn (sc_nr lane ml cel (xs (i + 1)) (xs (i + 2)) (xs (i + 3)) (xs (i + 4)) nr) ru rl rm rd) (fun _ => lz_wM.trans lz_wM.symm) (fun _ => sW_r lz_wX lz_wM lz_wM) (fun _ => adW_r (ad_wM.trans ad_wM.symm)) (fun r217 u217 H locs h217 hP hD hS => ?_)
  subst h217
  refine lv_icmp_eq (tgt := 1215) hx hb dL_law_220 (by decide) (fun _ => ?_) (fun c9 => absurd rfl c9)
  exact next _ _ ls ⟨sh, co, ck, ch, cl, vo, vpa, vma, re, rua, rla, rma, rda, sad, cad, ya, yb, yc, yd, ye, yf, yg, yh, yi, yj, yk, yl, tr, ft_coast lane ml (xs (i + 1)) (xs (i + 2)) (xs (i + 3)) (xs (i + 4)), sc_np lane ml cel (xs (i + 1)) (xs (i + 2)) (xs (i + 3)) (xs (i + 4)) np, sc_sl lane ml cel (xs (i + 1)) (xs (i + 2)) (xs (i + 3)) (xs (i + 4)) sl, sc_kd lane ml cel (xs (i + 1)) (xs (i + 2)) (xs (i + 3)) (xs (i + 4)) kd, sc_hg lane ml cel (xs (i + 1)) (xs (i + 2)) (xs (i + 3)) (xs (i + 4)) hg, sc_nr lane ml cel (xs (i + 1)) (xs (i + 2)) (xs (i + 3)) (xs (i + 4)) nr, ru, rl, rm, rd, lane, ml, cel, lk, vn, vp, vm, u217.1, u217.2.1, u217.2.2.1, u217.2.2.2.1, u217.2.2.2.2, lg, fk, gt, tkn, (Gd_coast hG (xs (i + 1)) (xs (i + 2)) (xs (i + 3)) (xs (i + 4))), hP, hD, hS⟩ hl

set_option maxHeartbeats 4000000 in
set_option maxRecDepth 100000 in
theorem lawc_1 {P : Program} {l : Launch} {E : Env} {s : State} {mt : MethodId} {below : List Frame} {meth : Method} {cd : Code} {b L : Nat} {xs : Nat → Int32} {g : Gx} {x y : Nat} {Q : State → Prop} (hC : LawC P s mt cd b L xs g) {i : Nat} (hi : i + 7 ≤ L) {H : Heap} {locs : List Loc} {ls : Array Slot} (hI : LawI g s x y H locs) (hl : lv_has ls 4 [(0, .ref b), (1, .ref x), (2, .ref y), (3, .int (nI i))]) (next : ∀ (H : Heap) (locs : List Loc) (ls : Array Slot), LawI g s x y H locs → lv_has ls 4 [(0, .ref b), (1, .ref x), (2, .ref y), (3, .int (nI i))] → W P l E room_1 s mt [Value.ref b].toArray below meth cd H locs 35 734 Q (F0 mt 1215 ls [])) : W P l E room_1 s mt [Value.ref b].toArray below meth cd H locs 35 734 Q (F0 mt 225 ls []) := by
  obtain ⟨hx, hb, S0, hX, hbl, hK, hL⟩ := hC
  have hts := S0.2.2.2.2
  obtain ⟨sh, co, ck, ch, cl, vo, vpa, vma, re, rua, rla, rma, rda, sad, cad, ya, yb, yc, yd, ye, yf, yg, yh, yi, yj, yk, yl, tr, ft, np, sl, kd, hg, nr, ru, rl, rm, rd, lane, ml, cel, lk, vn, vp, vm, ps, rs, rn, rk, rh, lg, fk, gt, tkn, hG, hP, hD, hS⟩ := hI
  have hbA : ¬ (fun q : Nat => s.heap.size ≤ q) b := Nat.not_le.mpr hbl
  have hL2 : L < 2 ^ 31 := by omega
  refine lv_aload_n hx hb dL_law_225 rfl (lv_at hl 1 rfl) ?_
  refine lv_aload_n hx hb dL_law_226 rfl (lv_at hl 0 rfl) ?_
  refine lv_iload_n hx hb dL_law_227 rfl (lv_at hl 3 rfl) ?_
  refine lv_iconst (v := nI 1) hx hb dL_law_228 (by decide) ?_
  refine n_iadd (a := i) (b := 1) hx hb dL_law_229 ?_
  refine n_sld (k := (i + 1)) hx hb hX hbl hbA hS (by omega) hL2 dL_law_230 ?_
  refine lv_aload_n hx hb dL_law_231 rfl (lv_at hl 0 rfl) ?_
  refine lv_iload_n hx hb dL_law_232 rfl (lv_at hl 3 rfl) ?_
  refine lv_iconst (v := nI 2) hx hb dL_law_233 (by decide) ?_
  refine n_iadd (a := i) (b := 2) hx hb dL_law_234 ?_
  refine n_sld (k := (i + 2)) hx hb hX hbl hbA hS (by omega) hL2 dL_law_235 ?_
  have hPc : PP g (wX g x sh co ck ch cl vo vpa vma re rua rla rma rda sad cad tr ft np sl kd hg lk vn vp vm nr ru rl rm rd lane ml cel) _ := (P_l hP lz_wX)
  refine zcallR (va_runV (As := [.int (xs (i + 1)), .int (xs (i + 2))]) (rest := []) (b := x) S0 (c_X4_ofPass l g x sh co ck ch cl vo vpa vma re rua rla rma rda sad cad tr ft np sl kd hg lk vn vp vm nr ru rl rm rd lane ml cel (xs (i + 1)) (xs (i + 2)) hG) (cwV 2 hts gL_law_X4_ofPass rfl rfl rfl (by decide +kernel) ⟨by decide, by decide⟩) (zpreV hK hPc (va_recv hK.1 hPc (ci := 4) (q0 := 0) rfl rfl)) rfl rfl hl.1 rfl (lv_room (Nat.le_of_ble_eq_true rfl)) dL_law_236 ⟨Nat.le_of_ble_eq_true rfl, Nat.le_of_ble_eq_true rfl⟩) (fun r236 h236 => ?_)
  subst h236
  refine lv_aload_n hx hb dL_law_239 rfl (lv_at hl 2 rfl) ?_
  refine lv_aload_n hx hb dL_law_240 rfl (lv_at hl 0 rfl) ?_
  refine lv_iload_n hx hb dL_law_241 rfl (lv_at hl 3 rfl) ?_
  refine lv_iconst (v := nI 1) hx hb dL_law_242 (by decide) ?_
  refine n_iadd (a := i) (b := 1) hx hb dL_law_243 ?_
  refine n_sld (k := (i + 1)) hx hb hX hbl hbA hS (by omega) hL2 dL_law_244 ?_
  refine lv_aload_n hx hb dL_law_245 rfl (lv_at hl 0 rfl) ?_
  refine lv_iload_n hx hb dL_law_246 rfl (lv_at hl 3 rfl) ?_
  refine lv_iconst (v := nI 2) hx hb dL_law_247 (by decide) ?_
  refine n_iadd (a := i) (b := 2) hx hb dL_law_248 ?_
  refine n_sld (k := (i + 2)) hx hb hX hbl hbA hS (by omega) hL2 dL_law_249 ?_
  have hPc : PP g (wM g y ya yb yc yd ye yf yg yh yi yj yk yl ft tr lane ml cel np sl kd hg ps rs rn rk rh lg fk gt tkn nr ru rl rm rd) _ := (P_r hP lz_wX lz_wM)
  refine zcallR (va_runV (As := [.int (xs (i + 1)), .int (xs (i + 2))]) (rest := [.int (sp_ofPass np kd hg (xs (i + 1)) (xs (i + 2)))]) (b := y) S0 (c_X5_ofPass l g y ya yb yc yd ye yf yg yh yi yj yk yl ft tr lane ml cel np sl kd hg ps rs rn rk rh lg fk gt tkn nr ru rl rm rd (xs (i + 1)) (xs (i + 2)) hG) (cwV 2 hts gL_law_X5_ofPass rfl rfl rfl (by decide +kernel) ⟨by decide, by decide⟩) (zpreV hK hPc (va_recv hK.1 hPc (ci := 5) (q0 := 0) rfl rfl)) rfl rfl hl.1 rfl (lv_room (Nat.le_of_ble_eq_true rfl)) dL_law_250 ⟨Nat.le_of_ble_eq_true rfl, Nat.le_of_ble_eq_true rfl⟩) (fun r250 h250 => ?_)
  subst h250
  refine lv_icmp_eq (tgt := 1215) hx hb dL_law_253 (by decide) (fun _ => ?_) (fun c9 => absurd rfl c9)
  exact next _ _ ls ⟨sh, co, ck, ch, cl, vo, vpa, vma, re, rua, rla, rma, rda, sad, cad, ya, yb, yc, yd, ye, yf, yg, yh, yi, yj, yk, yl, tr, ft, np, sl, kd, hg, nr, ru, rl, rm, rd, lane, ml, cel, lk, vn, vp, vm, ps, rs, rn, rk, rh, lg, fk, gt, tkn, hG, hP, hD, hS⟩ hl

set_option maxHeartbeats 4000000 in
set_option maxRecDepth 100000 in
theorem lawc_2 {P : Program} {l : Launch} {E : Env} {s : State} {mt : MethodId} {below : List Frame} {meth : Method} {cd : Code} {b L : Nat} {xs : Nat → Int32} {g : Gx} {x y : Nat} {Q : State → Prop} (hC : LawC P s mt cd b L xs g) {i : Nat} (hi : i + 7 ≤ L) {H : Heap} {locs : List Loc} {ls : Array Slot} (hI : LawI g s x y H locs) (hl : lv_has ls 4 [(0, .ref b), (1, .ref x), (2, .ref y), (3, .int (nI i))]) (next : ∀ (H : Heap) (locs : List Loc) (ls : Array Slot), LawI g s x y H locs → lv_has ls 4 [(0, .ref b), (1, .ref x), (2, .ref y), (3, .int (nI i))] → W P l E room_1 s mt [Value.ref b].toArray below meth cd H locs 35 734 Q (F0 mt 1215 ls [])) : W P l E room_1 s mt [Value.ref b].toArray below meth cd H locs 35 734 Q (F0 mt 258 ls []) := by
  obtain ⟨hx, hb, S0, hX, hbl, hK, hL⟩ := hC
  have hts := S0.2.2.2.2
  obtain ⟨sh, co, ck, ch, cl, vo, vpa, vma, re, rua, rla, rma, rda, sad, cad, ya, yb, yc, yd, ye, yf, yg, yh, yi, yj, yk, yl, tr, ft, np, sl, kd, hg, nr, ru, rl, rm, rd, lane, ml, cel, lk, vn, vp, vm, ps, rs, rn, rk, rh, lg, fk, gt, tkn, hG, hP, hD, hS⟩ := hI
  have hbA : ¬ (fun q : Nat => s.heap.size ≤ q) b := Nat.not_le.mpr hbl
  have hL2 : L < 2 ^ 31 := by omega
  refine lv_aload_n hx hb dL_law_258 rfl (lv_at hl 1 rfl) ?_
  refine lv_aload_n hx hb dL_law_259 rfl (lv_at hl 0 rfl) ?_
  refine lv_iload_n hx hb dL_law_260 rfl (lv_at hl 3 rfl) ?_
  refine lv_iconst (v := nI 1) hx hb dL_law_261 (by decide) ?_
  refine n_iadd (a := i) (b := 1) hx hb dL_law_262 ?_
  refine n_sld (k := (i + 1)) hx hb hX hbl hbA hS (by omega) hL2 dL_law_263 ?_
  refine lv_aload_n hx hb dL_law_264 rfl (lv_at hl 0 rfl) ?_
  refine lv_iload_n hx hb dL_law_265 rfl (lv_at hl 3 rfl) ?_
  refine lv_iconst (v := nI 2) hx hb dL_law_266 (by decide) ?_
  refine n_iadd (a := i) (b := 2) hx hb dL_law_267 ?_
  refine n_sld (k := (i + 2)) hx hb hX hbl hbA hS (by omega) hL2 dL_law_268 ?_
  refine lv_aload_n hx hb dL_law_269 rfl (lv_at hl 0 rfl) ?_
  refine lv_iload_n hx hb dL_law_270 rfl (lv_at hl 3 rfl) ?_
  refine lv_iconst (v := nI 3) hx hb dL_law_271 (by decide) ?_
  refine n_iadd (a := i) (b := 3) hx hb dL_law_272 ?_
  refine n_sld (k := (i + 3)) hx hb hX hbl hbA hS (by omega) hL2 dL_law_273 ?_
  have hPc : PP g (wX g x sh co ck ch cl vo vpa vma re rua rla rma rda sad cad tr ft np sl kd hg lk vn vp vm nr ru rl rm rd lane ml cel) _ := (P_l hP lz_wX)
  refine zcallM (w := wX g x sh co ck ch cl vo vpa vma re rua rla rma rda sad cad tr ft np sl kd hg lk vn vp vm nr ru rl rm rd lane ml cel) (va_runV (As := [.int (xs (i + 1)), .int (xs (i + 2)), .int (xs (i + 3))]) (rest := []) (b := x) S0 (c_X4_trim l g x sh co ck ch cl vo vpa vma re rua rla rma rda sad cad tr ft np sl kd hg lk vn vp vm nr ru rl rm rd lane ml cel (xs (i + 1)) (xs (i + 2)) (xs (i + 3)) hG) (cwV 3 hts gL_law_X4_trim rfl rfl rfl (by decide +kernel) ⟨by decide, by decide⟩) (zpreVM hK hP hD isX (cW_l lz_wX) ndX (va_recv hK.1 hPc (ci := 4) (q0 := 0) rfl rfl)) rfl rfl hl.1 rfl (lv_room (Nat.le_of_ble_eq_true rfl)) dL_law_274 ⟨Nat.le_of_ble_eq_true rfl, Nat.le_of_ble_eq_true rfl⟩) hP hD hS isX (cW_l lz_wX) (fun (u274 : Unit) => wX g x sh co ck ch cl vo vpa vma re rua rla rma rda sad cad tr ft np sl kd (st_trim np hg (xs (i + 1)) (xs (i + 2)) (xs (i + 3))) lk vn vp vm nr ru rl rm rd lane ml cel ++ wM g y ya yb yc yd ye yf yg yh yi yj yk yl ft tr lane ml cel np sl kd hg ps rs rn rk rh lg fk gt tkn nr ru rl rm rd) (fun _ => lz_wX.trans lz_wX.symm) (fun _ => sW_l lz_wX lz_wX) (fun _ => adW_l (ad_wX.trans ad_wX.symm)) (fun r274 u274 H locs h274 hP hD hS => ?_)
  subst h274
  refine lv_aload_n hx hb dL_law_277 rfl (lv_at hl 2 rfl) ?_
  refine lv_aload_n hx hb dL_law_278 rfl (lv_at hl 0 rfl) ?_
  refine lv_iload_n hx hb dL_law_279 rfl (lv_at hl 3 rfl) ?_
  refine lv_iconst (v := nI 1) hx hb dL_law_280 (by decide) ?_
  refine n_iadd (a := i) (b := 1) hx hb dL_law_281 ?_
  refine n_sld (k := (i + 1)) hx hb hX hbl hbA hS (by omega) hL2 dL_law_282 ?_
  refine lv_aload_n hx hb dL_law_283 rfl (lv_at hl 0 rfl) ?_
  refine lv_iload_n hx hb dL_law_284 rfl (lv_at hl 3 rfl) ?_
  refine lv_iconst (v := nI 2) hx hb dL_law_285 (by decide) ?_
  refine n_iadd (a := i) (b := 2) hx hb dL_law_286 ?_
  refine n_sld (k := (i + 2)) hx hb hX hbl hbA hS (by omega) hL2 dL_law_287 ?_
  refine lv_aload_n hx hb dL_law_288 rfl (lv_at hl 0 rfl) ?_
  refine lv_iload_n hx hb dL_law_289 rfl (lv_at hl 3 rfl) ?_
  refine lv_iconst (v := nI 3) hx hb dL_law_290 (by decide) ?_
  refine n_iadd (a := i) (b := 3) hx hb dL_law_291 ?_
  refine n_sld (k := (i + 3)) hx hb hX hbl hbA hS (by omega) hL2 dL_law_292 ?_
  have hPc : PP g (wM g y ya yb yc yd ye yf yg yh yi yj yk yl ft tr lane ml cel np sl kd hg ps rs rn rk rh lg fk gt tkn nr ru rl rm rd) _ := (P_r hP lz_wX lz_wM)
  refine zcallM (w := wM g y ya yb yc yd ye yf yg yh yi yj yk yl ft tr lane ml cel np sl kd hg ps rs rn rk rh lg fk gt tkn nr ru rl rm rd) (va_runV (As := [.int (xs (i + 1)), .int (xs (i + 2)), .int (xs (i + 3))]) (rest := [.int (sp_trim np hg (xs (i + 1)) (xs (i + 2)) (xs (i + 3)))]) (b := y) S0 (c_X5_trim l g y ya yb yc yd ye yf yg yh yi yj yk yl ft tr lane ml cel np sl kd hg ps rs rn rk rh lg fk gt tkn nr ru rl rm rd (xs (i + 1)) (xs (i + 2)) (xs (i + 3)) hG) (cwV 3 hts gL_law_X5_trim rfl rfl rfl (by decide +kernel) ⟨by decide, by decide⟩) (zpreVM hK hP hD isM (cW_r lz_wX lz_wM) ndM (va_recv hK.1 hPc (ci := 5) (q0 := 0) rfl rfl)) rfl rfl hl.1 rfl (lv_room (Nat.le_of_ble_eq_true rfl)) dL_law_293 ⟨Nat.le_of_ble_eq_true rfl, Nat.le_of_ble_eq_true rfl⟩) hP hD hS isM (cW_r lz_wX lz_wM) (fun (u293 : Unit) => wX g x sh co ck ch cl vo vpa vma re rua rla rma rda sad cad tr ft np sl kd (st_trim np hg (xs (i + 1)) (xs (i + 2)) (xs (i + 3))) lk vn vp vm nr ru rl rm rd lane ml cel ++ wM g y ya yb yc yd ye yf yg yh yi yj yk yl ft tr lane ml cel np sl kd (st_trim np hg (xs (i + 1)) (xs (i + 2)) (xs (i + 3))) ps rs rn rk rh lg fk gt tkn nr ru rl rm rd) (fun _ => lz_wM.trans lz_wM.symm) (fun _ => sW_r lz_wX lz_wM lz_wM) (fun _ => adW_r (ad_wM.trans ad_wM.symm)) (fun r293 u293 H locs h293 hP hD hS => ?_)
  subst h293
  refine lv_icmp_eq (tgt := 1215) hx hb dL_law_296 (by decide) (fun _ => ?_) (fun c9 => absurd rfl c9)
  exact next _ _ ls ⟨sh, co, ck, ch, cl, vo, vpa, vma, re, rua, rla, rma, rda, sad, cad, ya, yb, yc, yd, ye, yf, yg, yh, yi, yj, yk, yl, tr, ft, np, sl, kd, st_trim np hg (xs (i + 1)) (xs (i + 2)) (xs (i + 3)), nr, ru, rl, rm, rd, lane, ml, cel, lk, vn, vp, vm, ps, rs, rn, rk, rh, lg, fk, gt, tkn, (Gd_trim hG (xs (i + 1)) (xs (i + 2)) (xs (i + 3))), hP, hD, hS⟩ hl

set_option maxHeartbeats 4000000 in
set_option maxRecDepth 100000 in
theorem lawc_3 {P : Program} {l : Launch} {E : Env} {s : State} {mt : MethodId} {below : List Frame} {meth : Method} {cd : Code} {b L : Nat} {xs : Nat → Int32} {g : Gx} {x y : Nat} {Q : State → Prop} (hC : LawC P s mt cd b L xs g) {i : Nat} (hi : i + 7 ≤ L) {H : Heap} {locs : List Loc} {ls : Array Slot} (hI : LawI g s x y H locs) (hl : lv_has ls 4 [(0, .ref b), (1, .ref x), (2, .ref y), (3, .int (nI i))]) (next : ∀ (H : Heap) (locs : List Loc) (ls : Array Slot), LawI g s x y H locs → lv_has ls 4 [(0, .ref b), (1, .ref x), (2, .ref y), (3, .int (nI i))] → W P l E room_1 s mt [Value.ref b].toArray below meth cd H locs 35 734 Q (F0 mt 1215 ls [])) : W P l E room_1 s mt [Value.ref b].toArray below meth cd H locs 35 734 Q (F0 mt 301 ls []) := by
  obtain ⟨hx, hb, S0, hX, hbl, hK, hL⟩ := hC
  have hts := S0.2.2.2.2
  obtain ⟨sh, co, ck, ch, cl, vo, vpa, vma, re, rua, rla, rma, rda, sad, cad, ya, yb, yc, yd, ye, yf, yg, yh, yi, yj, yk, yl, tr, ft, np, sl, kd, hg, nr, ru, rl, rm, rd, lane, ml, cel, lk, vn, vp, vm, ps, rs, rn, rk, rh, lg, fk, gt, tkn, hG, hP, hD, hS⟩ := hI
  have hbA : ¬ (fun q : Nat => s.heap.size ≤ q) b := Nat.not_le.mpr hbl
  have hL2 : L < 2 ^ 31 := by omega
  refine lv_aload_n hx hb dL_law_301 rfl (lv_at hl 1 rfl) ?_
  refine lv_aload_n hx hb dL_law_302 rfl (lv_at hl 0 rfl) ?_
  refine lv_iload_n hx hb dL_law_303 rfl (lv_at hl 3 rfl) ?_
  refine lv_iconst (v := nI 1) hx hb dL_law_304 (by decide) ?_
  refine n_iadd (a := i) (b := 1) hx hb dL_law_305 ?_
  refine n_sld (k := (i + 1)) hx hb hX hbl hbA hS (by omega) hL2 dL_law_306 ?_
  have hPc : PP g (wX g x sh co ck ch cl vo vpa vma re rua rla rma rda sad cad tr ft np sl kd hg lk vn vp vm nr ru rl rm rd lane ml cel) _ := (P_l hP lz_wX)
  refine zcallM (w := wX g x sh co ck ch cl vo vpa vma re rua rla rma rda sad cad tr ft np sl kd hg lk vn vp vm nr ru rl rm rd lane ml cel) (va_runV (As := [.int (xs (i + 1))]) (rest := []) (b := x) S0 (c_X4_slack l g x sh co ck ch cl vo vpa vma re rua rla rma rda sad cad tr ft np sl kd hg lk vn vp vm nr ru rl rm rd lane ml cel (xs (i + 1)) hG) (cwV 1 hts gL_law_X4_slack rfl rfl rfl (by decide +kernel) ⟨by decide, by decide⟩) (zpreVM hK hP hD isX (cW_l lz_wX) ndX (va_recv hK.1 hPc (ci := 4) (q0 := 0) rfl rfl)) rfl rfl hl.1 rfl (lv_room (Nat.le_of_ble_eq_true rfl)) dL_law_307 ⟨Nat.le_of_ble_eq_true rfl, Nat.le_of_ble_eq_true rfl⟩) hP hD hS isX (cW_l lz_wX) (fun (u307 : Unit) => wX g x sh co ck ch cl vo vpa vma re rua rla rma rda sad cad tr ft np (st_slack np sl (xs (i + 1))) kd hg lk vn vp vm nr ru rl rm rd lane ml cel ++ wM g y ya yb yc yd ye yf yg yh yi yj yk yl ft tr lane ml cel np sl kd hg ps rs rn rk rh lg fk gt tkn nr ru rl rm rd) (fun _ => lz_wX.trans lz_wX.symm) (fun _ => sW_l lz_wX lz_wX) (fun _ => adW_l (ad_wX.trans ad_wX.symm)) (fun r307 u307 H locs h307 hP hD hS => ?_)
  subst h307
  refine lv_aload_n hx hb dL_law_310 rfl (lv_at hl 2 rfl) ?_
  refine lv_aload_n hx hb dL_law_311 rfl (lv_at hl 0 rfl) ?_
  refine lv_iload_n hx hb dL_law_312 rfl (lv_at hl 3 rfl) ?_
  refine lv_iconst (v := nI 1) hx hb dL_law_313 (by decide) ?_
  refine n_iadd (a := i) (b := 1) hx hb dL_law_314 ?_
  refine n_sld (k := (i + 1)) hx hb hX hbl hbA hS (by omega) hL2 dL_law_315 ?_
  have hPc : PP g (wM g y ya yb yc yd ye yf yg yh yi yj yk yl ft tr lane ml cel np sl kd hg ps rs rn rk rh lg fk gt tkn nr ru rl rm rd) _ := (P_r hP lz_wX lz_wM)
  refine zcallM (w := wM g y ya yb yc yd ye yf yg yh yi yj yk yl ft tr lane ml cel np sl kd hg ps rs rn rk rh lg fk gt tkn nr ru rl rm rd) (va_runV (As := [.int (xs (i + 1))]) (rest := [.int (sp_slack np sl (xs (i + 1)))]) (b := y) S0 (c_X5_slack l g y ya yb yc yd ye yf yg yh yi yj yk yl ft tr lane ml cel np sl kd hg ps rs rn rk rh lg fk gt tkn nr ru rl rm rd (xs (i + 1)) hG) (cwV 1 hts gL_law_X5_slack rfl rfl rfl (by decide +kernel) ⟨by decide, by decide⟩) (zpreVM hK hP hD isM (cW_r lz_wX lz_wM) ndM (va_recv hK.1 hPc (ci := 5) (q0 := 0) rfl rfl)) rfl rfl hl.1 rfl (lv_room (Nat.le_of_ble_eq_true rfl)) dL_law_316 ⟨Nat.le_of_ble_eq_true rfl, Nat.le_of_ble_eq_true rfl⟩) hP hD hS isM (cW_r lz_wX lz_wM) (fun (u316 : Unit) => wX g x sh co ck ch cl vo vpa vma re rua rla rma rda sad cad tr ft np (st_slack np sl (xs (i + 1))) kd hg lk vn vp vm nr ru rl rm rd lane ml cel ++ wM g y ya yb yc yd ye yf yg yh yi yj yk yl ft tr lane ml cel np (st_slack np sl (xs (i + 1))) kd hg ps rs rn rk rh lg fk gt tkn nr ru rl rm rd) (fun _ => lz_wM.trans lz_wM.symm) (fun _ => sW_r lz_wX lz_wM lz_wM) (fun _ => adW_r (ad_wM.trans ad_wM.symm)) (fun r316 u316 H locs h316 hP hD hS => ?_)
  subst h316
  refine lv_icmp_eq (tgt := 1215) hx hb dL_law_319 (by decide) (fun _ => ?_) (fun c9 => absurd rfl c9)
  exact next _ _ ls ⟨sh, co, ck, ch, cl, vo, vpa, vma, re, rua, rla, rma, rda, sad, cad, ya, yb, yc, yd, ye, yf, yg, yh, yi, yj, yk, yl, tr, ft, np, st_slack np sl (xs (i + 1)), kd, hg, nr, ru, rl, rm, rd, lane, ml, cel, lk, vn, vp, vm, ps, rs, rn, rk, rh, lg, fk, gt, tkn, (Gd_slack hG (xs (i + 1))), hP, hD, hS⟩ hl

set_option maxHeartbeats 4000000 in
set_option maxRecDepth 100000 in
theorem lawc_4 {P : Program} {l : Launch} {E : Env} {s : State} {mt : MethodId} {below : List Frame} {meth : Method} {cd : Code} {b L : Nat} {xs : Nat → Int32} {g : Gx} {x y : Nat} {Q : State → Prop} (hC : LawC P s mt cd b L xs g) {i : Nat} (hi : i + 7 ≤ L) {H : Heap} {locs : List Loc} {ls : Array Slot} (hI : LawI g s x y H locs) (hl : lv_has ls 4 [(0, .ref b), (1, .ref x), (2, .ref y), (3, .int (nI i))]) (next : ∀ (H : Heap) (locs : List Loc) (ls : Array Slot), LawI g s x y H locs → lv_has ls 4 [(0, .ref b), (1, .ref x), (2, .ref y), (3, .int (nI i))] → W P l E room_1 s mt [Value.ref b].toArray below meth cd H locs 35 734 Q (F0 mt 1215 ls [])) : W P l E room_1 s mt [Value.ref b].toArray below meth cd H locs 35 734 Q (F0 mt 324 ls []) := by
  obtain ⟨hx, hb, S0, hX, hbl, hK, hL⟩ := hC
  have hts := S0.2.2.2.2
  obtain ⟨sh, co, ck, ch, cl, vo, vpa, vma, re, rua, rla, rma, rda, sad, cad, ya, yb, yc, yd, ye, yf, yg, yh, yi, yj, yk, yl, tr, ft, np, sl, kd, hg, nr, ru, rl, rm, rd, lane, ml, cel, lk, vn, vp, vm, ps, rs, rn, rk, rh, lg, fk, gt, tkn, hG, hP, hD, hS⟩ := hI
  have hbA : ¬ (fun q : Nat => s.heap.size ≤ q) b := Nat.not_le.mpr hbl
  have hL2 : L < 2 ^ 31 := by omega
  refine lv_aload_n hx hb dL_law_324 rfl (lv_at hl 1 rfl) ?_
  refine lv_aload_n hx hb dL_law_325 rfl (lv_at hl 0 rfl) ?_
  refine lv_iload_n hx hb dL_law_326 rfl (lv_at hl 3 rfl) ?_
  refine lv_iconst (v := nI 1) hx hb dL_law_327 (by decide) ?_
  refine n_iadd (a := i) (b := 1) hx hb dL_law_328 ?_
  refine n_sld (k := (i + 1)) hx hb hX hbl hbA hS (by omega) hL2 dL_law_329 ?_
  refine lv_aload_n hx hb dL_law_330 rfl (lv_at hl 0 rfl) ?_
  refine lv_iload_n hx hb dL_law_331 rfl (lv_at hl 3 rfl) ?_
  refine lv_iconst (v := nI 2) hx hb dL_law_332 (by decide) ?_
  refine n_iadd (a := i) (b := 2) hx hb dL_law_333 ?_
  refine n_sld (k := (i + 2)) hx hb hX hbl hbA hS (by omega) hL2 dL_law_334 ?_
  refine lv_aload_n hx hb dL_law_335 rfl (lv_at hl 0 rfl) ?_
  refine lv_iload_n hx hb dL_law_336 rfl (lv_at hl 3 rfl) ?_
  refine lv_iconst (v := nI 3) hx hb dL_law_337 (by decide) ?_
  refine n_iadd (a := i) (b := 3) hx hb dL_law_338 ?_
  refine n_sld (k := (i + 3)) hx hb hX hbl hbA hS (by omega) hL2 dL_law_339 ?_
  have hPc : PP g (wX g x sh co ck ch cl vo vpa vma re rua rla rma rda sad cad tr ft np sl kd hg lk vn vp vm nr ru rl rm rd lane ml cel) _ := (P_l hP lz_wX)
  refine zcallR (va_runV (As := [.int (xs (i + 1)), .int (xs (i + 2)), .int (xs (i + 3))]) (rest := []) (b := x) S0 (c_X4_worn l g x sh co ck ch cl vo vpa vma re rua rla rma rda sad cad tr ft np sl kd hg lk vn vp vm nr ru rl rm rd lane ml cel (xs (i + 1)) (xs (i + 2)) (xs (i + 3)) hG) (cwV 3 hts gL_law_X4_worn rfl rfl rfl (by decide +kernel) ⟨by decide, by decide⟩) (zpreV hK hPc (va_recv hK.1 hPc (ci := 4) (q0 := 0) rfl rfl)) rfl rfl hl.1 rfl (lv_room (Nat.le_of_ble_eq_true rfl)) dL_law_340 ⟨Nat.le_of_ble_eq_true rfl, Nat.le_of_ble_eq_true rfl⟩) (fun r340 h340 => ?_)
  subst h340
  refine lv_aload_n hx hb dL_law_343 rfl (lv_at hl 2 rfl) ?_
  refine lv_aload_n hx hb dL_law_344 rfl (lv_at hl 0 rfl) ?_
  refine lv_iload_n hx hb dL_law_345 rfl (lv_at hl 3 rfl) ?_
  refine lv_iconst (v := nI 1) hx hb dL_law_346 (by decide) ?_
  refine n_iadd (a := i) (b := 1) hx hb dL_law_347 ?_
  refine n_sld (k := (i + 1)) hx hb hX hbl hbA hS (by omega) hL2 dL_law_348 ?_
  refine lv_aload_n hx hb dL_law_349 rfl (lv_at hl 0 rfl) ?_
  refine lv_iload_n hx hb dL_law_350 rfl (lv_at hl 3 rfl) ?_
  refine lv_iconst (v := nI 2) hx hb dL_law_351 (by decide) ?_
  refine n_iadd (a := i) (b := 2) hx hb dL_law_352 ?_
  refine n_sld (k := (i + 2)) hx hb hX hbl hbA hS (by omega) hL2 dL_law_353 ?_
  refine lv_aload_n hx hb dL_law_354 rfl (lv_at hl 0 rfl) ?_
  refine lv_iload_n hx hb dL_law_355 rfl (lv_at hl 3 rfl) ?_
  refine lv_iconst (v := nI 3) hx hb dL_law_356 (by decide) ?_
  refine n_iadd (a := i) (b := 3) hx hb dL_law_357 ?_
  refine n_sld (k := (i + 3)) hx hb hX hbl hbA hS (by omega) hL2 dL_law_358 ?_
  have hPc : PP g (wM g y ya yb yc yd ye yf yg yh yi yj yk yl ft tr lane ml cel np sl kd hg ps rs rn rk rh lg fk gt tkn nr ru rl rm rd) _ := (P_r hP lz_wX lz_wM)
  refine zcallR (va_runV (As := [.int (xs (i + 1)), .int (xs (i + 2)), .int (xs (i + 3))]) (rest := [.int (sp_worn np kd hg (xs (i + 1)) (xs (i + 2)) (xs (i + 3)))]) (b := y) S0 (c_X5_worn l g y ya yb yc yd ye yf yg yh yi yj yk yl ft tr lane ml cel np sl kd hg ps rs rn rk rh lg fk gt tkn nr ru rl rm rd (xs (i + 1)) (xs (i + 2)) (xs (i + 3)) hG) (cwV 3 hts gL_law_X5_worn rfl rfl rfl (by decide +kernel) ⟨by decide, by decide⟩) (zpreV hK hPc (va_recv hK.1 hPc (ci := 5) (q0 := 0) rfl rfl)) rfl rfl hl.1 rfl (lv_room (Nat.le_of_ble_eq_true rfl)) dL_law_359 ⟨Nat.le_of_ble_eq_true rfl, Nat.le_of_ble_eq_true rfl⟩) (fun r359 h359 => ?_)
  subst h359
  refine lv_icmp_eq (tgt := 1215) hx hb dL_law_362 (by decide) (fun _ => ?_) (fun c9 => absurd rfl c9)
  exact next _ _ ls ⟨sh, co, ck, ch, cl, vo, vpa, vma, re, rua, rla, rma, rda, sad, cad, ya, yb, yc, yd, ye, yf, yg, yh, yi, yj, yk, yl, tr, ft, np, sl, kd, hg, nr, ru, rl, rm, rd, lane, ml, cel, lk, vn, vp, vm, ps, rs, rn, rk, rh, lg, fk, gt, tkn, hG, hP, hD, hS⟩ hl

set_option maxHeartbeats 4000000 in
set_option maxRecDepth 100000 in
theorem lawc_5 {P : Program} {l : Launch} {E : Env} {s : State} {mt : MethodId} {below : List Frame} {meth : Method} {cd : Code} {b L : Nat} {xs : Nat → Int32} {g : Gx} {x y : Nat} {Q : State → Prop} (hC : LawC P s mt cd b L xs g) {i : Nat} (hi : i + 7 ≤ L) {H : Heap} {locs : List Loc} {ls : Array Slot} (hI : LawI g s x y H locs) (hl : lv_has ls 4 [(0, .ref b), (1, .ref x), (2, .ref y), (3, .int (nI i))]) (next : ∀ (H : Heap) (locs : List Loc) (ls : Array Slot), LawI g s x y H locs → lv_has ls 4 [(0, .ref b), (1, .ref x), (2, .ref y), (3, .int (nI i))] → W P l E room_1 s mt [Value.ref b].toArray below meth cd H locs 35 734 Q (F0 mt 1215 ls [])) : W P l E room_1 s mt [Value.ref b].toArray below meth cd H locs 35 734 Q (F0 mt 367 ls []) := by
  obtain ⟨hx, hb, S0, hX, hbl, hK, hL⟩ := hC
  have hts := S0.2.2.2.2
  obtain ⟨sh, co, ck, ch, cl, vo, vpa, vma, re, rua, rla, rma, rda, sad, cad, ya, yb, yc, yd, ye, yf, yg, yh, yi, yj, yk, yl, tr, ft, np, sl, kd, hg, nr, ru, rl, rm, rd, lane, ml, cel, lk, vn, vp, vm, ps, rs, rn, rk, rh, lg, fk, gt, tkn, hG, hP, hD, hS⟩ := hI
  have hbA : ¬ (fun q : Nat => s.heap.size ≤ q) b := Nat.not_le.mpr hbl
  have hL2 : L < 2 ^ 31 := by omega
  refine lv_aload_n hx hb dL_law_367 rfl (lv_at hl 1 rfl) ?_
  refine lv_aload_n hx hb dL_law_368 rfl (lv_at hl 0 rfl) ?_
  refine lv_iload_n hx hb dL_law_369 rfl (lv_at hl 3 rfl) ?_
  refine lv_iconst (v := nI 1) hx hb dL_law_370 (by decide) ?_
  refine n_iadd (a := i) (b := 1) hx hb dL_law_371 ?_
  refine n_sld (k := (i + 1)) hx hb hX hbl hbA hS (by omega) hL2 dL_law_372 ?_
  refine lv_aload_n hx hb dL_law_373 rfl (lv_at hl 0 rfl) ?_
  refine lv_iload_n hx hb dL_law_374 rfl (lv_at hl 3 rfl) ?_
  refine lv_iconst (v := nI 2) hx hb dL_law_375 (by decide) ?_
  refine n_iadd (a := i) (b := 2) hx hb dL_law_376 ?_
  refine n_sld (k := (i + 2)) hx hb hX hbl hbA hS (by omega) hL2 dL_law_377 ?_
  refine lv_aload_n hx hb dL_law_378 rfl (lv_at hl 0 rfl) ?_
  refine lv_iload_n hx hb dL_law_379 rfl (lv_at hl 3 rfl) ?_
  refine lv_iconst (v := nI 3) hx hb dL_law_380 (by decide) ?_
  refine n_iadd (a := i) (b := 3) hx hb dL_law_381 ?_
  refine n_sld (k := (i + 3)) hx hb hX hbl hbA hS (by omega) hL2 dL_law_382 ?_
  have hPc : PP g (wX g x sh co ck ch cl vo vpa vma re rua rla rma rda sad cad tr ft np sl kd hg lk vn vp vm nr ru rl rm rd lane ml cel) _ := (P_l hP lz_wX)
  refine zcallR (va_runV (As := [.int (xs (i + 1)), .int (xs (i + 2)), .int (xs (i + 3))]) (rest := []) (b := x) S0 (c_X4_off l g x sh co ck ch cl vo vpa vma re rua rla rma rda sad cad tr ft np sl kd hg lk vn vp vm nr ru rl rm rd lane ml cel (xs (i + 1)) (xs (i + 2)) (xs (i + 3)) hG) (cwV 3 hts gL_law_X4_off rfl rfl rfl (by decide +kernel) ⟨by decide, by decide⟩) (zpreV hK hPc (va_recv hK.1 hPc (ci := 4) (q0 := 0) rfl rfl)) rfl rfl hl.1 rfl (lv_room (Nat.le_of_ble_eq_true rfl)) dL_law_383 ⟨Nat.le_of_ble_eq_true rfl, Nat.le_of_ble_eq_true rfl⟩) (fun r383 h383 => ?_)
  subst h383
  refine lv_aload_n hx hb dL_law_386 rfl (lv_at hl 2 rfl) ?_
  refine lv_aload_n hx hb dL_law_387 rfl (lv_at hl 0 rfl) ?_
  refine lv_iload_n hx hb dL_law_388 rfl (lv_at hl 3 rfl) ?_
  refine lv_iconst (v := nI 1) hx hb dL_law_389 (by decide) ?_
  refine n_iadd (a := i) (b := 1) hx hb dL_law_390 ?_
  refine n_sld (k := (i + 1)) hx hb hX hbl hbA hS (by omega) hL2 dL_law_391 ?_
  refine lv_aload_n hx hb dL_law_392 rfl (lv_at hl 0 rfl) ?_
  refine lv_iload_n hx hb dL_law_393 rfl (lv_at hl 3 rfl) ?_
  refine lv_iconst (v := nI 2) hx hb dL_law_394 (by decide) ?_
  refine n_iadd (a := i) (b := 2) hx hb dL_law_395 ?_
  refine n_sld (k := (i + 2)) hx hb hX hbl hbA hS (by omega) hL2 dL_law_396 ?_
  refine lv_aload_n hx hb dL_law_397 rfl (lv_at hl 0 rfl) ?_
  refine lv_iload_n hx hb dL_law_398 rfl (lv_at hl 3 rfl) ?_
  refine lv_iconst (v := nI 3) hx hb dL_law_399 (by decide) ?_
  refine n_iadd (a := i) (b := 3) hx hb dL_law_400 ?_
  refine n_sld (k := (i + 3)) hx hb hX hbl hbA hS (by omega) hL2 dL_law_401 ?_
  have hPc : PP g (wM g y ya yb yc yd ye yf yg yh yi yj yk yl ft tr lane ml cel np sl kd hg ps rs rn rk rh lg fk gt tkn nr ru rl rm rd) _ := (P_r hP lz_wX lz_wM)
  refine zcallR (va_runV (As := [.int (xs (i + 1)), .int (xs (i + 2)), .int (xs (i + 3))]) (rest := [.int (sp_off np kd hg (xs (i + 1)) (xs (i + 2)) (xs (i + 3)))]) (b := y) S0 (c_X5_off l g y ya yb yc yd ye yf yg yh yi yj yk yl ft tr lane ml cel np sl kd hg ps rs rn rk rh lg fk gt tkn nr ru rl rm rd (xs (i + 1)) (xs (i + 2)) (xs (i + 3)) hG) (cwV 3 hts gL_law_X5_off rfl rfl rfl (by decide +kernel) ⟨by decide, by decide⟩) (zpreV hK hPc (va_recv hK.1 hPc (ci := 5) (q0 := 0) rfl rfl)) rfl rfl hl.1 rfl (lv_room (Nat.le_of_ble_eq_true rfl)) dL_law_402 ⟨Nat.le_of_ble_eq_true rfl, Nat.le_of_ble_eq_true rfl⟩) (fun r402 h402 => ?_)
  subst h402
  refine lv_icmp_eq (tgt := 1215) hx hb dL_law_405 (by decide) (fun _ => ?_) (fun c9 => absurd rfl c9)
  exact next _ _ ls ⟨sh, co, ck, ch, cl, vo, vpa, vma, re, rua, rla, rma, rda, sad, cad, ya, yb, yc, yd, ye, yf, yg, yh, yi, yj, yk, yl, tr, ft, np, sl, kd, hg, nr, ru, rl, rm, rd, lane, ml, cel, lk, vn, vp, vm, ps, rs, rn, rk, rh, lg, fk, gt, tkn, hG, hP, hD, hS⟩ hl
