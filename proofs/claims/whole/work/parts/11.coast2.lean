set_option maxHeartbeats 4000000 in
set_option maxRecDepth 100000 in
theorem c_X0_lowerHeight (l : Launch) (g : Gx) (co : Nat) (ck : Nat) (ch : Nat) (cl : Nat) (np : Nat) (sl : Nat) (kd : Nat → Nat) (hg : Nat → Nat) (lk : Nat → Nat) (u : Nat) (k : Nat) (m : Nat) (hnp : np ≤ 6) (hkd : ∀ j, kd j ≤ 2) (hhg : ∀ j, hg j ≤ 9) (hu : u < np) (hk : k < 3) (hm : m ≤ 9) : Met l yX0_lowerHeight wsX0_lowerHeight ({ frames := 2, cells := 0, slots := 0, locals := 43 } : Room) (PcR g [.ref co, .int (nI u), .int (nI k), .int (nI m)] (wC g co ck ch cl np sl kd hg lk)) (vp_Si (fun r => r = nI (lo kd hg u k m))) 0 0 (fun _ => False) := by
  refine zenterR (cc := cX0_lowerHeight) (maxL := 4) (ret := (some .int)) (by decide) rfl (Nat.le_of_ble_eq_true rfl) ?_
  intro P E s mt below meth cd ls hx hb hml hown hts hr hlocks hP hK hl
  have hl : lv_has ls 4 [(0, .ref co), (1, .int (nI u)), (2, .int (nI k)), (3, .int (nI m))] := hl
  have S0 : CallFix P mt cd cX0_lowerHeight 4 s [.ref co, .int (nI u), .int (nI k), .int (nI m)].toArray wsX0_lowerHeight RX0 := ⟨hx, hb, hml, hown, hts⟩
  refine lv_aload_n hx hb dX0_lowerHeight_0 rfl (lv_at hl 0 rfl) ?_
  refine lv_iload_n hx hb dX0_lowerHeight_1 rfl (lv_at hl 1 rfl) ?_
  refine lv_iload_n hx hb dX0_lowerHeight_2 rfl (lv_at hl 2 rfl) ?_
  have hPc : PP g (wC g co ck ch cl np sl kd hg lk) _ := hP
  refine zcallR (va_runV (As := [.int (nI u), .int (nI k)]) (rest := []) (b := co) S0 (c_X0_heightOf l g co ck ch cl np sl kd hg lk u k hnp (by omega) (by omega)) (cwV 2 hts gX0_lowerHeight_X0_heightOf rfl rfl rfl (by decide +kernel) ⟨by decide, by decide⟩) (zpreV hK hPc (va_recv hK.1 hPc (ci := 0) (q0 := 0) rfl rfl)) rfl rfl hl.1 rfl (lv_room (Nat.le_of_ble_eq_true rfl)) dX0_lowerHeight_3 ⟨by decide, by decide⟩) (fun r3 h3 => ?_)
  subst h3
  refine lv_aload_n hx hb dX0_lowerHeight_6 rfl (lv_at hl 0 rfl) ?_
  refine lv_iload_n hx hb dX0_lowerHeight_7 rfl (lv_at hl 1 rfl) ?_
  have hPc : PP g (wC g co ck ch cl np sl kd hg lk) _ := hP
  refine zcallR (va_runV (As := [.int (nI u)]) (rest := [.int (nI (hg (3 * u + k)))]) (b := co) S0 (c_X0_kindOf l g co ck ch cl np sl kd hg lk u hnp (by omega)) (cwV 1 hts gX0_lowerHeight_X0_kindOf rfl rfl rfl (by decide +kernel) ⟨by decide, by decide⟩) (zpreV hK hPc (va_recv hK.1 hPc (ci := 0) (q0 := 0) rfl rfl)) rfl rfl hl.1 rfl (lv_room (Nat.le_of_ble_eq_true rfl)) dX0_lowerHeight_8 ⟨by decide, by decide⟩) (fun r8 h8 => ?_)
  subst h8
  refine lv_iload_n hx hb dX0_lowerHeight_11 rfl (lv_at hl 3 rfl) ?_
  refine zcallR (va_runS (As := [.int (nI (kd u)), .int (nI m)]) (rest := [.int (nI (hg (3 * u + k)))]) S0 (c_X0_wear l g (kd u) m (hkd u)) (va_cwS 2 hts gX0_lowerHeight_X0_wear rfl rfl rfl (by decide +kernel) ⟨by decide, by decide⟩) (zpreS hK (P_nil _)) rfl rfl hl.1 rfl (lv_room (Nat.le_of_ble_eq_true rfl)) dX0_lowerHeight_12 ⟨by decide, by decide⟩) (fun r12 h12 => ?_)
  subst h12
  refine lv_isub hx hb dX0_lowerHeight_15 ?_
  refine lv_iconst (v := (nI 0)) hx hb dX0_lowerHeight_16 (by decide) ?_
  refine va_mmax hx hb (hml.trans hl.1.symm) hown (hts _ (List.mem_of_getElem? (i := 1) rfl)) (hts _ (List.mem_of_getElem? (i := 2) rfl)) (hts _ (List.mem_of_getElem? (i := 3) rfl)) (hts _ (List.mem_of_getElem? (i := 4) rfl)) (Nat.le_of_ble_eq_true rfl) (Nat.le_of_ble_eq_true rfl) (Nat.zero_le _) (Nat.zero_le _) dX0_lowerHeight_17 ?_
  refine ztopI (nI (lo kd hg u k m)) (mx_sub (by have := hhg (3 * u + k); omega) (by have := wr_le (k := kd u) hm; omega)) ?_
  exact zretI hx hb hr hlocks rfl (by rfl) dX0_lowerHeight_20

set_option maxHeartbeats 4000000 in
set_option maxRecDepth 100000 in
theorem c_X0_apart (l : Launch) (g : Gx) (co : Nat) (ck : Nat) (ch : Nat) (cl : Nat) (np : Nat) (sl : Nat) (kd : Nat → Nat) (hg : Nat → Nat) (lk : Nat → Nat) (u : Nat) (q : Nat) (m : Nat) (hnp : np ≤ 6) (hkd : ∀ j, kd j ≤ 2) (hhg : ∀ j, hg j ≤ 9) (hu : u < np) (hq : q < np) (hm : m ≤ 9) : Met l yX0_apart wsX0_apart ({ frames := 2, cells := 0, slots := 0, locals := 43 } : Room) (PcR g [.ref co, .int (nI u), .int (nI q), .int (nI m)] (wC g co ck ch cl np sl kd hg lk)) (vp_Si (fun r => r = nI (ap kd hg u q m))) 0 0 (fun _ => False) := by
  refine zenterR (cc := cX0_apart) (maxL := 8) (ret := (some .int)) (by decide) rfl (Nat.le_of_ble_eq_true rfl) ?_
  intro P E s mt below meth cd ls hx hb hml hown hts hr hlocks hP hK hl
  have hl : lv_has ls 8 [(0, .ref co), (1, .int (nI u)), (2, .int (nI q)), (3, .int (nI m))] := hl
  have S0 : CallFix P mt cd cX0_apart 8 s [.ref co, .int (nI u), .int (nI q), .int (nI m)].toArray wsX0_apart RX0 := ⟨hx, hb, hml, hown, hts⟩
  refine lv_aload_n hx hb dX0_apart_0 rfl (lv_at hl 0 rfl) ?_
  refine lv_iload_n hx hb dX0_apart_1 rfl (lv_at hl 2 rfl) ?_
  have hPc : PP g (wC g co ck ch cl np sl kd hg lk) _ := hP
  refine zcallR (va_runV (As := [.int (nI q)]) (rest := []) (b := co) S0 (c_X0_kindOf l g co ck ch cl np sl kd hg lk q hnp hq) (cwV 1 hts gX0_apart_X0_kindOf rfl rfl rfl (by decide +kernel) ⟨by decide, by decide⟩) (zpreV hK hPc (va_recv hK.1 hPc (ci := 0) (q0 := 0) rfl rfl)) rfl rfl hl.1 rfl (lv_room (Nat.le_of_ble_eq_true rfl)) dX0_apart_2 ⟨by decide, by decide⟩) (fun r2 h2 => ?_)
  subst h2
  refine lv_iload_n hx hb dX0_apart_5 rfl (lv_at hl 3 rfl) ?_
  refine zcallR (va_runS (As := [.int (nI (kd q)), .int (nI m)]) (rest := []) S0 (c_X0_wear l g (kd q) m (hkd q)) (va_cwS 2 hts gX0_apart_X0_wear rfl rfl rfl (by decide +kernel) ⟨by decide, by decide⟩) (zpreS hK (P_nil _)) rfl rfl hl.1 rfl (lv_room (Nat.le_of_ble_eq_true rfl)) dX0_apart_6 ⟨by decide, by decide⟩) (fun r6 h6 => ?_)
  subst h6
  refine lv_istore (lv' := [(4, .int (nI (wr (kd q) m))), (0, .ref co), (1, .int (nI u)), (2, .int (nI q)), (3, .int (nI m))]) hx hb dX0_apart_9 hl (by decide) rfl (fun ls hl => ?_)
  refine lv_iconst (v := (nI 0)) hx hb dX0_apart_11 (by decide) ?_
  refine lv_istore (lv' := [(5, .int (nI 0)), (4, .int (nI (wr (kd q) m))), (0, .ref co), (1, .int (nI u)), (2, .int (nI q)), (3, .int (nI m))]) hx hb dX0_apart_12 hl (by decide) rfl (fun ls hl => ?_)
  refine lv_iconst (v := (nI 0)) hx hb dX0_apart_14 (by decide) ?_
  refine lv_istore (lv' := [(6, .int (nI 0)), (5, .int (nI 0)), (4, .int (nI (wr (kd q) m))), (0, .ref co), (1, .int (nI u)), (2, .int (nI q)), (3, .int (nI m))]) hx hb dX0_apart_15 hl (by decide) rfl (fun ls hl => ?_)
  have lp17 : ∀ (nn : Nat) (i : Nat) (ls : Array Slot), (3 - i) < nn → (i ≤ 3) → lv_has ls 8 [(0, .ref co), (1, .int (nI u)), (2, .int (nI q)), (3, .int (nI m)), (4, .int (nI (wr (kd q) m))), (5, .int (nI (sumk (apk kd hg u q m) i))), (6, .int (nI i))] → W P l E ({ frames := 2, cells := 0, slots := 0, locals := 43 } : Room) s mt [.ref co, .int (nI u), .int (nI q), .int (nI m)].toArray below meth cd s.heap [] 0 0 (MQ below (vp_Si (fun r => r = nI (ap kd hg u q m))) [.ref co, .int (nI u), .int (nI q), .int (nI m)].toArray s 0 0 (fun _ => False)) (F0 mt 17 ls []) := by
    intro nn
    induction nn with
    | zero => intro i ls hmu; exact absurd hmu (Nat.not_lt_zero _)
    | succ nn ih17 =>
      intro i ls hmu hi hl
      refine lv_iload hx hb dX0_apart_17 (lv_at hl 6 rfl) ?_
      refine lv_iconst (v := (nI 3)) hx hb dX0_apart_19 (by decide) ?_
      refine n_icmp_ge (a := i) (b := 3) (tgt := 63) hx hb (by omega) (by omega) dX0_apart_20 (by decide) (fun c20 => ?_) (fun c20 => ?_)
      · refine lv_iload hx hb dX0_apart_63 (lv_at hl 5 rfl) ?_
        exact zretI hx hb hr hlocks rfl (by rw [show i = 3 by omega]; rfl) dX0_apart_65
      · refine lv_aload_n hx hb dX0_apart_23 rfl (lv_at hl 0 rfl) ?_
        refine lv_iload_n hx hb dX0_apart_24 rfl (lv_at hl 2 rfl) ?_
        refine lv_iload hx hb dX0_apart_25 (lv_at hl 6 rfl) ?_
        have hPc : PP g (wC g co ck ch cl np sl kd hg lk) _ := hP
        refine zcallR (va_runV (As := [.int (nI q), .int (nI i)]) (rest := []) (b := co) S0 (c_X0_heightOf l g co ck ch cl np sl kd hg lk q i hnp hq (by omega)) (cwV 2 hts gX0_apart_X0_heightOf rfl rfl rfl (by decide +kernel) ⟨by decide, by decide⟩) (zpreV hK hPc (va_recv hK.1 hPc (ci := 0) (q0 := 0) rfl rfl)) rfl rfl hl.1 rfl (lv_room (Nat.le_of_ble_eq_true rfl)) dX0_apart_27 ⟨by decide, by decide⟩) (fun r27 h27 => ?_)
        subst h27
        refine lv_iload hx hb dX0_apart_30 (lv_at hl 4 rfl) ?_
        refine lv_isub hx hb dX0_apart_32 ?_
        refine lv_iconst (v := (nI 0)) hx hb dX0_apart_33 (by decide) ?_
        refine va_mmax hx hb (hml.trans hl.1.symm) hown (hts _ (List.mem_of_getElem? (i := 1) rfl)) (hts _ (List.mem_of_getElem? (i := 2) rfl)) (hts _ (List.mem_of_getElem? (i := 3) rfl)) (hts _ (List.mem_of_getElem? (i := 4) rfl)) (Nat.le_of_ble_eq_true rfl) (Nat.le_of_ble_eq_true rfl) (Nat.zero_le _) (Nat.zero_le _) dX0_apart_34 ?_
        refine ztopI (nI (lo kd hg q i m)) (mx_sub (by have := hhg (3 * q + i); omega) (by have := wr_le (k := kd q) hm; omega)) ?_
        refine lv_istore (lv' := [(7, .int (nI (lo kd hg q i m))), (0, .ref co), (1, .int (nI u)), (2, .int (nI q)), (3, .int (nI m)), (4, .int (nI (wr (kd q) m))), (5, .int (nI (sumk (apk kd hg u q m) i))), (6, .int (nI i))]) hx hb dX0_apart_37 hl (by decide) rfl (fun ls hl => ?_)
        refine lv_iload hx hb dX0_apart_39 (lv_at hl 6 rfl) ?_
        refine lv_aload_n hx hb dX0_apart_41 rfl (lv_at hl 1 rfl) ?_
        refine lv_iload_n hx hb dX0_apart_42 rfl (lv_at hl 2 rfl) ?_
        refine lv_iload hx hb dX0_apart_43 (lv_at hl 7 rfl) ?_
        have hPc : PP g (wC g co ck ch cl np sl kd hg lk) _ := hP
        refine zcallR (va_runV (As := [.int (nI u), .int (nI i)]) (rest := [.int (nI (sumk (apk kd hg u q m) i))]) (b := co) S0 (c_X0_heightOf l g co ck ch cl np sl kd hg lk u i hnp hu (by omega)) (cwV 2 hts gX0_apart_X0_heightOf rfl rfl rfl (by decide +kernel) ⟨by decide, by decide⟩) (zpreV hK hPc (va_recv hK.1 hPc (ci := 0) (q0 := 0) rfl rfl)) rfl rfl hl.1 rfl (lv_room (Nat.le_of_ble_eq_true rfl)) dX0_apart_45 ⟨by decide, by decide⟩) (fun r45 h45 => ?_)
        subst h45
        refine lv_iload hx hb dX0_apart_48 (lv_at hl 0 rfl) ?_
        refine lv_isub hx hb dX0_apart_50 ?_
        refine va_mabs hx hb (hml.trans hl.1.symm) hown (hts _ (List.mem_of_getElem? (i := 5) rfl)) (hts _ (List.mem_of_getElem? (i := 6) rfl)) (hts _ (List.mem_of_getElem? (i := 3) rfl)) (hts _ (List.mem_of_getElem? (i := 7) rfl)) (Nat.le_of_ble_eq_true rfl) (Nat.le_of_ble_eq_true rfl) (Nat.zero_le _) (Nat.zero_le _) dX0_apart_51 ?_
        refine ztopI (nI (apk kd hg u q m i)) (abs_sub (by have := hhg (3 * u + i); omega) (by have := lo_le kd hhg q i m; omega)) ?_
        refine n_iadd (a := (sumk (apk kd hg u q m) i)) (b := (apk kd hg u q m i)) hx hb dX0_apart_54 ?_
        refine lv_istore (lv' := [(5, .int (nI ((sumk (apk kd hg u q m) i) + (apk kd hg u q m i)))), (7, .int (nI (lo kd hg q i m))), (0, .ref co), (1, .int (nI u)), (2, .int (nI q)), (3, .int (nI m)), (4, .int (nI (wr (kd q) m))), (6, .int (nI i))]) hx hb dX0_apart_55 hl (by decide) rfl (fun ls hl => ?_)
        refine n_iinc (a := i) (d := 1) (lv' := [(6, .int (nI (i + 1))), (5, .int (nI ((sumk (apk kd hg u q m) i) + (apk kd hg u q m i)))), (7, .int (nI (lo kd hg q i m))), (0, .ref co), (1, .int (nI u)), (2, .int (nI q)), (3, .int (nI m)), (4, .int (nI (wr (kd q) m)))]) hx hb dX0_apart_57 hl (k := 7) rfl (by decide) (by decide) rfl (fun ls hl => ?_)
        refine lv_goto (tgt := 17) hx hb dX0_apart_60 (by decide) ?_
        exact ih17 (i + 1)  ls (by omega) (by omega) (lv_sub hl [3, 4, 5, 6, 7, 1, 0] rfl)
  exact lp17 (3 - 0 + 1) 0  ls (Nat.lt_succ_self _) (by omega) (lv_sub hl [3, 4, 5, 6, 2, 1, 0] rfl)

set_option maxHeartbeats 4000000 in
set_option maxRecDepth 100000 in
theorem c_X0_doFit (l : Launch) (g : Gx) (co : Nat) (ck : Nat) (ch : Nat) (cl : Nat) (np : Nat) (sl : Nat) (kd : Nat → Nat) (hg : Nat → Nat) (lk : Nat → Nat) (u : Nat) (q : Nat) (m : Nat) (hnp : np ≤ 6) (hsl : sl ≤ 9) (hkd : ∀ j, kd j ≤ 2) (hhg : ∀ j, hg j ≤ 9) (hu : u < np) (hq : q < np) (hm : m ≤ 9) : Met l yX0_doFit wsX0_doFit ({ frames := 3, cells := 0, slots := 0, locals := 70 } : Room) (PcR g [.ref co, .int (nI u), .int (nI q), .int (nI m)] (wC g co ck ch cl np sl kd hg lk)) (vp_Si (fun r => r = nI (fitb sl kd hg u q m))) 0 0 (fun _ => False) := by
  refine zenterR (cc := cX0_doFit) (maxL := 4) (ret := (some .boolean)) (by decide) rfl (Nat.le_of_ble_eq_true rfl) ?_
  intro P E s mt below meth cd ls hx hb hml hown hts hr hlocks hP hK hl
  have hl : lv_has ls 4 [(0, .ref co), (1, .int (nI u)), (2, .int (nI q)), (3, .int (nI m))] := hl
  have S0 : CallFix P mt cd cX0_doFit 4 s [.ref co, .int (nI u), .int (nI q), .int (nI m)].toArray wsX0_doFit RX0 := ⟨hx, hb, hml, hown, hts⟩
  refine lv_aload_n hx hb dX0_doFit_0 rfl (lv_at hl 0 rfl) ?_
  refine lv_iload_n hx hb dX0_doFit_1 rfl (lv_at hl 1 rfl) ?_
  refine lv_iload_n hx hb dX0_doFit_2 rfl (lv_at hl 2 rfl) ?_
  refine lv_iload_n hx hb dX0_doFit_3 rfl (lv_at hl 3 rfl) ?_
  have hPc : PP g (wC g co ck ch cl np sl kd hg lk) _ := hP
  refine zcallR (va_runV (As := [.int (nI u), .int (nI q), .int (nI m)]) (rest := []) (b := co) S0 (c_X0_apart l g co ck ch cl np sl kd hg lk u q m hnp hkd hhg (by omega) (by omega) (by omega)) (cwV 3 hts gX0_doFit_X0_apart rfl rfl rfl (by decide +kernel) ⟨by decide, by decide⟩) (zpreV hK hPc (va_recv hK.1 hPc (ci := 0) (q0 := 0) rfl rfl)) rfl rfl hl.1 rfl (lv_room (Nat.le_of_ble_eq_true rfl)) dX0_doFit_4 ⟨by decide, by decide⟩) (fun r4 h4 => ?_)
  subst h4
  have f1 := ap_le kd hhg u q m
  refine lv_aload_n hx hb dX0_doFit_7 rfl (lv_at hl 0 rfl) ?_
  refine va_get (D := g.1) (ci := 0) (v := .int (nI sl)) (C := RX0) (T := TX0) (N := 5) hx hb hts (fun _ h => (List.mem_cons_of_mem _ (List.mem_append_right _ h))) hown hK.1 hP 0 rfl rfl 4 (by decide) (hts _ (List.mem_of_getElem? (i := 1) rfl)) (fun _ h9 => h9) rfl dX0_doFit_8 ?_
  refine n_icmp_gt (a := (ap kd hg u q m)) (b := sl) (tgt := 18) hx hb (by omega) (by omega) dX0_doFit_11 (by decide) (fun c11 => ?_) (fun c11 => ?_)
  · refine lv_iconst (v := (nI 0)) hx hb dX0_doFit_18 (by decide) ?_
    refine ztopI (nI (fitb sl kd hg u q m)) (by rw [fitb, b01_f (by omega)]) ?_
    exact zretI hx hb hr hlocks (nar_b (b01_le _)) (by rfl) dX0_doFit_19
  · refine lv_iconst (v := (nI 1)) hx hb dX0_doFit_14 (by decide) ?_
    refine ztopI (nI (fitb sl kd hg u q m)) (by rw [fitb, b01_t c11]) ?_
    refine lv_goto (tgt := 19) hx hb dX0_doFit_15 (by decide) ?_
    exact zretI hx hb hr hlocks (nar_b (b01_le _)) (by rfl) dX0_doFit_19

set_option maxHeartbeats 4000000 in
set_option maxRecDepth 100000 in
theorem c_X0_fitting (l : Launch) (g : Gx) (co : Nat) (ck : Nat) (ch : Nat) (cl : Nat) (np : Nat) (sl : Nat) (kd : Nat → Nat) (hg : Nat → Nat) (lk : Nat → Nat) (q : Nat) (m : Nat) (hnp : np ≤ 6) (hsl : sl ≤ 9) (hkd : ∀ j, kd j ≤ 2) (hhg : ∀ j, hg j ≤ 9) (hq : q < np) (hm : m ≤ 9) : Met l yX0_fitting wsX0_fitting ({ frames := 3, cells := 0, slots := 0, locals := 70 } : Room) (PcR g [.ref co, .int (nI q), .int (nI m)] (wC g co ck ch cl np sl kd hg lk)) (vp_Si (fun r => r = nI (fset np sl kd hg q m))) 0 0 (fun _ => False) := by
  refine zenterR (cc := cX0_fitting) (maxL := 5) (ret := (some .int)) (by decide) rfl (Nat.le_of_ble_eq_true rfl) ?_
  intro P E s mt below meth cd ls hx hb hml hown hts hr hlocks hP hK hl
  have hl : lv_has ls 5 [(0, .ref co), (1, .int (nI q)), (2, .int (nI m))] := hl
  have S0 : CallFix P mt cd cX0_fitting 5 s [.ref co, .int (nI q), .int (nI m)].toArray wsX0_fitting RX0 := ⟨hx, hb, hml, hown, hts⟩
  refine lv_iconst (v := (nI 0)) hx hb dX0_fitting_0 (by decide) ?_
  refine lv_istore_n (lv' := [(3, .int (nI 0)), (0, .ref co), (1, .int (nI q)), (2, .int (nI m))]) hx hb dX0_fitting_1 rfl hl (by decide) rfl (fun ls hl => ?_)
  refine lv_iconst (v := (nI 0)) hx hb dX0_fitting_2 (by decide) ?_
  refine lv_istore (lv' := [(4, .int (nI 0)), (3, .int (nI 0)), (0, .ref co), (1, .int (nI q)), (2, .int (nI m))]) hx hb dX0_fitting_3 hl (by decide) rfl (fun ls hl => ?_)
  have lp5 : ∀ (nn : Nat) (i : Nat) (ls : Array Slot), (np - i) < nn → (i ≤ np) → lv_has ls 5 [(0, .ref co), (1, .int (nI q)), (2, .int (nI m)), (3, .int (nI (bset (fun p => fitb sl kd hg p q m) i))), (4, .int (nI i))] → W P l E ({ frames := 3, cells := 0, slots := 0, locals := 70 } : Room) s mt [.ref co, .int (nI q), .int (nI m)].toArray below meth cd s.heap [] 0 0 (MQ below (vp_Si (fun r => r = nI (fset np sl kd hg q m))) [.ref co, .int (nI q), .int (nI m)].toArray s 0 0 (fun _ => False)) (F0 mt 5 ls []) := by
    intro nn
    induction nn with
    | zero => intro i ls hmu; exact absurd hmu (Nat.not_lt_zero _)
    | succ nn ih5 =>
      intro i ls hmu hi hl
      refine lv_iload hx hb dX0_fitting_5 (lv_at hl 4 rfl) ?_
      refine lv_aload_n hx hb dX0_fitting_7 rfl (lv_at hl 0 rfl) ?_
      refine va_get (D := g.1) (ci := 0) (v := .int (nI np)) (C := RX0) (T := TX0) (N := 5) hx hb hts (fun _ h => (List.mem_cons_of_mem _ (List.mem_append_right _ h))) hown hK.1 hP 0 rfl rfl 3 (by decide) (hts _ (List.mem_of_getElem? (i := 1) rfl)) (fun _ h9 => h9) rfl dX0_fitting_8 ?_
      refine n_icmp_ge (a := i) (b := np) (tgt := 48) hx hb (by omega) (by omega) dX0_fitting_11 (by decide) (fun c11 => ?_) (fun c11 => ?_)
      · refine lv_iload_n hx hb dX0_fitting_48 rfl (lv_at hl 3 rfl) ?_
        exact zretI hx hb hr hlocks rfl (by rw [show i = np by omega]; rfl) dX0_fitting_49
      · refine lv_iload_n hx hb dX0_fitting_14 rfl (lv_at hl 3 rfl) ?_
        refine lv_aload_n hx hb dX0_fitting_15 rfl (lv_at hl 0 rfl) ?_
        refine lv_iload hx hb dX0_fitting_16 (lv_at hl 4 rfl) ?_
        refine lv_iload_n hx hb dX0_fitting_18 rfl (lv_at hl 1 rfl) ?_
        refine lv_iload_n hx hb dX0_fitting_19 rfl (lv_at hl 2 rfl) ?_
        have hPc : PP g (wC g co ck ch cl np sl kd hg lk) _ := hP
        refine zcallR (va_runV (As := [.int (nI i), .int (nI q), .int (nI m)]) (rest := [.int (nI (bset (fun p => fitb sl kd hg p q m) i))]) (b := co) S0 (c_X0_apart l g co ck ch cl np sl kd hg lk i q m hnp hkd hhg (by omega) (by omega) (by omega)) (cwV 3 hts gX0_fitting_X0_apart rfl rfl rfl (by decide +kernel) ⟨by decide, by decide⟩) (zpreV hK hPc (va_recv hK.1 hPc (ci := 0) (q0 := 0) rfl rfl)) rfl rfl hl.1 rfl (lv_room (Nat.le_of_ble_eq_true rfl)) dX0_fitting_20 ⟨by decide, by decide⟩) (fun r20 h20 => ?_)
        subst h20
        have f1 := ap_le kd hhg i q m
        refine lv_aload_n hx hb dX0_fitting_23 rfl (lv_at hl 0 rfl) ?_
        refine va_get (D := g.1) (ci := 0) (v := .int (nI sl)) (C := RX0) (T := TX0) (N := 5) hx hb hts (fun _ h => (List.mem_cons_of_mem _ (List.mem_append_right _ h))) hown hK.1 hP 0 rfl rfl 4 (by decide) (hts _ (List.mem_of_getElem? (i := 2) rfl)) (fun _ h9 => h9) rfl dX0_fitting_24 ?_
        refine n_icmp_gt (a := (ap kd hg i q m)) (b := sl) (tgt := 34) hx hb (by omega) (by omega) dX0_fitting_27 (by decide) (fun c27 => ?_) (fun c27 => ?_)
        · refine lv_iconst (v := (nI 0)) hx hb dX0_fitting_34 (by decide) ?_
          refine ztopI (nI (fitb sl kd hg i q m)) (by rw [fitb, b01_f (by omega)]) ?_
          refine lv_iload hx hb dX0_fitting_35 (lv_at hl 4 rfl) ?_
          refine zcallR (va_runSN (As := [.int (nI (fitb sl kd hg i q m)), .int (nI i)]) (rest := [.int (nI (bset (fun p => fitb sl kd hg p q m) i))]) S0 (c_X4_bitIf l g (fitb sl kd hg i q m) i (b01_le _) (by omega)) ⟨va_cnB 2 hts gX0_fitting_X4_bitIf_n81 rfl rfl rfl hK.2.2.2.2.2.1 (hts _ (List.mem_of_getElem? (i := 33) rfl)) (by decide +kernel) ⟨by decide, by decide⟩, (hts _ (List.mem_of_getElem? (i := 32) rfl)), trivial⟩ (zpreS hK (P_nil _)) rfl rfl hl.1 rfl (lv_room (Nat.le_of_ble_eq_true rfl)) dX0_fitting_37 ⟨by decide, by decide⟩) (fun r37 h37 => ?_)
          subst h37
          have f2 := bt_ltE (fitb sl kd hg i q m) i
          refine n_ior (a := (bset (fun p => fitb sl kd hg p q m) i)) (b := (bt (fitb sl kd hg i q m) i)) hx hb dX0_fitting_40 ?_
          refine lv_istore_n (lv' := [(3, .int (nI ((bset (fun p => fitb sl kd hg p q m) i) ||| (bt (fitb sl kd hg i q m) i)))), (0, .ref co), (1, .int (nI q)), (2, .int (nI m)), (4, .int (nI i))]) hx hb dX0_fitting_41 rfl hl (by decide) rfl (fun ls hl => ?_)
          refine n_iinc (a := i) (d := 1) (lv' := [(4, .int (nI (i + 1))), (3, .int (nI ((bset (fun p => fitb sl kd hg p q m) i) ||| (bt (fitb sl kd hg i q m) i)))), (0, .ref co), (1, .int (nI q)), (2, .int (nI m))]) hx hb dX0_fitting_42 hl (k := 4) rfl (by decide) (by decide) rfl (fun ls hl => ?_)
          refine lv_goto (tgt := 5) hx hb dX0_fitting_45 (by decide) ?_
          exact ih5 (i + 1)  ls (by omega) (by omega) (lv_sub hl [2, 3, 4, 1, 0] rfl)
        · refine lv_iconst (v := (nI 1)) hx hb dX0_fitting_30 (by decide) ?_
          refine ztopI (nI (fitb sl kd hg i q m)) (by rw [fitb, b01_t c27]) ?_
          refine lv_goto (tgt := 35) hx hb dX0_fitting_31 (by decide) ?_
          refine lv_iload hx hb dX0_fitting_35 (lv_at hl 4 rfl) ?_
          refine zcallR (va_runSN (As := [.int (nI (fitb sl kd hg i q m)), .int (nI i)]) (rest := [.int (nI (bset (fun p => fitb sl kd hg p q m) i))]) S0 (c_X4_bitIf l g (fitb sl kd hg i q m) i (b01_le _) (by omega)) ⟨va_cnB 2 hts gX0_fitting_X4_bitIf_n81 rfl rfl rfl hK.2.2.2.2.2.1 (hts _ (List.mem_of_getElem? (i := 33) rfl)) (by decide +kernel) ⟨by decide, by decide⟩, (hts _ (List.mem_of_getElem? (i := 32) rfl)), trivial⟩ (zpreS hK (P_nil _)) rfl rfl hl.1 rfl (lv_room (Nat.le_of_ble_eq_true rfl)) dX0_fitting_37 ⟨by decide, by decide⟩) (fun r37 h37 => ?_)
          subst h37
          have f3 := bt_ltE (fitb sl kd hg i q m) i
          refine n_ior (a := (bset (fun p => fitb sl kd hg p q m) i)) (b := (bt (fitb sl kd hg i q m) i)) hx hb dX0_fitting_40 ?_
          refine lv_istore_n (lv' := [(3, .int (nI ((bset (fun p => fitb sl kd hg p q m) i) ||| (bt (fitb sl kd hg i q m) i)))), (0, .ref co), (1, .int (nI q)), (2, .int (nI m)), (4, .int (nI i))]) hx hb dX0_fitting_41 rfl hl (by decide) rfl (fun ls hl => ?_)
          refine n_iinc (a := i) (d := 1) (lv' := [(4, .int (nI (i + 1))), (3, .int (nI ((bset (fun p => fitb sl kd hg p q m) i) ||| (bt (fitb sl kd hg i q m) i)))), (0, .ref co), (1, .int (nI q)), (2, .int (nI m))]) hx hb dX0_fitting_42 hl (k := 4) rfl (by decide) (by decide) rfl (fun ls hl => ?_)
          refine lv_goto (tgt := 5) hx hb dX0_fitting_45 (by decide) ?_
          exact ih5 (i + 1)  ls (by omega) (by omega) (lv_sub hl [2, 3, 4, 1, 0] rfl)
  exact lp5 (np - 0 + 1) 0  ls (Nat.lt_succ_self _) (by omega) (lv_sub hl [2, 3, 4, 1, 0] rfl)

set_option maxHeartbeats 4000000 in
set_option maxRecDepth 100000 in
theorem c_X0_closestFitting (l : Launch) (g : Gx) (co : Nat) (ck : Nat) (ch : Nat) (cl : Nat) (np : Nat) (sl : Nat) (kd : Nat → Nat) (hg : Nat → Nat) (lk : Nat → Nat) (q : Nat) (m : Nat) (hnp : np ≤ 6) (hsl : sl ≤ 9) (hkd : ∀ j, kd j ≤ 2) (hhg : ∀ j, hg j ≤ 9) (hq : q < np) (hm : m ≤ 9) : Met l yX0_closestFitting wsX0_closestFitting ({ frames := 3, cells := 0, slots := 0, locals := 70 } : Room) (PcR g [.ref co, .int (nI q), .int (nI m)] (wC g co ck ch cl np sl kd hg lk)) (vp_Si (fun r => r = enc (mtb sl (fun p => ap kd hg p q m) np))) 0 0 (fun _ => False) := by
  refine zenterR (cc := cX0_closestFitting) (maxL := 7) (ret := (some .int)) (by decide) rfl (Nat.le_of_ble_eq_true rfl) ?_
  intro P E s mt below meth cd ls hx hb hml hown hts hr hlocks hP hK hl
  have hl : lv_has ls 7 [(0, .ref co), (1, .int (nI q)), (2, .int (nI m))] := hl
  have S0 : CallFix P mt cd cX0_closestFitting 7 s [.ref co, .int (nI q), .int (nI m)].toArray wsX0_closestFitting RX0 := ⟨hx, hb, hml, hown, hts⟩
  refine lv_bipush (v := (-9)) hx hb dX0_closestFitting_0 (by decide) ?_
  refine lv_istore_n (lv' := [(3, .int (-9)), (0, .ref co), (1, .int (nI q)), (2, .int (nI m))]) hx hb dX0_closestFitting_2 rfl hl (by decide) rfl (fun ls hl => ?_)
  refine lv_aload_n hx hb dX0_closestFitting_3 rfl (lv_at hl 1 rfl) ?_
  refine va_get (D := g.1) (ci := 0) (v := .int (nI sl)) (C := RX0) (T := TX0) (N := 5) hx hb hts (fun _ h => (List.mem_cons_of_mem _ (List.mem_append_right _ h))) hown hK.1 hP 0 rfl rfl 4 (by decide) (hts _ (List.mem_of_getElem? (i := 1) rfl)) (fun _ h9 => h9) rfl dX0_closestFitting_4 ?_
  refine lv_iconst (v := (nI 1)) hx hb dX0_closestFitting_7 (by decide) ?_
  refine n_iadd (a := sl) (b := 1) hx hb dX0_closestFitting_8 ?_
  refine lv_istore (lv' := [(4, .int (nI (sl + 1))), (3, .int (-9)), (0, .ref co), (1, .int (nI q)), (2, .int (nI m))]) hx hb dX0_closestFitting_9 hl (by decide) rfl (fun ls hl => ?_)
  refine lv_iconst (v := (nI 0)) hx hb dX0_closestFitting_11 (by decide) ?_
  refine lv_istore (lv' := [(5, .int (nI 0)), (4, .int (nI (sl + 1))), (3, .int (-9)), (0, .ref co), (1, .int (nI q)), (2, .int (nI m))]) hx hb dX0_closestFitting_12 hl (by decide) rfl (fun ls hl => ?_)
  have lp14 : ∀ (nn : Nat) (i : Nat) (ls : Array Slot), (np - i) < nn → (i ≤ np) → lv_has ls 7 [(0, .ref co), (1, .int (nI q)), (2, .int (nI m)), (3, .int (enc (mtb sl (fun p => ap kd hg p q m) i))), (4, .int (nI (mtl sl (fun p => ap kd hg p q m) i))), (5, .int (nI i))] → W P l E ({ frames := 3, cells := 0, slots := 0, locals := 70 } : Room) s mt [.ref co, .int (nI q), .int (nI m)].toArray below meth cd s.heap [] 0 0 (MQ below (vp_Si (fun r => r = enc (mtb sl (fun p => ap kd hg p q m) np))) [.ref co, .int (nI q), .int (nI m)].toArray s 0 0 (fun _ => False)) (F0 mt 14 ls []) := by
    intro nn
    induction nn with
    | zero => intro i ls hmu; exact absurd hmu (Nat.not_lt_zero _)
    | succ nn ih14 =>
      intro i ls hmu hi hl
      have hml2 := mtl_le (sl := sl) (f := (fun p => ap kd hg p q m)) i
      refine lv_iload hx hb dX0_closestFitting_14 (lv_at hl 5 rfl) ?_
      refine lv_aload_n hx hb dX0_closestFitting_16 rfl (lv_at hl 0 rfl) ?_
      refine va_get (D := g.1) (ci := 0) (v := .int (nI np)) (C := RX0) (T := TX0) (N := 5) hx hb hts (fun _ h => (List.mem_cons_of_mem _ (List.mem_append_right _ h))) hown hK.1 hP 0 rfl rfl 3 (by decide) (hts _ (List.mem_of_getElem? (i := 2) rfl)) (fun _ h9 => h9) rfl dX0_closestFitting_17 ?_
      refine n_icmp_ge (a := i) (b := np) (tgt := 53) hx hb (by omega) (by omega) dX0_closestFitting_20 (by decide) (fun c20 => ?_) (fun c20 => ?_)
      · refine lv_iload_n hx hb dX0_closestFitting_53 rfl (lv_at hl 3 rfl) ?_
        exact zretI hx hb hr hlocks rfl (by rw [show i = np by omega]) dX0_closestFitting_54
      · refine lv_aload_n hx hb dX0_closestFitting_23 rfl (lv_at hl 0 rfl) ?_
        refine lv_iload hx hb dX0_closestFitting_24 (lv_at hl 5 rfl) ?_
        refine lv_iload_n hx hb dX0_closestFitting_26 rfl (lv_at hl 1 rfl) ?_
        refine lv_iload_n hx hb dX0_closestFitting_27 rfl (lv_at hl 2 rfl) ?_
        have hPc : PP g (wC g co ck ch cl np sl kd hg lk) _ := hP
        refine zcallR (va_runV (As := [.int (nI i), .int (nI q), .int (nI m)]) (rest := []) (b := co) S0 (c_X0_apart l g co ck ch cl np sl kd hg lk i q m hnp hkd hhg (by omega) (by omega) (by omega)) (cwV 3 hts gX0_closestFitting_X0_apart rfl rfl rfl (by decide +kernel) ⟨by decide, by decide⟩) (zpreV hK hPc (va_recv hK.1 hPc (ci := 0) (q0 := 0) rfl rfl)) rfl rfl hl.1 rfl (lv_room (Nat.le_of_ble_eq_true rfl)) dX0_closestFitting_28 ⟨by decide, by decide⟩) (fun r28 h28 => ?_)
        subst h28
        have f1 := ap_le kd hhg i q m
        refine lv_istore (lv' := [(6, .int (nI (ap kd hg i q m))), (0, .ref co), (1, .int (nI q)), (2, .int (nI m)), (3, .int (enc (mtb sl (fun p => ap kd hg p q m) i))), (4, .int (nI (mtl sl (fun p => ap kd hg p q m) i))), (5, .int (nI i))]) hx hb dX0_closestFitting_31 hl (by decide) rfl (fun ls hl => ?_)
        refine lv_iload hx hb dX0_closestFitting_33 (lv_at hl 0 rfl) ?_
        refine lv_iload hx hb dX0_closestFitting_35 (lv_at hl 5 rfl) ?_
        refine n_icmp_ge (a := (ap kd hg i q m)) (b := (mtl sl (fun p => ap kd hg p q m) i)) (tgt := 47) hx hb (by omega) (by omega) dX0_closestFitting_37 (by decide) (fun c37 => ?_) (fun c37 => ?_)
        · refine n_iinc (a := i) (d := 1) (lv' := [(5, .int (nI (i + 1))), (6, .int (nI (ap kd hg i q m))), (0, .ref co), (1, .int (nI q)), (2, .int (nI m)), (3, .int (enc (mtb sl (fun p => ap kd hg p q m) i))), (4, .int (nI (mtl sl (fun p => ap kd hg p q m) i)))]) hx hb dX0_closestFitting_47 hl (k := 6) rfl (by decide) (by decide) rfl (fun ls hl => ?_)
          refine lv_goto (tgt := 14) hx hb dX0_closestFitting_50 (by decide) ?_
          exact ih14 (i + 1)  ls (by omega) (by omega) (lv_sub hl [2, 3, 4, 5, 6, 0] (by rw [mtb_no (f := (fun p => ap kd hg p q m)) c37, mtl_no (f := (fun p => ap kd hg p q m)) c37]; rfl))
        · refine lv_iload hx hb dX0_closestFitting_40 (lv_at hl 6 rfl) ?_
          refine lv_istore_n (lv' := [(3, .int (nI i)), (6, .int (nI (ap kd hg i q m))), (0, .ref co), (1, .int (nI q)), (2, .int (nI m)), (4, .int (nI (mtl sl (fun p => ap kd hg p q m) i))), (5, .int (nI i))]) hx hb dX0_closestFitting_42 rfl hl (by decide) rfl (fun ls hl => ?_)
          refine lv_iload hx hb dX0_closestFitting_43 (lv_at hl 1 rfl) ?_
          refine lv_istore (lv' := [(4, .int (nI (ap kd hg i q m))), (3, .int (nI i)), (6, .int (nI (ap kd hg i q m))), (0, .ref co), (1, .int (nI q)), (2, .int (nI m)), (5, .int (nI i))]) hx hb dX0_closestFitting_45 hl (by decide) rfl (fun ls hl => ?_)
          refine n_iinc (a := i) (d := 1) (lv' := [(5, .int (nI (i + 1))), (4, .int (nI (ap kd hg i q m))), (3, .int (nI i)), (6, .int (nI (ap kd hg i q m))), (0, .ref co), (1, .int (nI q)), (2, .int (nI m))]) hx hb dX0_closestFitting_47 hl (k := 6) rfl (by decide) (by decide) rfl (fun ls hl => ?_)
          refine lv_goto (tgt := 14) hx hb dX0_closestFitting_50 (by decide) ?_
          exact ih14 (i + 1)  ls (by omega) (by omega) (lv_sub hl [4, 5, 6, 2, 1, 0] (by rw [mtb_yes (f := (fun p => ap kd hg p q m)) c37, mtl_yes (f := (fun p => ap kd hg p q m)) c37]; rfl))
  exact lp14 (np - 0 + 1) 0  ls (Nat.lt_succ_self _) (by omega) (lv_sub hl [3, 4, 5, 2, 1, 0] rfl)

set_option maxHeartbeats 4000000 in
set_option maxRecDepth 100000 in
theorem c_X0_lastGood (l : Launch) (g : Gx) (co : Nat) (ck : Nat) (ch : Nat) (cl : Nat) (np : Nat) (sl : Nat) (kd : Nat → Nat) (hg : Nat → Nat) (lk : Nat → Nat) (u : Nat) (hnp : np ≤ 6) (hsl : sl ≤ 9) (hkd : ∀ j, kd j ≤ 2) (hhg : ∀ j, hg j ≤ 9) (hu : u < np) : Met l yX0_lastGood wsX0_lastGood ({ frames := 4, cells := 0, slots := 0, locals := 93 } : Room) (PcR g [.ref co, .int (nI u)] (wC g co ck ch cl np sl kd hg lk)) (vp_Si (fun r => r = enc (lgd (fun m => fitb sl kd hg u u m) 10))) 0 0 (fun _ => False) := by
  refine zenterR (cc := cX0_lastGood) (maxL := 3) (ret := (some .int)) (by decide) rfl (Nat.le_of_ble_eq_true rfl) ?_
  intro P E s mt below meth cd ls hx hb hml hown hts hr hlocks hP hK hl
  have hl : lv_has ls 3 [(0, .ref co), (1, .int (nI u))] := hl
  have S0 : CallFix P mt cd cX0_lastGood 3 s [.ref co, .int (nI u)].toArray wsX0_lastGood RX0 := ⟨hx, hb, hml, hown, hts⟩
  refine lv_bipush (v := (nI 9)) hx hb dX0_lastGood_0 (by decide) ?_
  refine lv_istore_n (lv' := [(2, .int (nI 9)), (0, .ref co), (1, .int (nI u))]) hx hb dX0_lastGood_2 rfl hl (by decide) rfl (fun ls hl => ?_)
  have lp3 : ∀ (nn : Nat) (i : Nat) (ls : Array Slot), (i) < nn → (i ≤ 10) → (lgd (fun m => fitb sl kd hg u u m) 10 = lgd (fun m => fitb sl kd hg u u m) i) → lv_has ls 3 [(0, .ref co), (1, .int (nI u)), (2, .int (pm i))] → W P l E ({ frames := 4, cells := 0, slots := 0, locals := 93 } : Room) s mt [.ref co, .int (nI u)].toArray below meth cd s.heap [] 0 0 (MQ below (vp_Si (fun r => r = enc (lgd (fun m => fitb sl kd hg u u m) 10))) [.ref co, .int (nI u)].toArray s 0 0 (fun _ => False)) (F0 mt 3 ls []) := by
    intro nn
    induction nn with
    | zero => intro i ls hmu; exact absurd hmu (Nat.not_lt_zero _)
    | succ nn ih3 =>
      intro i ls hmu hi hv hl
      refine lv_iload_n hx hb dX0_lastGood_3 rfl (lv_at hl 2 rfl) ?_
      refine lv_if_lt (tgt := 25) hx hb dX0_lastGood_4 (by decide) (fun c4 => ?_) (fun c4 => ?_)
      · have hi0 := pm_neg (by omega) c4
        refine lv_bipush (v := (-9)) hx hb dX0_lastGood_25 (by decide) ?_
        exact zretI hx hb hr hlocks rfl (by rw [hv, hi0]; rfl) dX0_lastGood_27
      · obtain ⟨k, rfl⟩ := pm_pos c4
        have hl : lv_has ls 3 [(0, .ref co), (1, .int (nI u)), (2, .int (nI k))] := hl
        refine lv_aload_n hx hb dX0_lastGood_7 rfl (lv_at hl 0 rfl) ?_
        refine lv_iload_n hx hb dX0_lastGood_8 rfl (lv_at hl 1 rfl) ?_
        refine lv_iload_n hx hb dX0_lastGood_9 rfl (lv_at hl 1 rfl) ?_
        refine lv_iload_n hx hb dX0_lastGood_10 rfl (lv_at hl 2 rfl) ?_
        have hPc : PP g (wC g co ck ch cl np sl kd hg lk) _ := hP
        refine zcallR (va_runV (As := [.int (nI u), .int (nI u), .int (nI k)]) (rest := []) (b := co) S0 (c_X0_doFit l g co ck ch cl np sl kd hg lk u u k hnp hsl hkd hhg (by omega) hu (by omega)) (cwV 3 hts gX0_lastGood_X0_doFit rfl rfl rfl (by decide +kernel) ⟨by decide, by decide⟩) (zpreV hK hPc (va_recv hK.1 hPc (ci := 0) (q0 := 0) rfl rfl)) rfl rfl hl.1 rfl (lv_room (Nat.le_of_ble_eq_true rfl)) dX0_lastGood_11 ⟨by decide, by decide⟩) (fun r11 h11 => ?_)
        subst h11
        have f1 := fitb_le sl kd hg u u k
        refine n_if_eq (a := (fitb sl kd hg u u k)) (tgt := 19) hx hb (by omega) dX0_lastGood_14 (by decide) (fun c14 => ?_) (fun c14 => ?_)
        · refine lv_iinc (v := (pm k)) (lv' := [(2, .int (pm k)), (0, .ref co), (1, .int (nI u))]) hx hb dX0_lastGood_19 hl (k := 2) rfl (pm_dec k) (by decide) rfl (fun ls hl => ?_)
          refine lv_goto (tgt := 3) hx hb dX0_lastGood_22 (by decide) ?_
          exact ih3 k  ls (by omega) (by omega) (by rw [hv, lgd, if_pos c14]) (lv_sub hl [1, 2, 0] rfl)
        · refine lv_iload_n hx hb dX0_lastGood_17 rfl (lv_at hl 2 rfl) ?_
          exact zretI hx hb hr hlocks rfl (by rw [hv, lgd, if_neg c14]; rfl) dX0_lastGood_18
  exact lp3 (10 + 1) 10  ls (Nat.lt_succ_self _) (by omega) rfl (lv_sub hl [1, 2, 0] rfl)

set_option maxHeartbeats 4000000 in
set_option maxRecDepth 100000 in
theorem c_X0_areAlike (l : Launch) (g : Gx) (co : Nat) (ck : Nat) (ch : Nat) (cl : Nat) (np : Nat) (sl : Nat) (kd : Nat → Nat) (hg : Nat → Nat) (lk : Nat → Nat) (p : Nat) (q : Nat) (hnp : np ≤ 6) (hsl : sl ≤ 9) (hhg : ∀ j, hg j ≤ 9) (hp : p < np) (hq : q < np) : Met l yX0_areAlike wsX0_areAlike ({ frames := 2, cells := 0, slots := 0, locals := 43 } : Room) (PcR g [.ref co, .int (nI p), .int (nI q)] (wC g co ck ch cl np sl kd hg lk)) (vp_Si (fun r => r = nI (alb sl hg p q))) 0 0 (fun _ => False) := by
  refine zenterR (cc := cX0_areAlike) (maxL := 5) (ret := (some .boolean)) (by decide) rfl (Nat.le_of_ble_eq_true rfl) ?_
  intro P E s mt below meth cd ls hx hb hml hown hts hr hlocks hP hK hl
  have hl : lv_has ls 5 [(0, .ref co), (1, .int (nI p)), (2, .int (nI q))] := hl
  have S0 : CallFix P mt cd cX0_areAlike 5 s [.ref co, .int (nI p), .int (nI q)].toArray wsX0_areAlike RX0 := ⟨hx, hb, hml, hown, hts⟩
  refine lv_iconst (v := (nI 0)) hx hb dX0_areAlike_0 (by decide) ?_
  refine lv_istore_n (lv' := [(3, .int (nI 0)), (0, .ref co), (1, .int (nI p)), (2, .int (nI q))]) hx hb dX0_areAlike_1 rfl hl (by decide) rfl (fun ls hl => ?_)
  refine lv_iconst (v := (nI 0)) hx hb dX0_areAlike_2 (by decide) ?_
  refine lv_istore (lv' := [(4, .int (nI 0)), (3, .int (nI 0)), (0, .ref co), (1, .int (nI p)), (2, .int (nI q))]) hx hb dX0_areAlike_3 hl (by decide) rfl (fun ls hl => ?_)
  have lp5 : ∀ (nn : Nat) (i : Nat) (ls : Array Slot), (3 - i) < nn → (i ≤ 3) → lv_has ls 5 [(0, .ref co), (1, .int (nI p)), (2, .int (nI q)), (3, .int (nI (sumk (alk hg p q) i))), (4, .int (nI i))] → W P l E ({ frames := 2, cells := 0, slots := 0, locals := 43 } : Room) s mt [.ref co, .int (nI p), .int (nI q)].toArray below meth cd s.heap [] 0 0 (MQ below (vp_Si (fun r => r = nI (alb sl hg p q))) [.ref co, .int (nI p), .int (nI q)].toArray s 0 0 (fun _ => False)) (F0 mt 5 ls []) := by
    intro nn
    induction nn with
    | zero => intro i ls hmu; exact absurd hmu (Nat.not_lt_zero _)
    | succ nn ih5 =>
      intro i ls hmu hi hl
      refine lv_iload hx hb dX0_areAlike_5 (lv_at hl 4 rfl) ?_
      refine lv_iconst (v := (nI 3)) hx hb dX0_areAlike_7 (by decide) ?_
      refine n_icmp_ge (a := i) (b := 3) (tgt := 38) hx hb (by omega) (by omega) dX0_areAlike_8 (by decide) (fun c8 => ?_) (fun c8 => ?_)
      · obtain rfl : 3 = i := by omega
        have hl : lv_has ls 5 [(0, .ref co), (1, .int (nI p)), (2, .int (nI q)), (3, .int (nI (al hg p q))), (4, .int (nI 3))] := hl
        have hal := al_le hhg p q
        refine lv_iload_n hx hb dX0_areAlike_38 rfl (lv_at hl 3 rfl) ?_
        refine lv_aload_n hx hb dX0_areAlike_39 rfl (lv_at hl 0 rfl) ?_
        refine va_get (D := g.1) (ci := 0) (v := .int (nI sl)) (C := RX0) (T := TX0) (N := 5) hx hb hts (fun _ h => (List.mem_cons_of_mem _ (List.mem_append_right _ h))) hown hK.1 hP 0 rfl rfl 4 (by decide) (hts _ (List.mem_of_getElem? (i := 5) rfl)) (fun _ h9 => h9) rfl dX0_areAlike_40 ?_
        refine n_icmp_gt (a := (al hg p q)) (b := sl) (tgt := 50) hx hb (by omega) (by omega) dX0_areAlike_43 (by decide) (fun c43 => ?_) (fun c43 => ?_)
        · refine lv_iconst (v := (nI 0)) hx hb dX0_areAlike_50 (by decide) ?_
          refine ztopI (nI (alb sl hg p q)) (by rw [alb, b01_f (by omega)]) ?_
          exact zretI hx hb hr hlocks (nar_b (b01_le _)) (by rfl) dX0_areAlike_51
        · refine lv_iconst (v := (nI 1)) hx hb dX0_areAlike_46 (by decide) ?_
          refine ztopI (nI (alb sl hg p q)) (by rw [alb, b01_t c43]) ?_
          refine lv_goto (tgt := 51) hx hb dX0_areAlike_47 (by decide) ?_
          exact zretI hx hb hr hlocks (nar_b (b01_le _)) (by rfl) dX0_areAlike_51
      · refine lv_iload_n hx hb dX0_areAlike_11 rfl (lv_at hl 3 rfl) ?_
        refine lv_aload_n hx hb dX0_areAlike_12 rfl (lv_at hl 0 rfl) ?_
        refine lv_iload_n hx hb dX0_areAlike_13 rfl (lv_at hl 1 rfl) ?_
        refine lv_iload hx hb dX0_areAlike_14 (lv_at hl 4 rfl) ?_
        have hPc : PP g (wC g co ck ch cl np sl kd hg lk) _ := hP
        refine zcallR (va_runV (As := [.int (nI p), .int (nI i)]) (rest := [.int (nI (sumk (alk hg p q) i))]) (b := co) S0 (c_X0_heightOf l g co ck ch cl np sl kd hg lk p i hnp hp (by omega)) (cwV 2 hts gX0_areAlike_X0_heightOf rfl rfl rfl (by decide +kernel) ⟨by decide, by decide⟩) (zpreV hK hPc (va_recv hK.1 hPc (ci := 0) (q0 := 0) rfl rfl)) rfl rfl hl.1 rfl (lv_room (Nat.le_of_ble_eq_true rfl)) dX0_areAlike_16 ⟨by decide, by decide⟩) (fun r16 h16 => ?_)
        subst h16
        refine lv_aload_n hx hb dX0_areAlike_19 rfl (lv_at hl 0 rfl) ?_
        refine lv_iload_n hx hb dX0_areAlike_20 rfl (lv_at hl 2 rfl) ?_
        refine lv_iload hx hb dX0_areAlike_21 (lv_at hl 4 rfl) ?_
        have hPc : PP g (wC g co ck ch cl np sl kd hg lk) _ := hP
        refine zcallR (va_runV (As := [.int (nI q), .int (nI i)]) (rest := [.int (nI (hg (3 * p + i))), .int (nI (sumk (alk hg p q) i))]) (b := co) S0 (c_X0_heightOf l g co ck ch cl np sl kd hg lk q i hnp hq (by omega)) (cwV 2 hts gX0_areAlike_X0_heightOf rfl rfl rfl (by decide +kernel) ⟨by decide, by decide⟩) (zpreV hK hPc (va_recv hK.1 hPc (ci := 0) (q0 := 0) rfl rfl)) rfl rfl hl.1 rfl (lv_room (Nat.le_of_ble_eq_true rfl)) dX0_areAlike_23 ⟨by decide, by decide⟩) (fun r23 h23 => ?_)
        subst h23
        refine lv_isub hx hb dX0_areAlike_26 ?_
        refine va_mabs hx hb (hml.trans hl.1.symm) hown (hts _ (List.mem_of_getElem? (i := 1) rfl)) (hts _ (List.mem_of_getElem? (i := 2) rfl)) (hts _ (List.mem_of_getElem? (i := 3) rfl)) (hts _ (List.mem_of_getElem? (i := 4) rfl)) (Nat.le_of_ble_eq_true rfl) (Nat.le_of_ble_eq_true rfl) (Nat.zero_le _) (Nat.zero_le _) dX0_areAlike_27 ?_
        refine ztopI (nI (alk hg p q i)) (abs_sub (by have := hhg (3 * p + i); omega) (by have := hhg (3 * q + i); omega)) ?_
        refine n_iadd (a := (sumk (alk hg p q) i)) (b := (alk hg p q i)) hx hb dX0_areAlike_30 ?_
        refine lv_istore_n (lv' := [(3, .int (nI ((sumk (alk hg p q) i) + (alk hg p q i)))), (0, .ref co), (1, .int (nI p)), (2, .int (nI q)), (4, .int (nI i))]) hx hb dX0_areAlike_31 rfl hl (by decide) rfl (fun ls hl => ?_)
        refine n_iinc (a := i) (d := 1) (lv' := [(4, .int (nI (i + 1))), (3, .int (nI ((sumk (alk hg p q) i) + (alk hg p q i)))), (0, .ref co), (1, .int (nI p)), (2, .int (nI q))]) hx hb dX0_areAlike_32 hl (k := 4) rfl (by decide) (by decide) rfl (fun ls hl => ?_)
        refine lv_goto (tgt := 5) hx hb dX0_areAlike_35 (by decide) ?_
        exact ih5 (i + 1)  ls (by omega) (by omega) (lv_sub hl [2, 3, 4, 1, 0] rfl)
  exact lp5 (3 - 0 + 1) 0  ls (Nat.lt_succ_self _) (by omega) (lv_sub hl [2, 3, 4, 1, 0] rfl)

set_option maxHeartbeats 4000000 in
set_option maxRecDepth 100000 in
theorem c_X0_likeness (l : Launch) (g : Gx) (co : Nat) (ck : Nat) (ch : Nat) (cl : Nat) (np : Nat) (sl : Nat) (kd : Nat → Nat) (hg : Nat → Nat) (lk : Nat → Nat) (p : Nat) (hnp : np ≤ 6) (hsl : sl ≤ 9) (hhg : ∀ j, hg j ≤ 9) (hp : p < np) : Met l yX0_likeness wsX0_likeness ({ frames := 3, cells := 0, slots := 0, locals := 67 } : Room) (PcR g [.ref co, .int (nI p)] (wC g co ck ch cl np sl kd hg lk)) (vp_Si (fun r => r = nI (lset np sl hg p))) 0 0 (fun _ => False) := by
  refine zenterR (cc := cX0_likeness) (maxL := 4) (ret := (some .int)) (by decide) rfl (Nat.le_of_ble_eq_true rfl) ?_
  intro P E s mt below meth cd ls hx hb hml hown hts hr hlocks hP hK hl
  have hl : lv_has ls 4 [(0, .ref co), (1, .int (nI p))] := hl
  have S0 : CallFix P mt cd cX0_likeness 4 s [.ref co, .int (nI p)].toArray wsX0_likeness RX0 := ⟨hx, hb, hml, hown, hts⟩
  refine lv_iconst (v := (nI 0)) hx hb dX0_likeness_0 (by decide) ?_
  refine lv_istore_n (lv' := [(2, .int (nI 0)), (0, .ref co), (1, .int (nI p))]) hx hb dX0_likeness_1 rfl hl (by decide) rfl (fun ls hl => ?_)
  refine lv_iconst (v := (nI 0)) hx hb dX0_likeness_2 (by decide) ?_
  refine lv_istore_n (lv' := [(3, .int (nI 0)), (2, .int (nI 0)), (0, .ref co), (1, .int (nI p))]) hx hb dX0_likeness_3 rfl hl (by decide) rfl (fun ls hl => ?_)
  have lp4 : ∀ (nn : Nat) (i : Nat) (ls : Array Slot), (np - i) < nn → (i ≤ np) → lv_has ls 4 [(0, .ref co), (1, .int (nI p)), (2, .int (nI (bset (likb sl hg p) i))), (3, .int (nI i))] → W P l E ({ frames := 3, cells := 0, slots := 0, locals := 67 } : Room) s mt [.ref co, .int (nI p)].toArray below meth cd s.heap [] 0 0 (MQ below (vp_Si (fun r => r = nI (lset np sl hg p))) [.ref co, .int (nI p)].toArray s 0 0 (fun _ => False)) (F0 mt 4 ls []) := by
    intro nn
    induction nn with
    | zero => intro i ls hmu; exact absurd hmu (Nat.not_lt_zero _)
    | succ nn ih4 =>
      intro i ls hmu hi hl
      refine lv_iload_n hx hb dX0_likeness_4 rfl (lv_at hl 3 rfl) ?_
      refine lv_aload_n hx hb dX0_likeness_5 rfl (lv_at hl 0 rfl) ?_
      refine va_get (D := g.1) (ci := 0) (v := .int (nI np)) (C := RX0) (T := TX0) (N := 5) hx hb hts (fun _ h => (List.mem_cons_of_mem _ (List.mem_append_right _ h))) hown hK.1 hP 0 rfl rfl 3 (by decide) (hts _ (List.mem_of_getElem? (i := 1) rfl)) (fun _ h9 => h9) rfl dX0_likeness_6 ?_
      refine n_icmp_ge (a := i) (b := np) (tgt := 44) hx hb (by omega) (by omega) dX0_likeness_9 (by decide) (fun c9 => ?_) (fun c9 => ?_)
      · refine lv_iload_n hx hb dX0_likeness_44 rfl (lv_at hl 2 rfl) ?_
        exact zretI hx hb hr hlocks rfl (by rw [show i = np by omega]; rfl) dX0_likeness_45
      · refine lv_iload_n hx hb dX0_likeness_12 rfl (lv_at hl 2 rfl) ?_
        refine lv_iload_n hx hb dX0_likeness_13 rfl (lv_at hl 3 rfl) ?_
        refine lv_iload_n hx hb dX0_likeness_14 rfl (lv_at hl 1 rfl) ?_
        refine n_icmp_eq (a := i) (b := p) (tgt := 31) hx hb (by omega) (by omega) dX0_likeness_15 (by decide) (fun c15 => ?_) (fun c15 => ?_)
        · refine lv_iconst (v := (nI 0)) hx hb dX0_likeness_31 (by decide) ?_
          refine ztopI (nI (likb sl hg p i)) (by rw [likb, b01_f (fun z => z.1 c15)]) ?_
          refine lv_iload_n hx hb dX0_likeness_32 rfl (lv_at hl 3 rfl) ?_
          refine zcallR (va_runSN (As := [.int (nI (likb sl hg p i)), .int (nI i)]) (rest := [.int (nI (bset (likb sl hg p) i))]) S0 (c_X4_bitIf l g (likb sl hg p i) i (b01_le _) (by omega)) ⟨va_cnB 2 hts gX0_likeness_X4_bitIf_n81 rfl rfl rfl hK.2.2.2.2.2.1 (hts _ (List.mem_of_getElem? (i := 22) rfl)) (by decide +kernel) ⟨by decide, by decide⟩, (hts _ (List.mem_of_getElem? (i := 21) rfl)), trivial⟩ (zpreS hK (P_nil _)) rfl rfl hl.1 rfl (lv_room (Nat.le_of_ble_eq_true rfl)) dX0_likeness_33 ⟨by decide, by decide⟩) (fun r33 h33 => ?_)
          subst h33
          have f1 := bt_ltE (likb sl hg p i) i
          refine n_ior (a := (bset (likb sl hg p) i)) (b := (bt (likb sl hg p i) i)) hx hb dX0_likeness_36 ?_
          refine lv_istore_n (lv' := [(2, .int (nI ((bset (likb sl hg p) i) ||| (bt (likb sl hg p i) i)))), (0, .ref co), (1, .int (nI p)), (3, .int (nI i))]) hx hb dX0_likeness_37 rfl hl (by decide) rfl (fun ls hl => ?_)
          refine n_iinc (a := i) (d := 1) (lv' := [(3, .int (nI (i + 1))), (2, .int (nI ((bset (likb sl hg p) i) ||| (bt (likb sl hg p i) i)))), (0, .ref co), (1, .int (nI p))]) hx hb dX0_likeness_38 hl (k := 3) rfl (by decide) (by decide) rfl (fun ls hl => ?_)
          refine lv_goto (tgt := 4) hx hb dX0_likeness_41 (by decide) ?_
          exact ih4 (i + 1)  ls (by omega) (by omega) (lv_sub hl [2, 3, 1, 0] rfl)
        · refine lv_aload_n hx hb dX0_likeness_18 rfl (lv_at hl 0 rfl) ?_
          refine lv_iload_n hx hb dX0_likeness_19 rfl (lv_at hl 1 rfl) ?_
          refine lv_iload_n hx hb dX0_likeness_20 rfl (lv_at hl 3 rfl) ?_
          have hPc : PP g (wC g co ck ch cl np sl kd hg lk) _ := hP
          refine zcallR (va_runV (As := [.int (nI p), .int (nI i)]) (rest := [.int (nI (bset (likb sl hg p) i))]) (b := co) S0 (c_X0_areAlike l g co ck ch cl np sl kd hg lk p i hnp hsl hhg (by omega) (by omega)) (cwV 2 hts gX0_likeness_X0_areAlike rfl rfl rfl (by decide +kernel) ⟨by decide, by decide⟩) (zpreV hK hPc (va_recv hK.1 hPc (ci := 0) (q0 := 0) rfl rfl)) rfl rfl hl.1 rfl (lv_room (Nat.le_of_ble_eq_true rfl)) dX0_likeness_21 ⟨by decide, by decide⟩) (fun r21 h21 => ?_)
          subst h21
          have f2 := alb_le sl hg p i
          refine n_if_eq (a := (alb sl hg p i)) (tgt := 31) hx hb (by omega) dX0_likeness_24 (by decide) (fun c24 => ?_) (fun c24 => ?_)
          · refine lv_iconst (v := (nI 0)) hx hb dX0_likeness_31 (by decide) ?_
            refine ztopI (nI (likb sl hg p i)) (by rw [likb, b01_f (fun z => b01_0.mp c24 z.2)]) ?_
            refine lv_iload_n hx hb dX0_likeness_32 rfl (lv_at hl 3 rfl) ?_
            refine zcallR (va_runSN (As := [.int (nI (likb sl hg p i)), .int (nI i)]) (rest := [.int (nI (bset (likb sl hg p) i))]) S0 (c_X4_bitIf l g (likb sl hg p i) i (b01_le _) (by omega)) ⟨va_cnB 2 hts gX0_likeness_X4_bitIf_n81 rfl rfl rfl hK.2.2.2.2.2.1 (hts _ (List.mem_of_getElem? (i := 22) rfl)) (by decide +kernel) ⟨by decide, by decide⟩, (hts _ (List.mem_of_getElem? (i := 21) rfl)), trivial⟩ (zpreS hK (P_nil _)) rfl rfl hl.1 rfl (lv_room (Nat.le_of_ble_eq_true rfl)) dX0_likeness_33 ⟨by decide, by decide⟩) (fun r33 h33 => ?_)
            subst h33
            have f3 := bt_ltE (likb sl hg p i) i
            refine n_ior (a := (bset (likb sl hg p) i)) (b := (bt (likb sl hg p i) i)) hx hb dX0_likeness_36 ?_
            refine lv_istore_n (lv' := [(2, .int (nI ((bset (likb sl hg p) i) ||| (bt (likb sl hg p i) i)))), (0, .ref co), (1, .int (nI p)), (3, .int (nI i))]) hx hb dX0_likeness_37 rfl hl (by decide) rfl (fun ls hl => ?_)
            refine n_iinc (a := i) (d := 1) (lv' := [(3, .int (nI (i + 1))), (2, .int (nI ((bset (likb sl hg p) i) ||| (bt (likb sl hg p i) i)))), (0, .ref co), (1, .int (nI p))]) hx hb dX0_likeness_38 hl (k := 3) rfl (by decide) (by decide) rfl (fun ls hl => ?_)
            refine lv_goto (tgt := 4) hx hb dX0_likeness_41 (by decide) ?_
            exact ih4 (i + 1)  ls (by omega) (by omega) (lv_sub hl [2, 3, 1, 0] rfl)
          · refine lv_iconst (v := (nI 1)) hx hb dX0_likeness_27 (by decide) ?_
            refine ztopI (nI (likb sl hg p i)) (by rw [likb, b01_t ⟨c15, b01_n0.mp c24⟩]) ?_
            refine lv_goto (tgt := 32) hx hb dX0_likeness_28 (by decide) ?_
            refine lv_iload_n hx hb dX0_likeness_32 rfl (lv_at hl 3 rfl) ?_
            refine zcallR (va_runSN (As := [.int (nI (likb sl hg p i)), .int (nI i)]) (rest := [.int (nI (bset (likb sl hg p) i))]) S0 (c_X4_bitIf l g (likb sl hg p i) i (b01_le _) (by omega)) ⟨va_cnB 2 hts gX0_likeness_X4_bitIf_n81 rfl rfl rfl hK.2.2.2.2.2.1 (hts _ (List.mem_of_getElem? (i := 22) rfl)) (by decide +kernel) ⟨by decide, by decide⟩, (hts _ (List.mem_of_getElem? (i := 21) rfl)), trivial⟩ (zpreS hK (P_nil _)) rfl rfl hl.1 rfl (lv_room (Nat.le_of_ble_eq_true rfl)) dX0_likeness_33 ⟨by decide, by decide⟩) (fun r33 h33 => ?_)
            subst h33
            have f4 := bt_ltE (likb sl hg p i) i
            refine n_ior (a := (bset (likb sl hg p) i)) (b := (bt (likb sl hg p i) i)) hx hb dX0_likeness_36 ?_
            refine lv_istore_n (lv' := [(2, .int (nI ((bset (likb sl hg p) i) ||| (bt (likb sl hg p i) i)))), (0, .ref co), (1, .int (nI p)), (3, .int (nI i))]) hx hb dX0_likeness_37 rfl hl (by decide) rfl (fun ls hl => ?_)
            refine n_iinc (a := i) (d := 1) (lv' := [(3, .int (nI (i + 1))), (2, .int (nI ((bset (likb sl hg p) i) ||| (bt (likb sl hg p i) i)))), (0, .ref co), (1, .int (nI p))]) hx hb dX0_likeness_38 hl (k := 3) rfl (by decide) (by decide) rfl (fun ls hl => ?_)
            refine lv_goto (tgt := 4) hx hb dX0_likeness_41 (by decide) ?_
            exact ih4 (i + 1)  ls (by omega) (by omega) (lv_sub hl [2, 3, 1, 0] rfl)
  exact lp4 (np - 0 + 1) 0  ls (Nat.lt_succ_self _) (by omega) (lv_sub hl [2, 3, 1, 0] rfl)

set_option maxHeartbeats 4000000 in
set_option maxRecDepth 100000 in
theorem c_X0_noneLinkedWithin (l : Launch) (g : Gx) (co : Nat) (ck : Nat) (ch : Nat) (cl : Nat) (np : Nat) (sl : Nat) (kd : Nat → Nat) (hg : Nat → Nat) (lk : Nat → Nat) (b : Nat) (hnp : np ≤ 6) (hb6 : b < 64) : Met l yX0_noneLinkedWithin wsX0_noneLinkedWithin ({ frames := 0, cells := 0, slots := 0, locals := 0 } : Room) (PcR g [.ref co, .int (nI b)] (wC g co ck ch cl np sl kd hg lk)) (vp_Si (fun r => r = nI (nl b lk np))) 0 0 (fun _ => False) := by
  refine zenterR (cc := cX0_noneLinkedWithin) (maxL := 3) (ret := (some .boolean)) (by decide) rfl (Nat.le_of_ble_eq_true rfl) ?_
  intro P E s mt below meth cd ls hx hb hml hown hts hr hlocks hP hK hl
  have hl : lv_has ls 3 [(0, .ref co), (1, .int (nI b))] := hl
  have S0 : CallFix P mt cd cX0_noneLinkedWithin 3 s [.ref co, .int (nI b)].toArray wsX0_noneLinkedWithin RX0 := ⟨hx, hb, hml, hown, hts⟩
  refine lv_iconst (v := (nI 0)) hx hb dX0_noneLinkedWithin_0 (by decide) ?_
  refine lv_istore_n (lv' := [(2, .int (nI 0)), (0, .ref co), (1, .int (nI b))]) hx hb dX0_noneLinkedWithin_1 rfl hl (by decide) rfl (fun ls hl => ?_)
  have lp2 : ∀ (nn : Nat) (i : Nat) (ls : Array Slot), (np - i) < nn → (i ≤ np) → (nl b lk i = 1) → lv_has ls 3 [(0, .ref co), (1, .int (nI b)), (2, .int (nI i))] → W P l E ({ frames := 0, cells := 0, slots := 0, locals := 0 } : Room) s mt [.ref co, .int (nI b)].toArray below meth cd s.heap [] 0 0 (MQ below (vp_Si (fun r => r = nI (nl b lk np))) [.ref co, .int (nI b)].toArray s 0 0 (fun _ => False)) (F0 mt 2 ls []) := by
    intro nn
    induction nn with
    | zero => intro i ls hmu; exact absurd hmu (Nat.not_lt_zero _)
    | succ nn ih2 =>
      intro i ls hmu hi hv hl
      refine lv_iload_n hx hb dX0_noneLinkedWithin_2 rfl (lv_at hl 2 rfl) ?_
      refine lv_aload_n hx hb dX0_noneLinkedWithin_3 rfl (lv_at hl 0 rfl) ?_
      refine va_get (D := g.1) (ci := 0) (v := .int (nI np)) (C := RX0) (T := TX0) (N := 5) hx hb hts (fun _ h => (List.mem_cons_of_mem _ (List.mem_append_right _ h))) hown hK.1 hP 0 rfl rfl 3 (by decide) (hts _ (List.mem_of_getElem? (i := 1) rfl)) (fun _ h9 => h9) rfl dX0_noneLinkedWithin_4 ?_
      refine n_icmp_ge (a := i) (b := np) (tgt := 37) hx hb (by omega) (by omega) dX0_noneLinkedWithin_7 (by decide) (fun c7 => ?_) (fun c7 => ?_)
      · refine lv_iconst (v := (nI 1)) hx hb dX0_noneLinkedWithin_37 (by decide) ?_
        exact zretI hx hb hr hlocks rfl (by rw [← show i = np by omega, hv]) dX0_noneLinkedWithin_38
      · refine lv_iload_n hx hb dX0_noneLinkedWithin_10 rfl (lv_at hl 1 rfl) ?_
        refine lv_iconst (v := (nI 1)) hx hb dX0_noneLinkedWithin_11 (by decide) ?_
        refine lv_iload_n hx hb dX0_noneLinkedWithin_12 rfl (lv_at hl 2 rfl) ?_
        refine n_ishl1 (n := i) hx hb (by omega) dX0_noneLinkedWithin_13 ?_
        refine n_iand (a := b) (b := (2 ^ i)) hx hb dX0_noneLinkedWithin_14 ?_
        refine n_if_eq (a := (b &&& (2 ^ i))) (tgt := 31) hx hb (Nat.lt_trans (and_lt' hb6) (by decide)) dX0_noneLinkedWithin_15 (by decide) (fun c15 => ?_) (fun c15 => ?_)
        · refine n_iinc (a := i) (d := 1) (lv' := [(2, .int (nI (i + 1))), (0, .ref co), (1, .int (nI b))]) hx hb dX0_noneLinkedWithin_31 hl (k := 2) rfl (by decide) (by decide) rfl (fun ls hl => ?_)
          refine lv_goto (tgt := 2) hx hb dX0_noneLinkedWithin_34 (by decide) ?_
          exact ih2 (i + 1)  ls (by omega) (by omega) (nl_go hv (fun z => z.1 c15)) (lv_sub hl [1, 2, 0] rfl)
        · refine lv_aload_n hx hb dX0_noneLinkedWithin_18 rfl (lv_at hl 0 rfl) ?_
          refine va_get (D := g.1) (ci := 0) (v := .ref cl) (C := RX0) (T := TX0) (N := 5) hx hb hts (fun _ h => (List.mem_cons_of_mem _ (List.mem_append_right _ h))) hown hK.1 hP 0 rfl rfl 2 (by decide) (hts _ (List.mem_of_getElem? (i := 2) rfl)) (fun _ h9 => h9) rfl dX0_noneLinkedWithin_19 ?_
          refine lv_iload_n hx hb dX0_noneLinkedWithin_22 rfl (lv_at hl 2 rfl) ?_
          refine n_iald (i := i) (v := (nI (lk i))) hx hb hK.1 hP 3 0 rfl rfl (by omega) (by decide) rfl dX0_noneLinkedWithin_23 ?_
          refine lv_iload_n hx hb dX0_noneLinkedWithin_24 rfl (lv_at hl 1 rfl) ?_
          refine n_iand (a := (lk i)) (b := b) hx hb dX0_noneLinkedWithin_25 ?_
          refine n_if_eq (a := ((lk i) &&& b)) (tgt := 31) hx hb (Nat.lt_trans (and_lt hb6) (by decide)) dX0_noneLinkedWithin_26 (by decide) (fun c26 => ?_) (fun c26 => ?_)
          · refine n_iinc (a := i) (d := 1) (lv' := [(2, .int (nI (i + 1))), (0, .ref co), (1, .int (nI b))]) hx hb dX0_noneLinkedWithin_31 hl (k := 2) rfl (by decide) (by decide) rfl (fun ls hl => ?_)
            refine lv_goto (tgt := 2) hx hb dX0_noneLinkedWithin_34 (by decide) ?_
            exact ih2 (i + 1)  ls (by omega) (by omega) (nl_go hv (fun z => z.2 c26)) (lv_sub hl [1, 2, 0] rfl)
          · refine lv_iconst (v := (nI 0)) hx hb dX0_noneLinkedWithin_29 (by decide) ?_
            exact zretI hx hb hr hlocks rfl (by rw [nl_stay (nl_bad c15 c26) np (by omega)]) dX0_noneLinkedWithin_30
  exact lp2 (np - 0 + 1) 0  ls (Nat.lt_succ_self _) (by omega) rfl (lv_sub hl [1, 2, 0] rfl)

set_option maxHeartbeats 4000000 in
set_option maxRecDepth 100000 in
theorem c_X0_layAll (l : Launch) (g : Gx) (co : Nat) (ck : Nat) (ch : Nat) (cl : Nat) (np : Nat) (sl : Nat) (kd : Nat → Nat) (hg : Nat → Nat) (lk : Nat → Nat) (m : Nat) (hnp : np ≤ 6) (hsl : sl ≤ 9) (hkd : ∀ j, kd j ≤ 2) (hhg : ∀ j, hg j ≤ 9) (hm : m ≤ 9) : Met l yX0_layAll wsX0_layAll ({ frames := 4, cells := 0, slots := 0, locals := 94 } : Room) (PcM g [.ref co, .int (nI m)] (wC g co ck ch cl np sl kd hg lk)) (va_Qv (fun (uu : Unit) => True) (fun (uu : Unit) t => PP g (wC g co ck ch cl np sl kd hg (fil (fun q => fset np sl kd hg q m) lk np)) t.heap) (inW (wC g co ck ch cl np sl kd hg lk))) 0 0 (inW (wC g co ck ch cl np sl kd hg lk)) := by
  refine zenterM (cc := cX0_layAll) (maxL := 3) (ret := none) (by decide) rfl (Nat.le_of_ble_eq_true rfl) ?_
  intro P E s mt below meth cd ls hx hb hml hown hts hr hlocks hP hK hD hS hl
  skip
  have hl : lv_has ls 3 [(0, .ref co), (1, .int (nI m))] := hl
  have S0 : CallFix P mt cd cX0_layAll 3 s [.ref co, .int (nI m)].toArray wsX0_layAll RX0 := ⟨hx, hb, hml, hown, hts⟩
  refine lv_iconst (v := (nI 0)) hx hb dX0_layAll_0 (by decide) ?_
  refine lv_istore_n (lv' := [(2, .int (nI 0)), (0, .ref co), (1, .int (nI m))]) hx hb dX0_layAll_1 rfl hl (by decide) rfl (fun ls hl => ?_)
  have lp2 : ∀ (nn : Nat) (i : Nat) (H : Heap) (locs : List Loc) (ls : Array Slot), (np - i) < nn → (i ≤ np) → PP g (wC g co ck ch cl np sl kd hg (fil (fun q => fset np sl kd hg q m) lk i)) H → va_D (inW (wC g co ck ch cl np sl kd hg lk)) (wC g co ck ch cl np sl kd hg (fil (fun q => fset np sl kd hg q m) lk i)) → va_S (inW (wC g co ck ch cl np sl kd hg lk)) s.heap H locs → lv_has ls 3 [(0, .ref co), (1, .int (nI m)), (2, .int (nI i))] → W P l E ({ frames := 4, cells := 0, slots := 0, locals := 94 } : Room) s mt [.ref co, .int (nI m)].toArray below meth cd H locs 0 0 (MQ below (va_Qv (fun (uu : Unit) => True) (fun (uu : Unit) t => PP g (wC g co ck ch cl np sl kd hg (fil (fun q => fset np sl kd hg q m) lk np)) t.heap) (inW (wC g co ck ch cl np sl kd hg lk))) [.ref co, .int (nI m)].toArray s 0 0 (inW (wC g co ck ch cl np sl kd hg lk))) (F0 mt 2 ls []) := by
    intro nn
    induction nn with
    | zero => intro i H locs ls hmu; exact absurd hmu (Nat.not_lt_zero _)
    | succ nn ih2 =>
      intro i H locs ls hmu hi hP hD hS hl
      refine lv_iload_n hx hb dX0_layAll_2 rfl (lv_at hl 2 rfl) ?_
      refine lv_aload_n hx hb dX0_layAll_3 rfl (lv_at hl 0 rfl) ?_
      refine va_get (D := g.1) (ci := 0) (v := .int (nI np)) (C := RX0) (T := TX0) (N := 5) hx hb hts (fun _ h => (List.mem_cons_of_mem _ (List.mem_append_right _ h))) hown hK.1 hP 0 rfl rfl 3 (by decide) (hts _ (List.mem_of_getElem? (i := 1) rfl)) (fun _ h9 => h9) rfl dX0_layAll_4 ?_
      refine n_icmp_ge (a := i) (b := np) (tgt := 28) hx hb (by omega) (by omega) dX0_layAll_7 (by decide) (fun c7 => ?_) (fun c7 => ?_)
      · obtain rfl : np = i := by omega
        exact zretMV (w1 := fun (uu : Unit) => wC g co ck ch cl np sl kd hg (fil (fun q => fset np sl kd hg q m) lk np)) () hx hb hr hlocks hS trivial hP dX0_layAll_28
      · refine lv_aload_n hx hb dX0_layAll_10 rfl (lv_at hl 0 rfl) ?_
        refine va_get (D := g.1) (ci := 0) (v := .ref cl) (C := RX0) (T := TX0) (N := 5) hx hb hts (fun _ h => (List.mem_cons_of_mem _ (List.mem_append_right _ h))) hown hK.1 hP 0 rfl rfl 2 (by decide) (hts _ (List.mem_of_getElem? (i := 2) rfl)) (fun _ h9 => h9) rfl dX0_layAll_11 ?_
        refine lv_iload_n hx hb dX0_layAll_14 rfl (lv_at hl 2 rfl) ?_
        refine lv_aload_n hx hb dX0_layAll_15 rfl (lv_at hl 0 rfl) ?_
        refine lv_iload_n hx hb dX0_layAll_16 rfl (lv_at hl 2 rfl) ?_
        refine lv_iload_n hx hb dX0_layAll_17 rfl (lv_at hl 1 rfl) ?_
        have hPc : PP g (wC g co ck ch cl np sl kd hg (fil (fun q => fset np sl kd hg q m) lk i)) _ := hP
        refine zcallR (va_runV (As := [.int (nI i), .int (nI m)]) (rest := [.int (nI i), .ref cl]) (b := co) S0 (c_X0_fitting l g co ck ch cl np sl kd hg (fil (fun q => fset np sl kd hg q m) lk i) i m hnp hsl hkd hhg (by omega) (by omega)) (cwV 2 hts gX0_layAll_X0_fitting rfl rfl rfl (by decide +kernel) ⟨by decide, by decide⟩) (zpreV hK hPc (va_recv hK.1 hPc (ci := 0) (q0 := 0) rfl rfl)) rfl rfl hl.1 rfl (lv_room (Nat.le_of_ble_eq_true rfl)) dX0_layAll_18 ⟨by decide, by decide⟩) (fun r18 h18 => ?_)
        subst h18
        have f1 := fset_64 hnp sl kd hg i m
        refine n_iast (i := i) (x := (nI (fset np sl kd hg i m))) (ws1 := wC g co ck ch cl np sl kd hg (va_up (fil (fun q => fset np sl kd hg q m) lk i) i (fset np sl kd hg i m))) hx hb hK.1 hP hD hS 3 0 rfl rfl (by omega) (by decide) (fun j => nI ((va_up (fil (fun q => fset np sl kd hg q m) lk i) i (fset np sl kd hg i m)) j)) (upd_nI _ _ _) rfl dX0_layAll_21 (fun H locs hP hD hS => ?_)
        refine n_iinc (a := i) (d := 1) (lv' := [(2, .int (nI (i + 1))), (0, .ref co), (1, .int (nI m))]) hx hb dX0_layAll_22 hl (k := 2) rfl (by decide) (by decide) rfl (fun ls hl => ?_)
        refine lv_goto (tgt := 2) hx hb dX0_layAll_25 (by decide) ?_
        rw [fil_up (fun q => fset np sl kd hg q m) lk i] at hP hD
        exact ih2 (i + 1) _ _ ls (by omega) (by omega) hP hD hS (lv_sub hl [1, 2, 0] rfl)
  exact lp2 (np - 0 + 1) 0 _ _ ls (Nat.lt_succ_self _) (by omega) (by rw [fil_0]; exact hP) (by rw [fil_0]; exact hD) hS (lv_sub hl [1, 2, 0] rfl)

set_option maxHeartbeats 4000000 in
set_option maxRecDepth 100000 in
theorem c_X0_freedBy (l : Launch) (g : Gx) (co : Nat) (ck : Nat) (ch : Nat) (cl : Nat) (np : Nat) (sl : Nat) (kd : Nat → Nat) (hg : Nat → Nat) (lk : Nat → Nat) (b : Nat) (hnp : np ≤ 6) (hb6 : b < 64) : Met l yX0_freedBy wsX0_freedBy ({ frames := 1, cells := 0, slots := 0, locals := 21 } : Room) (PcR g [.ref co, .int (nI b)] (wC g co ck ch cl np sl kd hg lk)) (vp_Si (fun r => r = nI (bset (frb lk b) np))) 0 0 (fun _ => False) := by
  refine zenterR (cc := cX0_freedBy) (maxL := 4) (ret := (some .int)) (by decide) rfl (Nat.le_of_ble_eq_true rfl) ?_
  intro P E s mt below meth cd ls hx hb hml hown hts hr hlocks hP hK hl
  have hl : lv_has ls 4 [(0, .ref co), (1, .int (nI b))] := hl
  have S0 : CallFix P mt cd cX0_freedBy 4 s [.ref co, .int (nI b)].toArray wsX0_freedBy RX0 := ⟨hx, hb, hml, hown, hts⟩
  refine lv_iconst (v := (nI 0)) hx hb dX0_freedBy_0 (by decide) ?_
  refine lv_istore_n (lv' := [(2, .int (nI 0)), (0, .ref co), (1, .int (nI b))]) hx hb dX0_freedBy_1 rfl hl (by decide) rfl (fun ls hl => ?_)
  refine lv_iconst (v := (nI 0)) hx hb dX0_freedBy_2 (by decide) ?_
  refine lv_istore_n (lv' := [(3, .int (nI 0)), (2, .int (nI 0)), (0, .ref co), (1, .int (nI b))]) hx hb dX0_freedBy_3 rfl hl (by decide) rfl (fun ls hl => ?_)
  have lp4 : ∀ (nn : Nat) (i : Nat) (ls : Array Slot), (np - i) < nn → (i ≤ np) → lv_has ls 4 [(0, .ref co), (1, .int (nI b)), (2, .int (nI (bset (frb lk b) i))), (3, .int (nI i))] → W P l E ({ frames := 1, cells := 0, slots := 0, locals := 21 } : Room) s mt [.ref co, .int (nI b)].toArray below meth cd s.heap [] 0 0 (MQ below (vp_Si (fun r => r = nI (bset (frb lk b) np))) [.ref co, .int (nI b)].toArray s 0 0 (fun _ => False)) (F0 mt 4 ls []) := by
    intro nn
    induction nn with
    | zero => intro i ls hmu; exact absurd hmu (Nat.not_lt_zero _)
    | succ nn ih4 =>
      intro i ls hmu hi hl
      refine lv_iload_n hx hb dX0_freedBy_4 rfl (lv_at hl 3 rfl) ?_
      refine lv_aload_n hx hb dX0_freedBy_5 rfl (lv_at hl 0 rfl) ?_
      refine va_get (D := g.1) (ci := 0) (v := .int (nI np)) (C := RX0) (T := TX0) (N := 5) hx hb hts (fun _ h => (List.mem_cons_of_mem _ (List.mem_append_right _ h))) hown hK.1 hP 0 rfl rfl 3 (by decide) (hts _ (List.mem_of_getElem? (i := 1) rfl)) (fun _ h9 => h9) rfl dX0_freedBy_6 ?_
      refine n_icmp_ge (a := i) (b := np) (tgt := 41) hx hb (by omega) (by omega) dX0_freedBy_9 (by decide) (fun c9 => ?_) (fun c9 => ?_)
      · refine lv_iload_n hx hb dX0_freedBy_41 rfl (lv_at hl 2 rfl) ?_
        exact zretI hx hb hr hlocks rfl (by rw [show i = np by omega]) dX0_freedBy_42
      · refine lv_iload_n hx hb dX0_freedBy_12 rfl (lv_at hl 2 rfl) ?_
        refine lv_aload_n hx hb dX0_freedBy_13 rfl (lv_at hl 0 rfl) ?_
        refine va_get (D := g.1) (ci := 0) (v := .ref cl) (C := RX0) (T := TX0) (N := 5) hx hb hts (fun _ h => (List.mem_cons_of_mem _ (List.mem_append_right _ h))) hown hK.1 hP 0 rfl rfl 2 (by decide) (hts _ (List.mem_of_getElem? (i := 2) rfl)) (fun _ h9 => h9) rfl dX0_freedBy_14 ?_
        refine lv_iload_n hx hb dX0_freedBy_17 rfl (lv_at hl 3 rfl) ?_
        refine n_iald (i := i) (v := (nI (lk i))) hx hb hK.1 hP 3 0 rfl rfl (by omega) (by decide) rfl dX0_freedBy_18 ?_
        refine lv_iload_n hx hb dX0_freedBy_19 rfl (lv_at hl 1 rfl) ?_
        refine n_iand (a := (lk i)) (b := b) hx hb dX0_freedBy_20 ?_
        refine n_if_eq (a := ((lk i) &&& b)) (tgt := 28) hx hb (Nat.lt_trans (and_lt hb6) (by decide)) dX0_freedBy_21 (by decide) (fun c21 => ?_) (fun c21 => ?_)
        · refine lv_iconst (v := (nI 0)) hx hb dX0_freedBy_28 (by decide) ?_
          refine ztopI (nI (frb lk b i)) (by rw [frb, b01_f (fun z => z c21)]) ?_
          refine lv_iload_n hx hb dX0_freedBy_29 rfl (lv_at hl 3 rfl) ?_
          refine zcallR (va_runSN (As := [.int (nI (frb lk b i)), .int (nI i)]) (rest := [.int (nI (bset (frb lk b) i))]) S0 (c_X4_bitIf l g (frb lk b i) i (b01_le _) (by omega)) ⟨va_cnB 2 hts gX0_freedBy_X4_bitIf_n81 rfl rfl rfl hK.2.2.2.2.2.1 (hts _ (List.mem_of_getElem? (i := 4) rfl)) (by decide +kernel) ⟨by decide, by decide⟩, (hts _ (List.mem_of_getElem? (i := 3) rfl)), trivial⟩ (zpreS hK (P_nil _)) rfl rfl hl.1 rfl (lv_room (Nat.le_of_ble_eq_true rfl)) dX0_freedBy_30 ⟨by decide, by decide⟩) (fun r30 h30 => ?_)
          subst h30
          have f1 := bt_ltE (frb lk b i) i
          refine n_ior (a := (bset (frb lk b) i)) (b := (bt (frb lk b i) i)) hx hb dX0_freedBy_33 ?_
          refine lv_istore_n (lv' := [(2, .int (nI ((bset (frb lk b) i) ||| (bt (frb lk b i) i)))), (0, .ref co), (1, .int (nI b)), (3, .int (nI i))]) hx hb dX0_freedBy_34 rfl hl (by decide) rfl (fun ls hl => ?_)
          refine n_iinc (a := i) (d := 1) (lv' := [(3, .int (nI (i + 1))), (2, .int (nI ((bset (frb lk b) i) ||| (bt (frb lk b i) i)))), (0, .ref co), (1, .int (nI b))]) hx hb dX0_freedBy_35 hl (k := 3) rfl (by decide) (by decide) rfl (fun ls hl => ?_)
          refine lv_goto (tgt := 4) hx hb dX0_freedBy_38 (by decide) ?_
          exact ih4 (i + 1)  ls (by omega) (by omega) (lv_sub hl [2, 3, 1, 0] rfl)
        · refine lv_iconst (v := (nI 1)) hx hb dX0_freedBy_24 (by decide) ?_
          refine ztopI (nI (frb lk b i)) (by rw [frb, b01_t c21]) ?_
          refine lv_goto (tgt := 29) hx hb dX0_freedBy_25 (by decide) ?_
          refine lv_iload_n hx hb dX0_freedBy_29 rfl (lv_at hl 3 rfl) ?_
          refine zcallR (va_runSN (As := [.int (nI (frb lk b i)), .int (nI i)]) (rest := [.int (nI (bset (frb lk b) i))]) S0 (c_X4_bitIf l g (frb lk b i) i (b01_le _) (by omega)) ⟨va_cnB 2 hts gX0_freedBy_X4_bitIf_n81 rfl rfl rfl hK.2.2.2.2.2.1 (hts _ (List.mem_of_getElem? (i := 4) rfl)) (by decide +kernel) ⟨by decide, by decide⟩, (hts _ (List.mem_of_getElem? (i := 3) rfl)), trivial⟩ (zpreS hK (P_nil _)) rfl rfl hl.1 rfl (lv_room (Nat.le_of_ble_eq_true rfl)) dX0_freedBy_30 ⟨by decide, by decide⟩) (fun r30 h30 => ?_)
          subst h30
          have f2 := bt_ltE (frb lk b i) i
          refine n_ior (a := (bset (frb lk b) i)) (b := (bt (frb lk b i) i)) hx hb dX0_freedBy_33 ?_
          refine lv_istore_n (lv' := [(2, .int (nI ((bset (frb lk b) i) ||| (bt (frb lk b i) i)))), (0, .ref co), (1, .int (nI b)), (3, .int (nI i))]) hx hb dX0_freedBy_34 rfl hl (by decide) rfl (fun ls hl => ?_)
          refine n_iinc (a := i) (d := 1) (lv' := [(3, .int (nI (i + 1))), (2, .int (nI ((bset (frb lk b) i) ||| (bt (frb lk b i) i)))), (0, .ref co), (1, .int (nI b))]) hx hb dX0_freedBy_35 hl (k := 3) rfl (by decide) (by decide) rfl (fun ls hl => ?_)
          refine lv_goto (tgt := 4) hx hb dX0_freedBy_38 (by decide) ?_
          exact ih4 (i + 1)  ls (by omega) (by omega) (lv_sub hl [2, 3, 1, 0] rfl)
  exact lp4 (np - 0 + 1) 0  ls (Nat.lt_succ_self _) (by omega) (lv_sub hl [2, 3, 1, 0] rfl)
