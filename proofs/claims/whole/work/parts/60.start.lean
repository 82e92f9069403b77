theorem arr_prim {args : Array Value} {s : State} (h : (Cond.arrayClass .int).before args s = true) : ∃ cA : ClassId, ArrOfT s cA .int ∧ va_RA s cA .int := by
  obtain ⟨cA, kA, comp, h1, h2, h3⟩ := Cond.arrayClass_spec h
  exact ⟨cA, fun n z => ⟨fun k h => (by cases h), kA, h2, comp, h3⟩, h1⟩
theorem arr_bool {args : Array Value} {s : State} (h : (Cond.arrayClass .boolean).before args s = true) : ∃ cA : ClassId, ArrOfT s cA .boolean ∧ va_RA s cA .boolean := by
  obtain ⟨cA, kA, comp, h1, h2, h3⟩ := Cond.arrayClass_spec h
  exact ⟨cA, fun n z => ⟨fun k h => (by cases h), kA, h2, comp, h3⟩, h1⟩
theorem arr_obj {args : Array Value} {s : State} (h : (Cond.arrayOver (.object RX2)).before args s = true) : ∃ cA : ClassId, ArrOfT s cA (.object RX2) ∧ va_RA s cA (.object RX2) := by
  obtain ⟨comp, cA, kA, h1, h2, h3, h4, h5⟩ := Cond.arrayOver_spec h
  exact ⟨cA, fun n z => ⟨fun k h => (by cases h), kA, h3, comp, h4⟩, kA, comp, h3, h4, h1, h5⟩
theorem cW_1 {a : va_W} {q : Nat × va_E} (h : a.length = 22) : [22].map (fun i => (a ++ [q])[i]?) = [q].map some := by
  have := map_mid [q] a []
  rw [h, List.append_nil] at this
  exact this
set_option maxHeartbeats 4000000 in
set_option maxRecDepth 100000 in
/-- what is known at the start -/
theorem lw_KK {s : State} {b : Nat} (hts0 : ∀ w ∈ lw_tbl, w.before [Value.ref b].toArray s = true) : ∃ g : Gx, KK g s ∧ va_AO RX2 s := by
  have hts : ∀ w ∈ wsL_law, w.before [Value.ref b].toArray s = true := fun w h => hts0 w (wsL_law_in w h)
  obtain ⟨c0, i0, k0⟩ := u_known (C := RX0) (T := TX0) (N := 5) (n := 5) hts inlX0 (hts0 (.instantiable RX0 5) (List.mem_of_getElem? (i := 55) (by decide +kernel)))
  obtain ⟨c1, i1, k1⟩ := u_known (C := RX1) (T := TX1) (N := 5) (n := 5) hts inlX1 (hts0 (.instantiable RX1 5) (List.mem_of_getElem? (i := 94) (by decide +kernel)))
  obtain ⟨c2, i2, k2⟩ := u_known (C := RX2) (T := TX2) (N := 3) (n := 3) hts inlX2 (hts0 (.instantiable RX2 3) (List.mem_of_getElem? (i := 116) (by decide +kernel)))
  obtain ⟨c3, i3, k3⟩ := u_known (C := RX3) (T := TX3) (N := 3) (n := 3) hts inlX3 (hts0 (.instantiable RX3 3) (List.mem_of_getElem? (i := 78) (by decide +kernel)))
  obtain ⟨c4, i4, k4⟩ := u_known (C := RX4) (T := TX4) (N := 6) (n := 6) hts inlX4 (hts0 (.instantiable RX4 6) (List.mem_of_getElem? (i := 45) (by decide +kernel)))
  obtain ⟨c5, i5, k5⟩ := u_known (C := RX5) (T := TX5) (N := 23) (n := 23) hts inlX5 (hts0 (.instantiable RX5 23) (List.mem_of_getElem? (i := 591) (by decide +kernel)))
  obtain ⟨cI, hI1, hI2⟩ := arr_prim (hts0 (.arrayClass .int) (List.mem_of_getElem? (i := 76) (by decide +kernel)))
  obtain ⟨cZ, hZ1, hZ2⟩ := arr_bool (hts0 (.arrayClass .boolean) (List.mem_of_getElem? (i := 115) (by decide +kernel)))
  have hO : (Cond.arrayOver (.object RX2)).before [Value.ref b].toArray s = true := hts0 _ (List.mem_of_getElem? (i := 53) (by decide +kernel))
  obtain ⟨cS, hS1, hS2⟩ := arr_obj hO
  refine ⟨((fun k => if k = 0 then c0 else if k = 1 then c1 else if k = 2 then c2 else if k = 3 then c3 else if k = 4 then c4 else c5, fun k => if k = 0 then i0 else if k = 1 then i1 else if k = 2 then i2 else if k = 3 then i3 else if k = 4 then i4 else i5), cI, cZ, cS), ⟨⟨?_, ?_⟩, ?_⟩, va_AO.of hO⟩
  · intro k q hq
    match k, hq with
    | 0, hq => cases hq; exact k0
    | 1, hq => cases hq; exact k1
    | 2, hq => cases hq; exact k2
    | 3, hq => cases hq; exact k3
    | 4, hq => cases hq; exact k4
    | 5, hq => cases hq; exact k5
    | k + 6, hq => simp [vwCl] at hq
  · intro k q hq
    match k, hq with
    | 0, hq => cases hq; exact ⟨hI1, hI2⟩
    | 1, hq => cases hq; exact ⟨hZ1, hZ2⟩
    | 2, hq => cases hq; exact ⟨hS1, hS2⟩
    | k + 3, hq => simp [tyG] at hq
  · exact ⟨va_Nw.of rfl (hts0 (.methodLinkNest RX4 19 yX0_init RX4) (List.mem_of_getElem? (i := 56) (by decide +kernel))), va_Nw.of rfl (hts0 (.methodLinkNest RX4 26 yX3_init RX4) (List.mem_of_getElem? (i := 79) (by decide +kernel))), va_Nw.of rfl (hts0 (.methodLinkNest RX4 33 yX1_init RX4) (List.mem_of_getElem? (i := 95) (by decide +kernel))), va_Nw.of rfl (hts0 (.methodLinkNest RX4 45 yX2_init RX4) (List.mem_of_getElem? (i := 117) (by decide +kernel))), va_Nw.of rfl (hts0 (.methodLinkNest RX0 81 yX4_bitIf RX4) (List.mem_of_getElem? (i := 307) (by decide +kernel))), va_Nw.of rfl (hts0 (.methodLinkNest RX3 40 yX4_isMonths RX4) (List.mem_of_getElem? (i := 409) (by decide +kernel))), va_Nw.of rfl (hts0 (.methodLinkNest RX3 46 yX4_bitIf RX4) (List.mem_of_getElem? (i := 423) (by decide +kernel)))⟩
set_option maxHeartbeats 4000000 in
set_option maxRecDepth 100000 in
theorem whole_start {p : Program} {e : Env} {s : State} {m : MethodId} {below : List Frame} {meth : Method} {c : Code} (l : Launch) (hflags : l.flags = flags0) {b L : Nat} {xs : Nat → Int32} (hL : L ≤ 3584) (C0 : lw_At p s m meth c b L xs) : W p l e room_1 s m #[Value.ref b] below meth c s.heap [] 0 0 (lw_Z below #[Value.ref b] s) (entryFrame m ([Value.ref b] : List Value).toArray 4) := by
  obtain ⟨hx, hb, hr, hml, hown, hts0, hX, hbl, hlocks, hgv⟩ := C0
  have hts : ∀ w ∈ wsL_law, w.before [Value.ref b].toArray s = true := fun w h => hts0 w (wsL_law_in w h)
  obtain ⟨g, hK, hO⟩ := lw_KK hts0
  have hb : c.code = cL_law := hb
  have hown : s.vm.findClass RL = some m.cls := hown
  have S0 : CallFix p m c cL_law 4 s [Value.ref b].toArray wsL_law RL := ⟨hx, hb, hml, hown, hts⟩
  have hA : ∀ q : Nat, s.heap.size ≤ q → (fun q : Nat => s.heap.size ≤ q) q := fun _ h => h
  have hS : va_S (fun q : Nat => s.heap.size ≤ q) s.heap s.heap [] := va_S.rf
  have hP : PP g [] s.heap := fun k q h => by simp at h
  have hD : va_D (fun q : Nat => s.heap.size ≤ q) [] := ⟨fun i j p q h => by simp at h, fun k q h => by simp at h⟩
  have hl := lv_entry ([.ref b]) (n := 4) (Nat.le_of_ble_eq_true rfl)
  rw [lg_entry_eq]
  generalize (lg_sl ([.ref b]) ++ List.replicate (4 - (lg_sl ([.ref b])).length) Slot.unset).toArray = ls at hl ⊢
  have hl : lv_has ls 4 [(0, .ref b)] := hl
  refine va_new (ci := 4) (fs := [.null, .null, .null, .null, .int (nI 0), .int (nI 0)]) (C := RX4) (T := TX4) (N := 6) hx hb hts inlX4 tyX4 tyX4_ok hown (hts _ (List.mem_of_getElem? (i := 0) rfl)) (hts _ (List.mem_of_getElem? (i := 1) rfl)) (hts _ (List.mem_of_getElem? (i := 2) rfl)) hK.1 hP hD hS hA rfl (fun j hj => by rcases (show j = 0 ∨ j = 1 ∨ j = 2 ∨ j = 3 ∨ j = 4 ∨ j = 5 by omega) with rfl | rfl | rfl | rfl | rfl | rfl <;> rfl) (Nat.le_of_ble_eq_true rfl) (Nat.le_of_ble_eq_true rfl) dL_law_0 (fun x H hP hD hS => ?_)
  refine W.widen (k := 1) (n := 6) (Nat.le_of_ble_eq_true rfl) (Nat.le_of_ble_eq_true rfl) ?_
  have hP : PP g [(x, .inr (4, [.null, .null, .null, .null, .int (nI 0), .int (nI 0)]))] H := hP
  have hD : va_D (fun q : Nat => s.heap.size ≤ q) [(x, .inr (4, [.null, .null, .null, .null, .int (nI 0), .int (nI 0)]))] := hD
  refine lv_dup hx hb dL_law_3 rfl ?_
  refine zcallN (w := [(x, .inr (4, [.null, .null, .null, .null, .int (nI 0), .int (nI 0)]))]) (wr := []) (va_runI (As := []) (rest := [.ref x]) (b := x) S0 (c_X4_init l g x H.size) (cwI 0 hts gL_law_X4_init rfl rfl rfl (hts _ (List.mem_of_getElem? (i := 2) rfl)) (hts _ (List.mem_of_getElem? (i := 6) rfl)) (hts _ (List.mem_of_getElem? (i := 7) rfl)) rfl (by decide +kernel) ⟨Nat.le_of_ble_eq_true rfl, Nat.le_of_ble_eq_true rfl⟩) (zpreN hK hO hP hD [0] rfl (by decide)) rfl rfl hl.1 rfl (lv_room (Nat.le_of_ble_eq_true rfl)) dL_law_4 ⟨Nat.le_of_ble_eq_true rfl, Nat.le_of_ble_eq_true rfl⟩) hP hD hS hA [0] [] rfl rfl (by decide) (by decide) 22 rfl 377 rfl (fun u1 H locs hP hD hS => ?_)
  have hP : PP g (wX g x (u1 0) (u1 1) (u1 2) (u1 3) (u1 4) (u1 5) (u1 6) (u1 7) (u1 8) (u1 9) (u1 10) (u1 11) (u1 12) (fun k => u1 (13 + 2 * k)) (fun k => u1 (14 + 2 * k)) (nI 0) 0 0 0 (fun _ => 0) (fun _ => 0) (fun _ => 0) 0 (fun _ => nI 0) (fun _ => nI 0) 0 (fun _ => 0) (fun _ => 0) (fun _ => 0) (fun _ => 0) (fun _ => 3) (fun _ => 0) (fun _ _ => nI 0)) H := hP
  have hD : va_D (fun q : Nat => s.heap.size ≤ q) (wX g x (u1 0) (u1 1) (u1 2) (u1 3) (u1 4) (u1 5) (u1 6) (u1 7) (u1 8) (u1 9) (u1 10) (u1 11) (u1 12) (fun k => u1 (13 + 2 * k)) (fun k => u1 (14 + 2 * k)) (nI 0) 0 0 0 (fun _ => 0) (fun _ => 0) (fun _ => 0) 0 (fun _ => nI 0) (fun _ => nI 0) 0 (fun _ => 0) (fun _ => 0) (fun _ => 0) (fun _ => 0) (fun _ => 3) (fun _ => 0) (fun _ _ => nI 0)) := hD
  refine lv_astore_n (lv' := [(1, .ref x), (0, .ref b)]) hx hb dL_law_7 rfl hl (by decide) rfl (fun ls hl => ?_)
  refine va_new (ci := 5) (fs := [.int (nI 0), .int (nI 0), .null, .null, .null, .int (nI 0), .int (nI 0), .null, .null, .int (nI 0), .int (nI 0), .int (nI 0), .null, .null, .int (nI 0), .int (nI 0), .int (nI 0), .null, .int (nI 0), .null, .null, .null, .null]) (C := RX5) (T := TX5) (N := 23) hx hb hts inlX5 tyX5 tyX5_ok hown (hts _ (List.mem_of_getElem? (i := 3) rfl)) (hts _ (List.mem_of_getElem? (i := 4) rfl)) (hts _ (List.mem_of_getElem? (i := 5) rfl)) hK.1 hP hD hS hA rfl (fun j hj => by rcases (show j = 0 ∨ j = 1 ∨ j = 2 ∨ j = 3 ∨ j = 4 ∨ j = 5 ∨ j = 6 ∨ j = 7 ∨ j = 8 ∨ j = 9 ∨ j = 10 ∨ j = 11 ∨ j = 12 ∨ j = 13 ∨ j = 14 ∨ j = 15 ∨ j = 16 ∨ j = 17 ∨ j = 18 ∨ j = 19 ∨ j = 20 ∨ j = 21 ∨ j = 22 by omega) with rfl | rfl | rfl | rfl | rfl | rfl | rfl | rfl | rfl | rfl | rfl | rfl | rfl | rfl | rfl | rfl | rfl | rfl | rfl | rfl | rfl | rfl | rfl <;> rfl) (Nat.le_of_ble_eq_true rfl) (Nat.le_of_ble_eq_true rfl) dL_law_8 (fun y H hP hD hS => ?_)
  refine W.widen (k := 23) (n := 400) (Nat.le_of_ble_eq_true rfl) (Nat.le_of_ble_eq_true rfl) ?_
  refine lv_dup hx hb dL_law_11 rfl ?_
  refine zcallN (w := [(y, .inr (5, [.int (nI 0), .int (nI 0), .null, .null, .null, .int (nI 0), .int (nI 0), .null, .null, .int (nI 0), .int (nI 0), .int (nI 0), .null, .null, .int (nI 0), .int (nI 0), .int (nI 0), .null, .int (nI 0), .null, .null, .null, .null]))]) (wr := wX g x (u1 0) (u1 1) (u1 2) (u1 3) (u1 4) (u1 5) (u1 6) (u1 7) (u1 8) (u1 9) (u1 10) (u1 11) (u1 12) (fun k => u1 (13 + 2 * k)) (fun k => u1 (14 + 2 * k)) (nI 0) 0 0 0 (fun _ => 0) (fun _ => 0) (fun _ => 0) 0 (fun _ => nI 0) (fun _ => nI 0) 0 (fun _ => 0) (fun _ => 0) (fun _ => 0) (fun _ => 0) (fun _ => 3) (fun _ => 0) (fun _ _ => nI 0)) (va_runI (As := []) (rest := [.ref y]) (b := y) S0 (c_X5_init l g y H.size) (cwI 0 hts gL_law_X5_init rfl rfl rfl (hts _ (List.mem_of_getElem? (i := 5) rfl)) (hts _ (List.mem_of_getElem? (i := 60) rfl)) (hts _ (List.mem_of_getElem? (i := 61) rfl)) rfl (by decide +kernel) ⟨Nat.le_of_ble_eq_true rfl, Nat.le_of_ble_eq_true rfl⟩) (zpreN hK hO hP hD [22] (cW_1 lz_wX) (by decide)) rfl rfl hl.1 rfl (lv_room (Nat.le_of_ble_eq_true rfl)) dL_law_12 ⟨Nat.le_of_ble_eq_true rfl, Nat.le_of_ble_eq_true rfl⟩) hP hD hS hA [22] isX (cW_1 lz_wX) (cW_l lz_wX) ndX (by decide) 35 rfl 734 rfl (fun u2 H locs hP hD hS => ?_)
  have hP : PP g (wX g x (u1 0) (u1 1) (u1 2) (u1 3) (u1 4) (u1 5) (u1 6) (u1 7) (u1 8) (u1 9) (u1 10) (u1 11) (u1 12) (fun k => u1 (13 + 2 * k)) (fun k => u1 (14 + 2 * k)) (nI 0) 0 0 0 (fun _ => 0) (fun _ => 0) (fun _ => 0) 0 (fun _ => nI 0) (fun _ => nI 0) 0 (fun _ => 0) (fun _ => 0) (fun _ => 0) (fun _ => 0) (fun _ => 3) (fun _ => 0) (fun _ _ => nI 0) ++ wM g y (u2 0) (u2 1) (u2 2) (u2 3) (u2 4) (u2 5) (u2 6) (u2 7) (u2 8) (u2 9) (u2 10) (u2 11) 0 (nI 0) (fun _ => 3) (fun _ => 0) (fun _ _ => nI 0) 0 0 (fun _ => 0) (fun _ => 0) 0 (nI 0) 0 (fun _ => nI 0) (fun _ => nI 0) (nI 0) (nI 0) (nI 0) (fun _ => nI 0) 0 (fun _ => 0) (fun _ => 0) (fun _ => 0) (fun _ => 0)) H := hP
  have hD : va_D (fun q : Nat => s.heap.size ≤ q) (wX g x (u1 0) (u1 1) (u1 2) (u1 3) (u1 4) (u1 5) (u1 6) (u1 7) (u1 8) (u1 9) (u1 10) (u1 11) (u1 12) (fun k => u1 (13 + 2 * k)) (fun k => u1 (14 + 2 * k)) (nI 0) 0 0 0 (fun _ => 0) (fun _ => 0) (fun _ => 0) 0 (fun _ => nI 0) (fun _ => nI 0) 0 (fun _ => 0) (fun _ => 0) (fun _ => 0) (fun _ => 0) (fun _ => 3) (fun _ => 0) (fun _ _ => nI 0) ++ wM g y (u2 0) (u2 1) (u2 2) (u2 3) (u2 4) (u2 5) (u2 6) (u2 7) (u2 8) (u2 9) (u2 10) (u2 11) 0 (nI 0) (fun _ => 3) (fun _ => 0) (fun _ _ => nI 0) 0 0 (fun _ => 0) (fun _ => 0) 0 (nI 0) 0 (fun _ => nI 0) (fun _ => nI 0) (nI 0) (nI 0) (nI 0) (fun _ => nI 0) 0 (fun _ => 0) (fun _ => 0) (fun _ => 0) (fun _ => 0)) := hD
  refine lv_astore_n (lv' := [(2, .ref y), (1, .ref x), (0, .ref b)]) hx hb dL_law_15 rfl hl (by decide) rfl (fun ls hl => ?_)
  refine lv_iconst (v := nI 0) hx hb dL_law_16 (by decide) ?_
  refine lv_istore_n (lv' := [(3, .int (nI 0)), (2, .ref y), (1, .ref x), (0, .ref b)]) hx hb dL_law_17 rfl hl (by decide) rfl (fun ls hl => ?_)
  have hG0 : Gd 0 0 (fun _ => 0) (fun _ => 0) 0 (fun _ => 0) (fun _ => 0) (fun _ => 0) (fun _ => 0) (fun _ => 3) (fun _ => 0) := ⟨Nat.zero_le _, Nat.zero_le _, fun _ => Nat.zero_le _, fun _ => Nat.zero_le _, Nat.zero_le _, fun j hj => absurd hj (Nat.not_lt_zero j), fun j hj => absurd hj (Nat.not_lt_zero j), fun j hj => absurd hj (Nat.not_lt_zero j), fun _ => Nat.zero_le _, fun _ => Nat.le_refl _, fun _ => Nat.zero_le _⟩
  have hI : LawI g s x y H locs := ⟨u1 0, u1 1, u1 2, u1 3, u1 4, u1 5, u1 6, u1 7, u1 8, u1 9, u1 10, u1 11, u1 12, (fun k => u1 (13 + 2 * k)), (fun k => u1 (14 + 2 * k)), u2 0, u2 1, u2 2, u2 3, u2 4, u2 5, u2 6, u2 7, u2 8, u2 9, u2 10, u2 11, nI 0, 0, 0, 0, (fun _ => 0), (fun _ => 0), 0, (fun _ => 0), (fun _ => 0), (fun _ => 0), (fun _ => 0), (fun _ => 3), (fun _ => 0), (fun _ _ => nI 0), (fun _ => 0), 0, (fun _ => nI 0), (fun _ => nI 0), 0, nI 0, 0, (fun _ => nI 0), (fun _ => nI 0), nI 0, nI 0, nI 0, (fun _ => nI 0), hG0, hP, hD, hS⟩
  exact law_loop ⟨hx, hb, S0, hX, hbl, hK, hL⟩ hr hlocks (L + 8) 0 (by omega) (Nat.zero_le _) H locs ls hI (lv_sub hl [3, 2, 1, 0] rfl)
