set_option maxHeartbeats 4000000 in
set_option maxRecDepth 100000 in
theorem c_X0_init (l : Launch) (g : Gx) (co sz : Nat) : Met l yX0_init wsX0_init ({ frames := 1, cells := 3, slots := 30, locals := 20 } : Room) (PcN g [.ref co] [(co, .inr (0, [.null, .null, .null, .int (nI 0), .int (nI 0)]))] sz) (QN g [(co, .inr (0, [.null, .null, .null, .int (nI 0), .int (nI 0)]))] sz (fun (uu : Nat × Nat × Nat) => wC g co uu.1 uu.2.1 uu.2.2 0 0 (fun _ => 0) (fun _ => 0) (fun _ => 0))) 3 30 (va_A [(co, .inr (0, [.null, .null, .null, .int (nI 0), .int (nI 0)]))] sz) := by
  refine zenterN (cc := cX0_init) (maxL := 1) (ret := none) (by decide) rfl (Nat.le_of_ble_eq_true rfl) ?_
  intro P E s mt below meth cd ls hx hb hml hown hts hr hlocks hin hP hK hO hD hS hA hl
  have hl : lv_has ls 1 [(0, .ref co)] := hl
  have S0 : CallFix P mt cd cX0_init 1 s [.ref co].toArray wsX0_init RX0 := ⟨hx, hb, hml, hown, hts⟩
  refine lv_aload_n hx hb dX0_init_0 rfl (lv_at hl 0 rfl) ?_
  refine W.objInit hx hb hown (hts _ (List.mem_of_getElem? (i := 1) rfl)) (hts _ (List.mem_of_getElem? (i := 2) rfl)) (hts _ (List.mem_of_getElem? (i := 3) rfl)) rfl (by rw [hml]; exact hl.1) rfl dX0_init_1 (Nat.le_of_ble_eq_true rfl) (Nat.le_of_ble_eq_true rfl) ?_
  refine W.eq (g2 := F0 mt 4 ls []) rfl ?_
  refine lv_aload_n hx hb dX0_init_4 rfl (lv_at hl 0 rfl) ?_
  refine lv_bipush (v := (nI 6)) hx hb dX0_init_5 (by decide) ?_
  refine n_newaI (N := 6) hx hb (hts _ (List.mem_of_getElem? (i := 4) rfl)) hK hP hD hS hA (by decide) (by decide) (by decide) dX0_init_7 1 rfl 6 rfl (fun ck H hP hD hS => ?_)
  have hP : PP g [(co, .inr (0, [.null, .null, .null, .int (nI 0), .int (nI 0)])), (ck, .inl (gI g, 6, .inl (fun _ => nI 0)))] H := hP
  have hD : va_D (va_A [(co, .inr (0, [.null, .null, .null, .int (nI 0), .int (nI 0)]))] sz) [(co, .inr (0, [.null, .null, .null, .int (nI 0), .int (nI 0)])), (ck, .inl (gI g, 6, .inl (fun _ => nI 0)))] := hD
  refine n_putF (D := g.1) (ci := 0) (v := .ref ck) (ty := .array .int) (C := RX0) (T := TX0) (N := 5) (ws1 := [(co, .inr (0, [.ref ck, .null, .null, .int (nI 0), .int (nI 0)])), (ck, .inl (gI g, 6, .inl (fun _ => nI 0)))]) hx hb hts (fun _ h => (List.mem_cons_of_mem _ (List.mem_append_right _ h))) tyX0 tyX0_ok nmX0 hown hK.1 hP hD hS 0 rfl rfl 0 (by decide) (hts _ (List.mem_of_getElem? (i := 5) rfl)) (fun _ h9 => h9) rfl hin rfl (by decide +kernel) rfl rfl (Nat.le_of_ble_eq_true rfl) rfl dX0_init_9 (fun H locs hP hD hS => ?_)
  refine lv_aload_n hx hb dX0_init_12 rfl (lv_at hl 0 rfl) ?_
  refine lv_bipush (v := (nI 18)) hx hb dX0_init_13 (by decide) ?_
  refine n_newaI (N := 18) hx hb (hts _ (List.mem_of_getElem? (i := 4) rfl)) hK hP hD hS hA (by decide) (by decide) (by decide) dX0_init_15 2 rfl 24 rfl (fun ch H hP hD hS => ?_)
  have hP : PP g [(co, .inr (0, [.ref ck, .null, .null, .int (nI 0), .int (nI 0)])), (ck, .inl (gI g, 6, .inl (fun _ => nI 0))), (ch, .inl (gI g, 18, .inl (fun _ => nI 0)))] H := hP
  have hD : va_D (va_A [(co, .inr (0, [.null, .null, .null, .int (nI 0), .int (nI 0)]))] sz) [(co, .inr (0, [.ref ck, .null, .null, .int (nI 0), .int (nI 0)])), (ck, .inl (gI g, 6, .inl (fun _ => nI 0))), (ch, .inl (gI g, 18, .inl (fun _ => nI 0)))] := hD
  refine n_putF (D := g.1) (ci := 0) (v := .ref ch) (ty := .array .int) (C := RX0) (T := TX0) (N := 5) (ws1 := [(co, .inr (0, [.ref ck, .ref ch, .null, .int (nI 0), .int (nI 0)])), (ck, .inl (gI g, 6, .inl (fun _ => nI 0))), (ch, .inl (gI g, 18, .inl (fun _ => nI 0)))]) hx hb hts (fun _ h => (List.mem_cons_of_mem _ (List.mem_append_right _ h))) tyX0 tyX0_ok nmX0 hown hK.1 hP hD hS 0 rfl rfl 1 (by decide) (hts _ (List.mem_of_getElem? (i := 6) rfl)) (fun _ h9 => h9) rfl hin rfl (by decide +kernel) rfl rfl (Nat.le_of_ble_eq_true rfl) rfl dX0_init_17 (fun H locs hP hD hS => ?_)
  refine lv_aload_n hx hb dX0_init_20 rfl (lv_at hl 0 rfl) ?_
  refine lv_bipush (v := (nI 6)) hx hb dX0_init_21 (by decide) ?_
  refine n_newaI (N := 6) hx hb (hts _ (List.mem_of_getElem? (i := 4) rfl)) hK hP hD hS hA (by decide) (by decide) (by decide) dX0_init_23 3 rfl 30 rfl (fun cl H hP hD hS => ?_)
  have hP : PP g [(co, .inr (0, [.ref ck, .ref ch, .null, .int (nI 0), .int (nI 0)])), (ck, .inl (gI g, 6, .inl (fun _ => nI 0))), (ch, .inl (gI g, 18, .inl (fun _ => nI 0))), (cl, .inl (gI g, 6, .inl (fun _ => nI 0)))] H := hP
  have hD : va_D (va_A [(co, .inr (0, [.null, .null, .null, .int (nI 0), .int (nI 0)]))] sz) [(co, .inr (0, [.ref ck, .ref ch, .null, .int (nI 0), .int (nI 0)])), (ck, .inl (gI g, 6, .inl (fun _ => nI 0))), (ch, .inl (gI g, 18, .inl (fun _ => nI 0))), (cl, .inl (gI g, 6, .inl (fun _ => nI 0)))] := hD
  refine n_putF (D := g.1) (ci := 0) (v := .ref cl) (ty := .array .int) (C := RX0) (T := TX0) (N := 5) (ws1 := [(co, .inr (0, [.ref ck, .ref ch, .ref cl, .int (nI 0), .int (nI 0)])), (ck, .inl (gI g, 6, .inl (fun _ => nI 0))), (ch, .inl (gI g, 18, .inl (fun _ => nI 0))), (cl, .inl (gI g, 6, .inl (fun _ => nI 0)))]) hx hb hts (fun _ h => (List.mem_cons_of_mem _ (List.mem_append_right _ h))) tyX0 tyX0_ok nmX0 hown hK.1 hP hD hS 0 rfl rfl 2 (by decide) (hts _ (List.mem_of_getElem? (i := 7) rfl)) (fun _ h9 => h9) rfl hin rfl (by decide +kernel) rfl rfl (Nat.le_of_ble_eq_true rfl) rfl dX0_init_25 (fun H locs hP hD hS => ?_)
  refine lv_aload_n hx hb dX0_init_28 rfl (lv_at hl 0 rfl) ?_
  refine lv_iconst (v := (nI 0)) hx hb dX0_init_29 (by decide) ?_
  refine n_put (D := g.1) (ci := 0) (v := .int (nI 0)) (ty := .int) (C := RX0) (T := TX0) (N := 5) (ws1 := [(co, .inr (0, [.ref ck, .ref ch, .ref cl, .int (nI 0), .int (nI 0)])), (ck, .inl (gI g, 6, .inl (fun _ => nI 0))), (ch, .inl (gI g, 18, .inl (fun _ => nI 0))), (cl, .inl (gI g, 6, .inl (fun _ => nI 0)))]) hx hb hts (fun _ h => (List.mem_cons_of_mem _ (List.mem_append_right _ h))) tyX0 tyX0_ok nmX0 hown hK.1 hP hD hS 0 rfl rfl 3 (by decide) (hts _ (List.mem_of_getElem? (i := 8) rfl)) (fun _ h9 => h9) rfl (by decide +kernel) rfl rfl (Nat.le_of_ble_eq_true rfl) rfl dX0_init_30 (fun H locs hP hD hS => ?_)
  refine lv_aload_n hx hb dX0_init_33 rfl (lv_at hl 0 rfl) ?_
  refine lv_iconst (v := (nI 0)) hx hb dX0_init_34 (by decide) ?_
  refine n_put (D := g.1) (ci := 0) (v := .int (nI 0)) (ty := .int) (C := RX0) (T := TX0) (N := 5) (ws1 := [(co, .inr (0, [.ref ck, .ref ch, .ref cl, .int (nI 0), .int (nI 0)])), (ck, .inl (gI g, 6, .inl (fun _ => nI 0))), (ch, .inl (gI g, 18, .inl (fun _ => nI 0))), (cl, .inl (gI g, 6, .inl (fun _ => nI 0)))]) hx hb hts (fun _ h => (List.mem_cons_of_mem _ (List.mem_append_right _ h))) tyX0 tyX0_ok nmX0 hown hK.1 hP hD hS 0 rfl rfl 4 (by decide) (hts _ (List.mem_of_getElem? (i := 9) rfl)) (fun _ h9 => h9) rfl (by decide +kernel) rfl rfl (Nat.le_of_ble_eq_true rfl) rfl dX0_init_35 (fun H locs hP hD hS => ?_)
  exact zretN (w1 := fun (uu : Nat × Nat × Nat) => wC g co uu.1 uu.2.1 uu.2.2 0 0 (fun _ => 0) (fun _ => 0) (fun _ => 0)) (ck, ch, cl) hx hb hr hlocks hS hP hD dX0_init_38

set_option maxHeartbeats 4000000 in
set_option maxRecDepth 100000 in
theorem c_X1_init (l : Launch) (g : Gx) (re sz : Nat) : Met l yX1_init wsX1_init ({ frames := 1, cells := 4, slots := 32, locals := 20 } : Room) (PcN g [.ref re] [(re, .inr (1, [.null, .null, .null, .null, .int (nI 0)]))] sz) (QN g [(re, .inr (1, [.null, .null, .null, .null, .int (nI 0)]))] sz (fun (uu : Nat × Nat × Nat × Nat) => wR g re uu.1 uu.2.1 uu.2.2.1 uu.2.2.2 0 (fun _ => 0) (fun _ => 0) (fun _ => 0) (fun _ => 0))) 4 32 (va_A [(re, .inr (1, [.null, .null, .null, .null, .int (nI 0)]))] sz) := by
  refine zenterN (cc := cX1_init) (maxL := 1) (ret := none) (by decide) rfl (Nat.le_of_ble_eq_true rfl) ?_
  intro P E s mt below meth cd ls hx hb hml hown hts hr hlocks hin hP hK hO hD hS hA hl
  have hl : lv_has ls 1 [(0, .ref re)] := hl
  have S0 : CallFix P mt cd cX1_init 1 s [.ref re].toArray wsX1_init RX1 := ⟨hx, hb, hml, hown, hts⟩
  refine lv_aload_n hx hb dX1_init_0 rfl (lv_at hl 0 rfl) ?_
  refine W.objInit hx hb hown (hts _ (List.mem_of_getElem? (i := 1) rfl)) (hts _ (List.mem_of_getElem? (i := 2) rfl)) (hts _ (List.mem_of_getElem? (i := 3) rfl)) rfl (by rw [hml]; exact hl.1) rfl dX1_init_1 (Nat.le_of_ble_eq_true rfl) (Nat.le_of_ble_eq_true rfl) ?_
  refine W.eq (g2 := F0 mt 4 ls []) rfl ?_
  refine lv_aload_n hx hb dX1_init_4 rfl (lv_at hl 0 rfl) ?_
  refine lv_bipush (v := (nI 8)) hx hb dX1_init_5 (by decide) ?_
  refine n_newaI (N := 8) hx hb (hts _ (List.mem_of_getElem? (i := 4) rfl)) hK hP hD hS hA (by decide) (by decide) (by decide) dX1_init_7 1 rfl 8 rfl (fun ra H hP hD hS => ?_)
  have hP : PP g [(re, .inr (1, [.null, .null, .null, .null, .int (nI 0)])), (ra, .inl (gI g, 8, .inl (fun _ => nI 0)))] H := hP
  have hD : va_D (va_A [(re, .inr (1, [.null, .null, .null, .null, .int (nI 0)]))] sz) [(re, .inr (1, [.null, .null, .null, .null, .int (nI 0)])), (ra, .inl (gI g, 8, .inl (fun _ => nI 0)))] := hD
  refine n_putF (D := g.1) (ci := 1) (v := .ref ra) (ty := .array .int) (C := RX1) (T := TX1) (N := 5) (ws1 := [(re, .inr (1, [.ref ra, .null, .null, .null, .int (nI 0)])), (ra, .inl (gI g, 8, .inl (fun _ => nI 0)))]) hx hb hts (fun _ h => (List.mem_cons_of_mem _ (List.mem_append_right _ h))) tyX1 tyX1_ok nmX1 hown hK.1 hP hD hS 0 rfl rfl 0 (by decide) (hts _ (List.mem_of_getElem? (i := 5) rfl)) (fun _ h9 => h9) rfl hin rfl (by decide +kernel) rfl rfl (Nat.le_of_ble_eq_true rfl) rfl dX1_init_9 (fun H locs hP hD hS => ?_)
  refine lv_aload_n hx hb dX1_init_12 rfl (lv_at hl 0 rfl) ?_
  refine lv_bipush (v := (nI 8)) hx hb dX1_init_13 (by decide) ?_
  refine n_newaI (N := 8) hx hb (hts _ (List.mem_of_getElem? (i := 4) rfl)) hK hP hD hS hA (by decide) (by decide) (by decide) dX1_init_15 2 rfl 16 rfl (fun rb H hP hD hS => ?_)
  have hP : PP g [(re, .inr (1, [.ref ra, .null, .null, .null, .int (nI 0)])), (ra, .inl (gI g, 8, .inl (fun _ => nI 0))), (rb, .inl (gI g, 8, .inl (fun _ => nI 0)))] H := hP
  have hD : va_D (va_A [(re, .inr (1, [.null, .null, .null, .null, .int (nI 0)]))] sz) [(re, .inr (1, [.ref ra, .null, .null, .null, .int (nI 0)])), (ra, .inl (gI g, 8, .inl (fun _ => nI 0))), (rb, .inl (gI g, 8, .inl (fun _ => nI 0)))] := hD
  refine n_putF (D := g.1) (ci := 1) (v := .ref rb) (ty := .array .int) (C := RX1) (T := TX1) (N := 5) (ws1 := [(re, .inr (1, [.ref ra, .ref rb, .null, .null, .int (nI 0)])), (ra, .inl (gI g, 8, .inl (fun _ => nI 0))), (rb, .inl (gI g, 8, .inl (fun _ => nI 0)))]) hx hb hts (fun _ h => (List.mem_cons_of_mem _ (List.mem_append_right _ h))) tyX1 tyX1_ok nmX1 hown hK.1 hP hD hS 0 rfl rfl 1 (by decide) (hts _ (List.mem_of_getElem? (i := 6) rfl)) (fun _ h9 => h9) rfl hin rfl (by decide +kernel) rfl rfl (Nat.le_of_ble_eq_true rfl) rfl dX1_init_17 (fun H locs hP hD hS => ?_)
  refine lv_aload_n hx hb dX1_init_20 rfl (lv_at hl 0 rfl) ?_
  refine lv_bipush (v := (nI 8)) hx hb dX1_init_21 (by decide) ?_
  refine n_newaI (N := 8) hx hb (hts _ (List.mem_of_getElem? (i := 4) rfl)) hK hP hD hS hA (by decide) (by decide) (by decide) dX1_init_23 3 rfl 24 rfl (fun rc H hP hD hS => ?_)
  have hP : PP g [(re, .inr (1, [.ref ra, .ref rb, .null, .null, .int (nI 0)])), (ra, .inl (gI g, 8, .inl (fun _ => nI 0))), (rb, .inl (gI g, 8, .inl (fun _ => nI 0))), (rc, .inl (gI g, 8, .inl (fun _ => nI 0)))] H := hP
  have hD : va_D (va_A [(re, .inr (1, [.null, .null, .null, .null, .int (nI 0)]))] sz) [(re, .inr (1, [.ref ra, .ref rb, .null, .null, .int (nI 0)])), (ra, .inl (gI g, 8, .inl (fun _ => nI 0))), (rb, .inl (gI g, 8, .inl (fun _ => nI 0))), (rc, .inl (gI g, 8, .inl (fun _ => nI 0)))] := hD
  refine n_putF (D := g.1) (ci := 1) (v := .ref rc) (ty := .array .int) (C := RX1) (T := TX1) (N := 5) (ws1 := [(re, .inr (1, [.ref ra, .ref rb, .ref rc, .null, .int (nI 0)])), (ra, .inl (gI g, 8, .inl (fun _ => nI 0))), (rb, .inl (gI g, 8, .inl (fun _ => nI 0))), (rc, .inl (gI g, 8, .inl (fun _ => nI 0)))]) hx hb hts (fun _ h => (List.mem_cons_of_mem _ (List.mem_append_right _ h))) tyX1 tyX1_ok nmX1 hown hK.1 hP hD hS 0 rfl rfl 2 (by decide) (hts _ (List.mem_of_getElem? (i := 7) rfl)) (fun _ h9 => h9) rfl hin rfl (by decide +kernel) rfl rfl (Nat.le_of_ble_eq_true rfl) rfl dX1_init_25 (fun H locs hP hD hS => ?_)
  refine lv_aload_n hx hb dX1_init_28 rfl (lv_at hl 0 rfl) ?_
  refine lv_bipush (v := (nI 8)) hx hb dX1_init_29 (by decide) ?_
  refine n_newaZ (N := 8) hx hb (hts _ (List.mem_of_getElem? (i := 8) rfl)) hK hP hD hS hA (by decide) (by decide) (by decide) dX1_init_31 4 rfl 32 rfl (fun rd H hP hD hS => ?_)
  have hP : PP g [(re, .inr (1, [.ref ra, .ref rb, .ref rc, .null, .int (nI 0)])), (ra, .inl (gI g, 8, .inl (fun _ => nI 0))), (rb, .inl (gI g, 8, .inl (fun _ => nI 0))), (rc, .inl (gI g, 8, .inl (fun _ => nI 0))), (rd, .inl (gZ g, 8, .inl (fun _ => nI 0)))] H := hP
  have hD : va_D (va_A [(re, .inr (1, [.null, .null, .null, .null, .int (nI 0)]))] sz) [(re, .inr (1, [.ref ra, .ref rb, .ref rc, .null, .int (nI 0)])), (ra, .inl (gI g, 8, .inl (fun _ => nI 0))), (rb, .inl (gI g, 8, .inl (fun _ => nI 0))), (rc, .inl (gI g, 8, .inl (fun _ => nI 0))), (rd, .inl (gZ g, 8, .inl (fun _ => nI 0)))] := hD
  refine n_putF (D := g.1) (ci := 1) (v := .ref rd) (ty := .array .boolean) (C := RX1) (T := TX1) (N := 5) (ws1 := [(re, .inr (1, [.ref ra, .ref rb, .ref rc, .ref rd, .int (nI 0)])), (ra, .inl (gI g, 8, .inl (fun _ => nI 0))), (rb, .inl (gI g, 8, .inl (fun _ => nI 0))), (rc, .inl (gI g, 8, .inl (fun _ => nI 0))), (rd, .inl (gZ g, 8, .inl (fun _ => nI 0)))]) hx hb hts (fun _ h => (List.mem_cons_of_mem _ (List.mem_append_right _ h))) tyX1 tyX1_ok nmX1 hown hK.1 hP hD hS 0 rfl rfl 3 (by decide) (hts _ (List.mem_of_getElem? (i := 9) rfl)) (fun _ h9 => h9) rfl hin rfl (by decide +kernel) rfl rfl (Nat.le_of_ble_eq_true rfl) rfl dX1_init_33 (fun H locs hP hD hS => ?_)
  refine lv_aload_n hx hb dX1_init_36 rfl (lv_at hl 0 rfl) ?_
  refine lv_iconst (v := (nI 0)) hx hb dX1_init_37 (by decide) ?_
  refine n_put (D := g.1) (ci := 1) (v := .int (nI 0)) (ty := .int) (C := RX1) (T := TX1) (N := 5) (ws1 := [(re, .inr (1, [.ref ra, .ref rb, .ref rc, .ref rd, .int (nI 0)])), (ra, .inl (gI g, 8, .inl (fun _ => nI 0))), (rb, .inl (gI g, 8, .inl (fun _ => nI 0))), (rc, .inl (gI g, 8, .inl (fun _ => nI 0))), (rd, .inl (gZ g, 8, .inl (fun _ => nI 0)))]) hx hb hts (fun _ h => (List.mem_cons_of_mem _ (List.mem_append_right _ h))) tyX1 tyX1_ok nmX1 hown hK.1 hP hD hS 0 rfl rfl 4 (by decide) (hts _ (List.mem_of_getElem? (i := 10) rfl)) (fun _ h9 => h9) rfl (by decide +kernel) rfl rfl (Nat.le_of_ble_eq_true rfl) rfl dX1_init_38 (fun H locs hP hD hS => ?_)
  exact zretN (w1 := fun (uu : Nat × Nat × Nat × Nat) => wR g re uu.1 uu.2.1 uu.2.2.1 uu.2.2.2 0 (fun _ => 0) (fun _ => 0) (fun _ => 0) (fun _ => 0)) (ra, rb, rc, rd) hx hb hr hlocks hS hP hD dX1_init_41

set_option maxHeartbeats 4000000 in
set_option maxRecDepth 100000 in
theorem c_X2_init (l : Launch) (g : Gx) (sa sz : Nat) : Met l yX2_init wsX2_init ({ frames := 1, cells := 1, slots := 60, locals := 20 } : Room) (PcN g [.ref sa] [(sa, .inr (2, [.null, .int (nI 0), .int (nI 0)]))] sz) (QN g [(sa, .inr (2, [.null, .int (nI 0), .int (nI 0)]))] sz (fun (uu : Nat) => wS g sa uu (-1) 0 (fun _ => nI 0))) 1 60 (va_A [(sa, .inr (2, [.null, .int (nI 0), .int (nI 0)]))] sz) := by
  refine zenterN (cc := cX2_init) (maxL := 1) (ret := none) (by decide) rfl (Nat.le_of_ble_eq_true rfl) ?_
  intro P E s mt below meth cd ls hx hb hml hown hts hr hlocks hin hP hK hO hD hS hA hl
  have hl : lv_has ls 1 [(0, .ref sa)] := hl
  have S0 : CallFix P mt cd cX2_init 1 s [.ref sa].toArray wsX2_init RX2 := ⟨hx, hb, hml, hown, hts⟩
  refine lv_aload_n hx hb dX2_init_0 rfl (lv_at hl 0 rfl) ?_
  refine W.objInit hx hb hown (hts _ (List.mem_of_getElem? (i := 1) rfl)) (hts _ (List.mem_of_getElem? (i := 2) rfl)) (hts _ (List.mem_of_getElem? (i := 3) rfl)) rfl (by rw [hml]; exact hl.1) rfl dX2_init_1 (Nat.le_of_ble_eq_true rfl) (Nat.le_of_ble_eq_true rfl) ?_
  refine W.eq (g2 := F0 mt 4 ls []) rfl ?_
  refine lv_aload_n hx hb dX2_init_4 rfl (lv_at hl 0 rfl) ?_
  refine lv_bipush (v := (nI 60)) hx hb dX2_init_5 (by decide) ?_
  refine n_newaI (N := 60) hx hb (hts _ (List.mem_of_getElem? (i := 4) rfl)) hK hP hD hS hA (by decide) (by decide) (by decide) dX2_init_7 1 rfl 60 rfl (fun ca H hP hD hS => ?_)
  have hP : PP g [(sa, .inr (2, [.null, .int (nI 0), .int (nI 0)])), (ca, .inl (gI g, 60, .inl (fun _ => nI 0)))] H := hP
  have hD : va_D (va_A [(sa, .inr (2, [.null, .int (nI 0), .int (nI 0)]))] sz) [(sa, .inr (2, [.null, .int (nI 0), .int (nI 0)])), (ca, .inl (gI g, 60, .inl (fun _ => nI 0)))] := hD
  refine n_putF (D := g.1) (ci := 2) (v := .ref ca) (ty := .array .int) (C := RX2) (T := TX2) (N := 3) (ws1 := [(sa, .inr (2, [.ref ca, .int (nI 0), .int (nI 0)])), (ca, .inl (gI g, 60, .inl (fun _ => nI 0)))]) hx hb hts (fun _ h => (List.mem_cons_of_mem _ (List.mem_append_right _ h))) tyX2 tyX2_ok nmX2 hown hK.1 hP hD hS 0 rfl rfl 0 (by decide) (hts _ (List.mem_of_getElem? (i := 5) rfl)) (fun _ h9 => h9) rfl hin rfl (by decide +kernel) rfl rfl (Nat.le_of_ble_eq_true rfl) rfl dX2_init_9 (fun H locs hP hD hS => ?_)
  refine lv_aload_n hx hb dX2_init_12 rfl (lv_at hl 0 rfl) ?_
  refine lv_iconst (v := (-1)) hx hb dX2_init_13 (by decide) ?_
  refine n_put (D := g.1) (ci := 2) (v := .int (-1)) (ty := .int) (C := RX2) (T := TX2) (N := 3) (ws1 := [(sa, .inr (2, [.ref ca, .int (-1), .int (nI 0)])), (ca, .inl (gI g, 60, .inl (fun _ => nI 0)))]) hx hb hts (fun _ h => (List.mem_cons_of_mem _ (List.mem_append_right _ h))) tyX2 tyX2_ok nmX2 hown hK.1 hP hD hS 0 rfl rfl 1 (by decide) (hts _ (List.mem_of_getElem? (i := 6) rfl)) (fun _ h9 => h9) rfl (by decide +kernel) rfl rfl (Nat.le_of_ble_eq_true rfl) rfl dX2_init_14 (fun H locs hP hD hS => ?_)
  refine lv_aload_n hx hb dX2_init_17 rfl (lv_at hl 0 rfl) ?_
  refine lv_iconst (v := (nI 0)) hx hb dX2_init_18 (by decide) ?_
  refine n_put (D := g.1) (ci := 2) (v := .int (nI 0)) (ty := .int) (C := RX2) (T := TX2) (N := 3) (ws1 := [(sa, .inr (2, [.ref ca, .int (-1), .int (nI 0)])), (ca, .inl (gI g, 60, .inl (fun _ => nI 0)))]) hx hb hts (fun _ h => (List.mem_cons_of_mem _ (List.mem_append_right _ h))) tyX2 tyX2_ok nmX2 hown hK.1 hP hD hS 0 rfl rfl 2 (by decide) (hts _ (List.mem_of_getElem? (i := 7) rfl)) (fun _ h9 => h9) rfl (by decide +kernel) rfl rfl (Nat.le_of_ble_eq_true rfl) rfl dX2_init_19 (fun H locs hP hD hS => ?_)
  exact zretN (w1 := fun (uu : Nat) => wS g sa uu (-1) 0 (fun _ => nI 0)) ca hx hb hr hlocks hS hP hD dX2_init_22

set_option maxHeartbeats 4000000 in
set_option maxRecDepth 100000 in
theorem c_X3_init (l : Launch) (g : Gx) (vo sz : Nat) : Met l yX3_init wsX3_init ({ frames := 1, cells := 2, slots := 40, locals := 20 } : Room) (PcN g [.ref vo] [(vo, .inr (3, [.null, .null, .int (nI 0)]))] sz) (QN g [(vo, .inr (3, [.null, .null, .int (nI 0)]))] sz (fun (uu : Nat × Nat) => wV g vo uu.1 uu.2 0 (fun _ => nI 0) (fun _ => nI 0))) 2 40 (va_A [(vo, .inr (3, [.null, .null, .int (nI 0)]))] sz) := by
  refine zenterN (cc := cX3_init) (maxL := 1) (ret := none) (by decide) rfl (Nat.le_of_ble_eq_true rfl) ?_
  intro P E s mt below meth cd ls hx hb hml hown hts hr hlocks hin hP hK hO hD hS hA hl
  have hl : lv_has ls 1 [(0, .ref vo)] := hl
  have S0 : CallFix P mt cd cX3_init 1 s [.ref vo].toArray wsX3_init RX3 := ⟨hx, hb, hml, hown, hts⟩
  refine lv_aload_n hx hb dX3_init_0 rfl (lv_at hl 0 rfl) ?_
  refine W.objInit hx hb hown (hts _ (List.mem_of_getElem? (i := 1) rfl)) (hts _ (List.mem_of_getElem? (i := 2) rfl)) (hts _ (List.mem_of_getElem? (i := 3) rfl)) rfl (by rw [hml]; exact hl.1) rfl dX3_init_1 (Nat.le_of_ble_eq_true rfl) (Nat.le_of_ble_eq_true rfl) ?_
  refine W.eq (g2 := F0 mt 4 ls []) rfl ?_
  refine lv_aload_n hx hb dX3_init_4 rfl (lv_at hl 0 rfl) ?_
  refine lv_bipush (v := (nI 20)) hx hb dX3_init_5 (by decide) ?_
  refine n_newaI (N := 20) hx hb (hts _ (List.mem_of_getElem? (i := 4) rfl)) hK hP hD hS hA (by decide) (by decide) (by decide) dX3_init_7 1 rfl 20 rfl (fun va H hP hD hS => ?_)
  have hP : PP g [(vo, .inr (3, [.null, .null, .int (nI 0)])), (va, .inl (gI g, 20, .inl (fun _ => nI 0)))] H := hP
  have hD : va_D (va_A [(vo, .inr (3, [.null, .null, .int (nI 0)]))] sz) [(vo, .inr (3, [.null, .null, .int (nI 0)])), (va, .inl (gI g, 20, .inl (fun _ => nI 0)))] := hD
  refine n_putF (D := g.1) (ci := 3) (v := .ref va) (ty := .array .int) (C := RX3) (T := TX3) (N := 3) (ws1 := [(vo, .inr (3, [.ref va, .null, .int (nI 0)])), (va, .inl (gI g, 20, .inl (fun _ => nI 0)))]) hx hb hts (fun _ h => (List.mem_cons_of_mem _ (List.mem_append_right _ h))) tyX3 tyX3_ok nmX3 hown hK.1 hP hD hS 0 rfl rfl 0 (by decide) (hts _ (List.mem_of_getElem? (i := 5) rfl)) (fun _ h9 => h9) rfl hin rfl (by decide +kernel) rfl rfl (Nat.le_of_ble_eq_true rfl) rfl dX3_init_9 (fun H locs hP hD hS => ?_)
  refine lv_aload_n hx hb dX3_init_12 rfl (lv_at hl 0 rfl) ?_
  refine lv_bipush (v := (nI 20)) hx hb dX3_init_13 (by decide) ?_
  refine n_newaI (N := 20) hx hb (hts _ (List.mem_of_getElem? (i := 4) rfl)) hK hP hD hS hA (by decide) (by decide) (by decide) dX3_init_15 2 rfl 40 rfl (fun vb H hP hD hS => ?_)
  have hP : PP g [(vo, .inr (3, [.ref va, .null, .int (nI 0)])), (va, .inl (gI g, 20, .inl (fun _ => nI 0))), (vb, .inl (gI g, 20, .inl (fun _ => nI 0)))] H := hP
  have hD : va_D (va_A [(vo, .inr (3, [.null, .null, .int (nI 0)]))] sz) [(vo, .inr (3, [.ref va, .null, .int (nI 0)])), (va, .inl (gI g, 20, .inl (fun _ => nI 0))), (vb, .inl (gI g, 20, .inl (fun _ => nI 0)))] := hD
  refine n_putF (D := g.1) (ci := 3) (v := .ref vb) (ty := .array .int) (C := RX3) (T := TX3) (N := 3) (ws1 := [(vo, .inr (3, [.ref va, .ref vb, .int (nI 0)])), (va, .inl (gI g, 20, .inl (fun _ => nI 0))), (vb, .inl (gI g, 20, .inl (fun _ => nI 0)))]) hx hb hts (fun _ h => (List.mem_cons_of_mem _ (List.mem_append_right _ h))) tyX3 tyX3_ok nmX3 hown hK.1 hP hD hS 0 rfl rfl 1 (by decide) (hts _ (List.mem_of_getElem? (i := 6) rfl)) (fun _ h9 => h9) rfl hin rfl (by decide +kernel) rfl rfl (Nat.le_of_ble_eq_true rfl) rfl dX3_init_17 (fun H locs hP hD hS => ?_)
  refine lv_aload_n hx hb dX3_init_20 rfl (lv_at hl 0 rfl) ?_
  refine lv_iconst (v := (nI 0)) hx hb dX3_init_21 (by decide) ?_
  refine n_put (D := g.1) (ci := 3) (v := .int (nI 0)) (ty := .int) (C := RX3) (T := TX3) (N := 3) (ws1 := [(vo, .inr (3, [.ref va, .ref vb, .int (nI 0)])), (va, .inl (gI g, 20, .inl (fun _ => nI 0))), (vb, .inl (gI g, 20, .inl (fun _ => nI 0)))]) hx hb hts (fun _ h => (List.mem_cons_of_mem _ (List.mem_append_right _ h))) tyX3 tyX3_ok nmX3 hown hK.1 hP hD hS 0 rfl rfl 2 (by decide) (hts _ (List.mem_of_getElem? (i := 7) rfl)) (fun _ h9 => h9) rfl (by decide +kernel) rfl rfl (Nat.le_of_ble_eq_true rfl) rfl dX3_init_22 (fun H locs hP hD hS => ?_)
  exact zretN (w1 := fun (uu : Nat × Nat) => wV g vo uu.1 uu.2 0 (fun _ => nI 0) (fun _ => nI 0)) (va, vb) hx hb hr hlocks hS hP hD dX3_init_25
