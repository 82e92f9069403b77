set_option maxHeartbeats 4000000 in
set_option maxRecDepth 100000 in
theorem c_X1_howMany (l : Launch) (g : Gx) (re : Nat) (rua : Nat) (rla : Nat) (rma : Nat) (rda : Nat) (nr : Nat) (ru : Nat → Nat) (rl : Nat → Nat) (rm : Nat → Nat) (rd : Nat → Nat) : Met l yX1_howMany wsX1_howMany ({ frames := 0, cells := 0, slots := 0, locals := 0 } : Room) (PcR g [.ref re] (wR g re rua rla rma rda nr ru rl rm rd)) (vp_Si (fun r => r = nI nr)) 0 0 (fun _ => False) := by
  refine zenterR (cc := cX1_howMany) (maxL := 1) (ret := (some .int)) (by decide) rfl (Nat.le_of_ble_eq_true rfl) ?_
  intro P E s mt below meth cd ls hx hb hml hown hts hr hlocks hP hK hl
  have hl : lv_has ls 1 [(0, .ref re)] := hl
  have S0 : CallFix P mt cd cX1_howMany 1 s [.ref re].toArray wsX1_howMany RX1 := ⟨hx, hb, hml, hown, hts⟩
  refine lv_aload_n hx hb dX1_howMany_0 rfl (lv_at hl 0 rfl) ?_
  refine va_get (D := g.1) (ci := 1) (v := .int (nI nr)) (C := RX1) (T := TX1) (N := 5) hx hb hts (fun _ h => (List.mem_cons_of_mem _ (List.mem_append_right _ h))) hown hK.1 hP 0 rfl rfl 4 (by decide) (hts _ (List.mem_of_getElem? (i := 1) rfl)) (fun _ h9 => h9) rfl dX1_howMany_1 ?_
  exact zretI hx hb hr hlocks rfl (by rfl) dX1_howMany_4

set_option maxHeartbeats 4000000 in
set_option maxRecDepth 100000 in
theorem c_X1_append (l : Launch) (g : Gx) (re : Nat) (rua : Nat) (rla : Nat) (rma : Nat) (rda : Nat) (nr : Nat) (ru : Nat → Nat) (rl : Nat → Nat) (rm : Nat → Nat) (rd : Nat → Nat) (p : Nat) (q : Nat) (m : Nat) (dd : Nat) (hn8 : nr < 8) (hd1 : dd ≤ 1) : Met l yX1_append wsX1_append ({ frames := 0, cells := 0, slots := 0, locals := 0 } : Room) (PcM g [.ref re, .int (nI p), .int (nI q), .int (nI m), .int (nI dd)] (wR g re rua rla rma rda nr ru rl rm rd)) (va_Qv (fun (uu : Unit) => True) (fun (uu : Unit) t => PP g (wR g re rua rla rma rda (nr + 1) (va_up ru nr p) (va_up rl nr q) (va_up rm nr m) (va_up rd nr dd)) t.heap) (inW (wR g re rua rla rma rda nr ru rl rm rd))) 0 0 (inW (wR g re rua rla rma rda nr ru rl rm rd)) := by
  refine zenterM (cc := cX1_append) (maxL := 5) (ret := none) (by decide) rfl (Nat.le_of_ble_eq_true rfl) ?_
  intro P E s mt below meth cd ls hx hb hml hown hts hr hlocks hP hK hD hS hl
  skip
  have hl : lv_has ls 5 [(0, .ref re), (1, .int (nI p)), (2, .int (nI q)), (3, .int (nI m)), (4, .int (nI dd))] := hl
  have S0 : CallFix P mt cd cX1_append 5 s [.ref re, .int (nI p), .int (nI q), .int (nI m), .int (nI dd)].toArray wsX1_append RX1 := ⟨hx, hb, hml, hown, hts⟩
  refine lv_aload_n hx hb dX1_append_0 rfl (lv_at hl 0 rfl) ?_
  refine va_get (D := g.1) (ci := 1) (v := .int (nI nr)) (C := RX1) (T := TX1) (N := 5) hx hb hts (fun _ h => (List.mem_cons_of_mem _ (List.mem_append_right _ h))) hown hK.1 hP 0 rfl rfl 4 (by decide) (hts _ (List.mem_of_getElem? (i := 1) rfl)) (fun _ h9 => h9) rfl dX1_append_1 ?_
  refine lv_bipush (v := (nI 8)) hx hb dX1_append_4 (by decide) ?_
  refine n_icmp_lt (a := nr) (b := 8) (tgt := 10) hx hb (by omega) (by omega) dX1_append_6 (by decide) (fun c6 => ?_) (fun c6 => ?_)
  · refine lv_aload_n hx hb dX1_append_10 rfl (lv_at hl 0 rfl) ?_
    refine va_get (D := g.1) (ci := 1) (v := .ref rua) (C := RX1) (T := TX1) (N := 5) hx hb hts (fun _ h => (List.mem_cons_of_mem _ (List.mem_append_right _ h))) hown hK.1 hP 0 rfl rfl 0 (by decide) (hts _ (List.mem_of_getElem? (i := 2) rfl)) (fun _ h9 => h9) rfl dX1_append_11 ?_
    refine lv_aload_n hx hb dX1_append_14 rfl (lv_at hl 0 rfl) ?_
    refine va_get (D := g.1) (ci := 1) (v := .int (nI nr)) (C := RX1) (T := TX1) (N := 5) hx hb hts (fun _ h => (List.mem_cons_of_mem _ (List.mem_append_right _ h))) hown hK.1 hP 0 rfl rfl 4 (by decide) (hts _ (List.mem_of_getElem? (i := 1) rfl)) (fun _ h9 => h9) rfl dX1_append_15 ?_
    refine lv_iload_n hx hb dX1_append_18 rfl (lv_at hl 1 rfl) ?_
    refine n_iast (i := nr) (x := (nI p)) (ws1 := wR g re rua rla rma rda nr (va_up ru nr p) rl rm rd) hx hb hK.1 hP hD hS 1 0 rfl rfl (by omega) (by decide) (fun j => nI ((va_up ru nr p) j)) (upd_nI _ _ _) rfl dX1_append_19 (fun H locs hP hD hS => ?_)
    refine lv_aload_n hx hb dX1_append_20 rfl (lv_at hl 0 rfl) ?_
    refine va_get (D := g.1) (ci := 1) (v := .ref rla) (C := RX1) (T := TX1) (N := 5) hx hb hts (fun _ h => (List.mem_cons_of_mem _ (List.mem_append_right _ h))) hown hK.1 hP 0 rfl rfl 1 (by decide) (hts _ (List.mem_of_getElem? (i := 3) rfl)) (fun _ h9 => h9) rfl dX1_append_21 ?_
    refine lv_aload_n hx hb dX1_append_24 rfl (lv_at hl 0 rfl) ?_
    refine va_get (D := g.1) (ci := 1) (v := .int (nI nr)) (C := RX1) (T := TX1) (N := 5) hx hb hts (fun _ h => (List.mem_cons_of_mem _ (List.mem_append_right _ h))) hown hK.1 hP 0 rfl rfl 4 (by decide) (hts _ (List.mem_of_getElem? (i := 1) rfl)) (fun _ h9 => h9) rfl dX1_append_25 ?_
    refine lv_iload_n hx hb dX1_append_28 rfl (lv_at hl 2 rfl) ?_
    refine n_iast (i := nr) (x := (nI q)) (ws1 := wR g re rua rla rma rda nr (va_up ru nr p) (va_up rl nr q) rm rd) hx hb hK.1 hP hD hS 2 0 rfl rfl (by omega) (by decide) (fun j => nI ((va_up rl nr q) j)) (upd_nI _ _ _) rfl dX1_append_29 (fun H locs hP hD hS => ?_)
    refine lv_aload_n hx hb dX1_append_30 rfl (lv_at hl 0 rfl) ?_
    refine va_get (D := g.1) (ci := 1) (v := .ref rma) (C := RX1) (T := TX1) (N := 5) hx hb hts (fun _ h => (List.mem_cons_of_mem _ (List.mem_append_right _ h))) hown hK.1 hP 0 rfl rfl 2 (by decide) (hts _ (List.mem_of_getElem? (i := 4) rfl)) (fun _ h9 => h9) rfl dX1_append_31 ?_
    refine lv_aload_n hx hb dX1_append_34 rfl (lv_at hl 0 rfl) ?_
    refine va_get (D := g.1) (ci := 1) (v := .int (nI nr)) (C := RX1) (T := TX1) (N := 5) hx hb hts (fun _ h => (List.mem_cons_of_mem _ (List.mem_append_right _ h))) hown hK.1 hP 0 rfl rfl 4 (by decide) (hts _ (List.mem_of_getElem? (i := 1) rfl)) (fun _ h9 => h9) rfl dX1_append_35 ?_
    refine lv_iload_n hx hb dX1_append_38 rfl (lv_at hl 3 rfl) ?_
    refine n_iast (i := nr) (x := (nI m)) (ws1 := wR g re rua rla rma rda nr (va_up ru nr p) (va_up rl nr q) (va_up rm nr m) rd) hx hb hK.1 hP hD hS 3 0 rfl rfl (by omega) (by decide) (fun j => nI ((va_up rm nr m) j)) (upd_nI _ _ _) rfl dX1_append_39 (fun H locs hP hD hS => ?_)
    refine lv_aload_n hx hb dX1_append_40 rfl (lv_at hl 0 rfl) ?_
    refine va_get (D := g.1) (ci := 1) (v := .ref rda) (C := RX1) (T := TX1) (N := 5) hx hb hts (fun _ h => (List.mem_cons_of_mem _ (List.mem_append_right _ h))) hown hK.1 hP 0 rfl rfl 3 (by decide) (hts _ (List.mem_of_getElem? (i := 5) rfl)) (fun _ h9 => h9) rfl dX1_append_41 ?_
    refine lv_aload_n hx hb dX1_append_44 rfl (lv_at hl 0 rfl) ?_
    refine va_get (D := g.1) (ci := 1) (v := .int (nI nr)) (C := RX1) (T := TX1) (N := 5) hx hb hts (fun _ h => (List.mem_cons_of_mem _ (List.mem_append_right _ h))) hown hK.1 hP 0 rfl rfl 4 (by decide) (hts _ (List.mem_of_getElem? (i := 1) rfl)) (fun _ h9 => h9) rfl dX1_append_45 ?_
    refine lv_iload hx hb dX1_append_48 (lv_at hl 4 rfl) ?_
    refine n_zast (i := nr) (x := (nI dd)) (ws1 := wR g re rua rla rma rda nr (va_up ru nr p) (va_up rl nr q) (va_up rm nr m) (va_up rd nr dd)) hx hb hK.1 hP hD hS 4 1 rfl rfl (by omega) (by decide) (vnar_b hd1) (fun j => nI ((va_up rd nr dd) j)) (upd_nI _ _ _) rfl dX1_append_50 (fun H locs hP hD hS => ?_)
    refine lv_aload_n hx hb dX1_append_51 rfl (lv_at hl 0 rfl) ?_
    refine lv_dup hx hb dX1_append_52 rfl ?_
    refine va_get (D := g.1) (ci := 1) (v := .int (nI nr)) (C := RX1) (T := TX1) (N := 5) hx hb hts (fun _ h => (List.mem_cons_of_mem _ (List.mem_append_right _ h))) hown hK.1 hP 0 rfl rfl 4 (by decide) (hts _ (List.mem_of_getElem? (i := 1) rfl)) (fun _ h9 => h9) rfl dX1_append_53 ?_
    refine lv_iconst (v := (nI 1)) hx hb dX1_append_56 (by decide) ?_
    refine n_iadd (a := nr) (b := 1) hx hb dX1_append_57 ?_
    refine n_put (D := g.1) (ci := 1) (v := .int (nI (nr + 1))) (ty := .int) (C := RX1) (T := TX1) (N := 5) (ws1 := wR g re rua rla rma rda (nr + 1) (va_up ru nr p) (va_up rl nr q) (va_up rm nr m) (va_up rd nr dd)) hx hb hts (fun _ h => (List.mem_cons_of_mem _ (List.mem_append_right _ h))) tyX1 tyX1_ok nmX1 hown hK.1 hP hD hS 0 rfl rfl 4 (by decide) (hts _ (List.mem_of_getElem? (i := 1) rfl)) (fun _ h9 => h9) rfl (by decide +kernel) rfl rfl (Nat.le_of_ble_eq_true rfl) rfl dX1_append_58 (fun H locs hP hD hS => ?_)
    exact zretMV (w1 := fun (uu : Unit) => wR g re rua rla rma rda (nr + 1) (va_up ru nr p) (va_up rl nr q) (va_up rm nr m) (va_up rd nr dd)) () hx hb hr hlocks hS trivial hP dX1_append_61
  · exact absurd hn8 (by omega)

set_option maxHeartbeats 4000000 in
set_option maxRecDepth 100000 in
theorem c_X1_dropLast (l : Launch) (g : Gx) (re : Nat) (rua : Nat) (rla : Nat) (rma : Nat) (rda : Nat) (nr : Nat) (ru : Nat → Nat) (rl : Nat → Nat) (rm : Nat → Nat) (rd : Nat → Nat) (k : Nat) (hk : k ≤ nr) (hnr : nr ≤ 8) : Met l yX1_dropLast wsX1_dropLast ({ frames := 0, cells := 0, slots := 0, locals := 0 } : Room) (PcM g [.ref re, .int (nI k)] (wR g re rua rla rma rda nr ru rl rm rd)) (va_Qv (fun (uu : Unit) => True) (fun (uu : Unit) t => PP g (wR g re rua rla rma rda (nr - k) ru rl rm rd) t.heap) (inW (wR g re rua rla rma rda nr ru rl rm rd))) 0 0 (inW (wR g re rua rla rma rda nr ru rl rm rd)) := by
  refine zenterM (cc := cX1_dropLast) (maxL := 2) (ret := none) (by decide) rfl (Nat.le_of_ble_eq_true rfl) ?_
  intro P E s mt below meth cd ls hx hb hml hown hts hr hlocks hP hK hD hS hl
  skip
  have hl : lv_has ls 2 [(0, .ref re), (1, .int (nI k))] := hl
  have S0 : CallFix P mt cd cX1_dropLast 2 s [.ref re, .int (nI k)].toArray wsX1_dropLast RX1 := ⟨hx, hb, hml, hown, hts⟩
  refine lv_iload_n hx hb dX1_dropLast_0 rfl (lv_at hl 1 rfl) ?_
  refine n_if_lt (a := k) hx hb (by omega) dX1_dropLast_1 22 (by decide) ?_
  refine lv_iload_n hx hb dX1_dropLast_4 rfl (lv_at hl 1 rfl) ?_
  refine lv_aload_n hx hb dX1_dropLast_5 rfl (lv_at hl 0 rfl) ?_
  refine va_get (D := g.1) (ci := 1) (v := .int (nI nr)) (C := RX1) (T := TX1) (N := 5) hx hb hts (fun _ h => (List.mem_cons_of_mem _ (List.mem_append_right _ h))) hown hK.1 hP 0 rfl rfl 4 (by decide) (hts _ (List.mem_of_getElem? (i := 1) rfl)) (fun _ h9 => h9) rfl dX1_dropLast_6 ?_
  refine n_icmp_gt (a := k) (b := nr) (tgt := 22) hx hb (by omega) (by omega) dX1_dropLast_9 (by decide) (fun c9 => ?_) (fun c9 => ?_)
  · exact absurd hk (by omega)
  · refine lv_aload_n hx hb dX1_dropLast_12 rfl (lv_at hl 0 rfl) ?_
    refine lv_dup hx hb dX1_dropLast_13 rfl ?_
    refine va_get (D := g.1) (ci := 1) (v := .int (nI nr)) (C := RX1) (T := TX1) (N := 5) hx hb hts (fun _ h => (List.mem_cons_of_mem _ (List.mem_append_right _ h))) hown hK.1 hP 0 rfl rfl 4 (by decide) (hts _ (List.mem_of_getElem? (i := 1) rfl)) (fun _ h9 => h9) rfl dX1_dropLast_14 ?_
    refine lv_iload_n hx hb dX1_dropLast_17 rfl (lv_at hl 1 rfl) ?_
    refine n_isub (a := nr) (b := k) hx hb (by omega) dX1_dropLast_18 ?_
    refine n_put (D := g.1) (ci := 1) (v := .int (nI (nr - k))) (ty := .int) (C := RX1) (T := TX1) (N := 5) (ws1 := wR g re rua rla rma rda (nr - k) ru rl rm rd) hx hb hts (fun _ h => (List.mem_cons_of_mem _ (List.mem_append_right _ h))) tyX1 tyX1_ok nmX1 hown hK.1 hP hD hS 0 rfl rfl 4 (by decide) (hts _ (List.mem_of_getElem? (i := 1) rfl)) (fun _ h9 => h9) rfl (by decide +kernel) rfl rfl (Nat.le_of_ble_eq_true rfl) rfl dX1_dropLast_19 (fun H locs hP hD hS => ?_)
    exact zretMV (w1 := fun (uu : Unit) => wR g re rua rla rma rda (nr - k) ru rl rm rd) () hx hb hr hlocks hS trivial hP dX1_dropLast_22

set_option maxHeartbeats 4000000 in
set_option maxRecDepth 100000 in
theorem c_X1_areSo (l : Launch) (g : Gx) (re : Nat) (rua : Nat) (rla : Nat) (rma : Nat) (rda : Nat) (co : Nat) (ck : Nat) (ch : Nat) (cl : Nat) (nr : Nat) (ru : Nat → Nat) (rl : Nat → Nat) (rm : Nat → Nat) (rd : Nat → Nat) (np : Nat) (sl : Nat) (kd : Nat → Nat) (hg : Nat → Nat) (lk : Nat → Nat) (hnp : np ≤ 6) (hsl : sl ≤ 9) (hkd : ∀ j, kd j ≤ 2) (hhg : ∀ j, hg j ≤ 9) (hru : ∀ j, j < nr → ru j < np) (hrl : ∀ j, j < nr → rl j < np) (hrm : ∀ j, j < nr → rm j ≤ 9) (hrd : ∀ j, rd j ≤ 1) (hnr : nr ≤ 8) : Met l yX1_areSo wsX1_areSo ({ frames := 4, cells := 0, slots := 0, locals := 93 } : Room) (PcR g [.ref re, .ref co] (wRC g re rua rla rma rda co ck ch cl nr ru rl rm rd np sl kd hg lk)) (vp_Si (fun r => r = nI (so (fun j => fitb sl kd hg (ru j) (rl j) (rm j)) rd nr))) 0 0 (fun _ => False) := by
  refine zenterR (cc := cX1_areSo) (maxL := 3) (ret := (some .boolean)) (by decide) rfl (Nat.le_of_ble_eq_true rfl) ?_
  intro P E s mt below meth cd ls hx hb hml hown hts hr hlocks hP hK hl
  have hl : lv_has ls 3 [(0, .ref re), (1, .ref co)] := hl
  have S0 : CallFix P mt cd cX1_areSo 3 s [.ref re, .ref co].toArray wsX1_areSo RX1 := ⟨hx, hb, hml, hown, hts⟩
  refine lv_iconst (v := (nI 0)) hx hb dX1_areSo_0 (by decide) ?_
  refine lv_istore_n (lv' := [(2, .int (nI 0)), (0, .ref re), (1, .ref co)]) hx hb dX1_areSo_1 rfl hl (by decide) rfl (fun ls hl => ?_)
  have lp2 : ∀ (nn : Nat) (i : Nat) (ls : Array Slot), (nr - i) < nn → (i ≤ nr) → (so (fun j => fitb sl kd hg (ru j) (rl j) (rm j)) rd i = 1) → lv_has ls 3 [(0, .ref re), (1, .ref co), (2, .int (nI i))] → W P l E ({ frames := 4, cells := 0, slots := 0, locals := 93 } : Room) s mt [.ref re, .ref co].toArray below meth cd s.heap [] 0 0 (MQ below (vp_Si (fun r => r = nI (so (fun j => fitb sl kd hg (ru j) (rl j) (rm j)) rd nr))) [.ref re, .ref co].toArray s 0 0 (fun _ => False)) (F0 mt 2 ls []) := by
    intro nn
    induction nn with
    | zero => intro i ls hmu; exact absurd hmu (Nat.not_lt_zero _)
    | succ nn ih2 =>
      intro i ls hmu hi hv hl
      refine lv_iload_n hx hb dX1_areSo_2 rfl (lv_at hl 2 rfl) ?_
      refine lv_aload_n hx hb dX1_areSo_3 rfl (lv_at hl 0 rfl) ?_
      refine va_get (D := g.1) (ci := 1) (v := .int (nI nr)) (C := RX1) (T := TX1) (N := 5) hx hb hts (fun _ h => (List.mem_cons_of_mem _ (List.mem_append_left _ (List.mem_append_right _ h)))) hown hK.1 hP 0 rfl rfl 4 (by decide) (hts _ (List.mem_of_getElem? (i := 1) rfl)) (fun _ h9 => h9) rfl dX1_areSo_4 ?_
      refine n_icmp_ge (a := i) (b := nr) (tgt := 49) hx hb (by omega) (by omega) dX1_areSo_7 (by decide) (fun c7 => ?_) (fun c7 => ?_)
      · refine lv_iconst (v := (nI 1)) hx hb dX1_areSo_49 (by decide) ?_
        exact zretI hx hb hr hlocks rfl (by rw [← show i = nr by omega, hv]) dX1_areSo_50
      · refine lv_aload_n hx hb dX1_areSo_10 rfl (lv_at hl 1 rfl) ?_
        refine lv_aload_n hx hb dX1_areSo_11 rfl (lv_at hl 0 rfl) ?_
        refine va_get (D := g.1) (ci := 1) (v := .ref rua) (C := RX1) (T := TX1) (N := 5) hx hb hts (fun _ h => (List.mem_cons_of_mem _ (List.mem_append_left _ (List.mem_append_right _ h)))) hown hK.1 hP 0 rfl rfl 0 (by decide) (hts _ (List.mem_of_getElem? (i := 2) rfl)) (fun _ h9 => h9) rfl dX1_areSo_12 ?_
        refine lv_iload_n hx hb dX1_areSo_15 rfl (lv_at hl 2 rfl) ?_
        refine n_iald (i := i) (v := (nI (ru i))) hx hb hK.1 hP 1 0 rfl rfl (by omega) (by decide) rfl dX1_areSo_16 ?_
        refine lv_aload_n hx hb dX1_areSo_17 rfl (lv_at hl 0 rfl) ?_
        refine va_get (D := g.1) (ci := 1) (v := .ref rla) (C := RX1) (T := TX1) (N := 5) hx hb hts (fun _ h => (List.mem_cons_of_mem _ (List.mem_append_left _ (List.mem_append_right _ h)))) hown hK.1 hP 0 rfl rfl 1 (by decide) (hts _ (List.mem_of_getElem? (i := 3) rfl)) (fun _ h9 => h9) rfl dX1_areSo_18 ?_
        refine lv_iload_n hx hb dX1_areSo_21 rfl (lv_at hl 2 rfl) ?_
        refine n_iald (i := i) (v := (nI (rl i))) hx hb hK.1 hP 2 0 rfl rfl (by omega) (by decide) rfl dX1_areSo_22 ?_
        refine lv_aload_n hx hb dX1_areSo_23 rfl (lv_at hl 0 rfl) ?_
        refine va_get (D := g.1) (ci := 1) (v := .ref rma) (C := RX1) (T := TX1) (N := 5) hx hb hts (fun _ h => (List.mem_cons_of_mem _ (List.mem_append_left _ (List.mem_append_right _ h)))) hown hK.1 hP 0 rfl rfl 2 (by decide) (hts _ (List.mem_of_getElem? (i := 4) rfl)) (fun _ h9 => h9) rfl dX1_areSo_24 ?_
        refine lv_iload_n hx hb dX1_areSo_27 rfl (lv_at hl 2 rfl) ?_
        refine n_iald (i := i) (v := (nI (rm i))) hx hb hK.1 hP 3 0 rfl rfl (by omega) (by decide) rfl dX1_areSo_28 ?_
        have hPc : PP g (wC g co ck ch cl np sl kd hg lk) _ := (P_sub (w := wC g co ck ch cl np sl kd hg lk) hP [5, 6, 7, 8] rfl)
        refine zcallR (va_runV (As := [.int (nI (ru i)), .int (nI (rl i)), .int (nI (rm i))]) (rest := []) (b := co) S0 (c_X0_doFit l g co ck ch cl np sl kd hg lk (ru i) (rl i) (rm i) hnp hsl hkd hhg (hru i (by omega)) (hrl i (by omega)) (hrm i (by omega))) (cwV 3 hts gX1_areSo_X0_doFit rfl rfl rfl (by decide +kernel) ⟨by decide, by decide⟩) (zpreV hK hPc (va_recv hK.1 hPc (ci := 0) (q0 := 0) rfl rfl)) rfl rfl hl.1 rfl (lv_room (Nat.le_of_ble_eq_true rfl)) dX1_areSo_29 ⟨by decide, by decide⟩) (fun r29 h29 => ?_)
        subst h29
        have f1 := fitb_le sl kd hg (ru i) (rl i) (rm i)
        refine lv_aload_n hx hb dX1_areSo_32 rfl (lv_at hl 0 rfl) ?_
        refine va_get (D := g.1) (ci := 1) (v := .ref rda) (C := RX1) (T := TX1) (N := 5) hx hb hts (fun _ h => (List.mem_cons_of_mem _ (List.mem_append_left _ (List.mem_append_right _ h)))) hown hK.1 hP 0 rfl rfl 3 (by decide) (hts _ (List.mem_of_getElem? (i := 5) rfl)) (fun _ h9 => h9) rfl dX1_areSo_33 ?_
        refine lv_iload_n hx hb dX1_areSo_36 rfl (lv_at hl 2 rfl) ?_
        refine n_zald (i := i) (v := (nI (rd i))) hx hb hK.1 hP 4 1 rfl rfl (by omega) (by decide) rfl dX1_areSo_37 ?_
        have f2 := hrd i
        refine n_icmp_eq (a := (fitb sl kd hg (ru i) (rl i) (rm i))) (b := (rd i)) (tgt := 43) hx hb (by omega) (by omega) dX1_areSo_38 (by decide) (fun c38 => ?_) (fun c38 => ?_)
        · refine n_iinc (a := i) (d := 1) (lv' := [(2, .int (nI (i + 1))), (0, .ref re), (1, .ref co)]) hx hb dX1_areSo_43 hl (k := 2) rfl (by decide) (by decide) rfl (fun ls hl => ?_)
          refine lv_goto (tgt := 2) hx hb dX1_areSo_46 (by decide) ?_
          exact ih2 (i + 1)  ls (by omega) (by omega) (so_go (F := (fun j => fitb sl kd hg (ru j) (rl j) (rm j))) hv c38) (lv_sub hl [1, 2, 0] rfl)
        · refine lv_iconst (v := (nI 0)) hx hb dX1_areSo_41 (by decide) ?_
          exact zretI hx hb hr hlocks rfl (by rw [so_stay (so_bad (F := (fun j => fitb sl kd hg (ru j) (rl j) (rm j))) c38) nr (by omega)]) dX1_areSo_42
  exact lp2 (nr - 0 + 1) 0  ls (Nat.lt_succ_self _) (by omega) rfl (lv_sub hl [1, 2, 0] rfl)

set_option maxHeartbeats 4000000 in
set_option maxRecDepth 100000 in
theorem c_X3_howMany (l : Launch) (g : Gx) (vo : Nat) (vpa : Nat) (vma : Nat) (vn : Nat) (vp : Nat → Int32) (vm : Nat → Int32) : Met l yX3_howMany wsX3_howMany ({ frames := 0, cells := 0, slots := 0, locals := 0 } : Room) (PcR g [.ref vo] (wV g vo vpa vma vn vp vm)) (vp_Si (fun r => r = nI vn)) 0 0 (fun _ => False) := by
  refine zenterR (cc := cX3_howMany) (maxL := 1) (ret := (some .int)) (by decide) rfl (Nat.le_of_ble_eq_true rfl) ?_
  intro P E s mt below meth cd ls hx hb hml hown hts hr hlocks hP hK hl
  have hl : lv_has ls 1 [(0, .ref vo)] := hl
  have S0 : CallFix P mt cd cX3_howMany 1 s [.ref vo].toArray wsX3_howMany RX3 := ⟨hx, hb, hml, hown, hts⟩
  refine lv_aload_n hx hb dX3_howMany_0 rfl (lv_at hl 0 rfl) ?_
  refine va_get (D := g.1) (ci := 3) (v := .int (nI vn)) (C := RX3) (T := TX3) (N := 3) hx hb hts (fun _ h => (List.mem_cons_of_mem _ (List.mem_append_right _ h))) hown hK.1 hP 0 rfl rfl 2 (by decide) (hts _ (List.mem_of_getElem? (i := 1) rfl)) (fun _ h9 => h9) rfl dX3_howMany_1 ?_
  exact zretI hx hb hr hlocks rfl (by rfl) dX3_howMany_4

set_option maxHeartbeats 4000000 in
set_option maxRecDepth 100000 in
theorem c_X3_load (l : Launch) (g : Gx) (vo : Nat) (vpa : Nat) (vma : Nat) (sa : Nat) (ca : Nat) (vn : Nat) (vp : Nat → Int32) (vm : Nat → Int32) (la : Int32) (le : Nat) (ce : Nat → Int32) (i : Nat) (n : Nat) (hle : le ≤ 60) (hn : n ≤ 20) (hin : i + 2 * n ≤ le) : Met l yX3_load wsX3_load ({ frames := 2, cells := 0, slots := 0, locals := 42 } : Room) (PcM g [.ref vo, .ref sa, .int (nI i), .int (nI n)] (wVS g vo vpa vma sa ca vn vp vm la le ce)) (va_Qv (fun (uu : Unit) => True) (fun (uu : Unit) t => PP g (wVS g vo vpa vma sa ca n (filI (fun k => ce (i + 2 * k)) vp n) (filI (fun k => ce (i + 2 * k + 1)) vm n) la le ce) t.heap) (inW (wVS g vo vpa vma sa ca vn vp vm la le ce))) 0 0 (inW (wVS g vo vpa vma sa ca vn vp vm la le ce)) := by
  refine zenterM (cc := cX3_load) (maxL := 5) (ret := none) (by decide) rfl (Nat.le_of_ble_eq_true rfl) ?_
  intro P E s mt below meth cd ls hx hb hml hown hts hr hlocks hP hK hD hS hl
  skip
  have hl : lv_has ls 5 [(0, .ref vo), (1, .ref sa), (2, .int (nI i)), (3, .int (nI n))] := hl
  have S0 : CallFix P mt cd cX3_load 5 s [.ref vo, .ref sa, .int (nI i), .int (nI n)].toArray wsX3_load RX3 := ⟨hx, hb, hml, hown, hts⟩
  refine lv_aload_n hx hb dX3_load_0 rfl (lv_at hl 0 rfl) ?_
  refine lv_iload_n hx hb dX3_load_1 rfl (lv_at hl 3 rfl) ?_
  refine lv_bipush (v := (nI 20)) hx hb dX3_load_2 (by decide) ?_
  refine va_mmin hx hb (hml.trans hl.1.symm) hown (hts _ (List.mem_of_getElem? (i := 1) rfl)) (hts _ (List.mem_of_getElem? (i := 2) rfl)) (hts _ (List.mem_of_getElem? (i := 3) rfl)) (hts _ (List.mem_of_getElem? (i := 4) rfl)) (Nat.le_of_ble_eq_true rfl) (Nat.le_of_ble_eq_true rfl) (Nat.zero_le _) (Nat.zero_le _) dX3_load_4 ?_
  refine ztopI (nI n) (if_neg (nI_nlt hn (by decide))) ?_
  refine n_put (D := g.1) (ci := 3) (v := .int (nI n)) (ty := .int) (C := RX3) (T := TX3) (N := 3) (ws1 := wVS g vo vpa vma sa ca n vp vm la le ce) hx hb hts (fun _ h => (List.mem_cons_of_mem _ (List.mem_append_left _ (List.mem_append_right _ h)))) tyX3 tyX3_ok nmX3 hown hK.1 hP hD hS 0 rfl rfl 2 (by decide) (hts _ (List.mem_of_getElem? (i := 5) rfl)) (fun _ h9 => h9) rfl (by decide +kernel) rfl rfl (Nat.le_of_ble_eq_true rfl) rfl dX3_load_7 (fun H locs hP hD hS => ?_)
  refine lv_iconst (v := (nI 0)) hx hb dX3_load_10 (by decide) ?_
  refine lv_istore (lv' := [(4, .int (nI 0)), (0, .ref vo), (1, .ref sa), (2, .int (nI i)), (3, .int (nI n))]) hx hb dX3_load_11 hl (by decide) rfl (fun ls hl => ?_)
  have lp13 : ∀ (nn : Nat) (k : Nat) (H : Heap) (locs : List Loc) (ls : Array Slot), (n - k) < nn → (k ≤ n) → PP g (wVS g vo vpa vma sa ca n (filI (fun k => ce (i + 2 * k)) vp k) (filI (fun k => ce (i + 2 * k + 1)) vm k) la le ce) H → va_D (inW (wVS g vo vpa vma sa ca vn vp vm la le ce)) (wVS g vo vpa vma sa ca n (filI (fun k => ce (i + 2 * k)) vp k) (filI (fun k => ce (i + 2 * k + 1)) vm k) la le ce) → va_S (inW (wVS g vo vpa vma sa ca vn vp vm la le ce)) s.heap H locs → lv_has ls 5 [(0, .ref vo), (1, .ref sa), (2, .int (nI i)), (3, .int (nI n)), (4, .int (nI k))] → W P l E ({ frames := 2, cells := 0, slots := 0, locals := 42 } : Room) s mt [.ref vo, .ref sa, .int (nI i), .int (nI n)].toArray below meth cd H locs 0 0 (MQ below (va_Qv (fun (uu : Unit) => True) (fun (uu : Unit) t => PP g (wVS g vo vpa vma sa ca n (filI (fun k => ce (i + 2 * k)) vp n) (filI (fun k => ce (i + 2 * k + 1)) vm n) la le ce) t.heap) (inW (wVS g vo vpa vma sa ca vn vp vm la le ce))) [.ref vo, .ref sa, .int (nI i), .int (nI n)].toArray s 0 0 (inW (wVS g vo vpa vma sa ca vn vp vm la le ce))) (F0 mt 13 ls []) := by
    intro nn
    induction nn with
    | zero => intro k H locs ls hmu; exact absurd hmu (Nat.not_lt_zero _)
    | succ nn ih13 =>
      intro k H locs ls hmu hk hP hD hS hl
      refine lv_iload hx hb dX3_load_13 (lv_at hl 4 rfl) ?_
      refine lv_aload_n hx hb dX3_load_15 rfl (lv_at hl 0 rfl) ?_
      refine va_get (D := g.1) (ci := 3) (v := .int (nI n)) (C := RX3) (T := TX3) (N := 3) hx hb hts (fun _ h => (List.mem_cons_of_mem _ (List.mem_append_left _ (List.mem_append_right _ h)))) hown hK.1 hP 0 rfl rfl 2 (by decide) (hts _ (List.mem_of_getElem? (i := 5) rfl)) (fun _ h9 => h9) rfl dX3_load_16 ?_
      refine n_icmp_ge (a := k) (b := n) (tgt := 64) hx hb (by omega) (by omega) dX3_load_19 (by decide) (fun c19 => ?_) (fun c19 => ?_)
      · obtain rfl : n = k := by omega
        exact zretMV (w1 := fun (uu : Unit) => wVS g vo vpa vma sa ca n (filI (fun n => ce (i + 2 * n)) vp n) (filI (fun n => ce (i + 2 * n + 1)) vm n) la le ce) () hx hb hr hlocks hS trivial hP dX3_load_64
      · refine lv_aload_n hx hb dX3_load_22 rfl (lv_at hl 0 rfl) ?_
        refine va_get (D := g.1) (ci := 3) (v := .ref vpa) (C := RX3) (T := TX3) (N := 3) hx hb hts (fun _ h => (List.mem_cons_of_mem _ (List.mem_append_left _ (List.mem_append_right _ h)))) hown hK.1 hP 0 rfl rfl 0 (by decide) (hts _ (List.mem_of_getElem? (i := 6) rfl)) (fun _ h9 => h9) rfl dX3_load_23 ?_
        refine lv_iload hx hb dX3_load_26 (lv_at hl 4 rfl) ?_
        refine lv_aload_n hx hb dX3_load_28 rfl (lv_at hl 1 rfl) ?_
        refine lv_iload_n hx hb dX3_load_29 rfl (lv_at hl 2 rfl) ?_
        refine lv_iconst (v := (nI 2)) hx hb dX3_load_30 (by decide) ?_
        refine lv_iload hx hb dX3_load_31 (lv_at hl 4 rfl) ?_
        refine n_imul (a := 2) (b := k) hx hb dX3_load_33 ?_
        refine n_iadd (a := i) (b := (2 * k)) hx hb dX3_load_34 ?_
        have hPc : PP g (wS g sa ca la le ce) _ := (P_sub (w := wS g sa ca la le ce) hP [3, 4] rfl)
        refine zcallR (va_runV (As := [.int (nI (i + (2 * k)))]) (rest := [.int (nI k), .ref vpa]) (b := sa) S0 (c_X2_at l g sa ca la le ce (i + (2 * k)) hle (by omega)) (cwV 1 hts gX3_load_X2_at rfl rfl rfl (by decide +kernel) ⟨by decide, by decide⟩) (zpreV hK hPc (va_recv hK.1 hPc (ci := 2) (q0 := 0) rfl rfl)) rfl rfl hl.1 rfl (lv_room (Nat.le_of_ble_eq_true rfl)) dX3_load_35 ⟨by decide, by decide⟩) (fun r35 h35 => ?_)
        subst h35
        refine n_iast (i := k) (x := (ce (i + (2 * k)))) (ws1 := wVS g vo vpa vma sa ca n (upd (filI (fun k => ce (i + 2 * k)) vp k) k (ce (i + (2 * k)))) (filI (fun k => ce (i + 2 * k + 1)) vm k) la le ce) hx hb hK.1 hP hD hS 1 0 rfl rfl (by omega) (by decide) (upd (filI (fun k => ce (i + 2 * k)) vp k) k (ce (i + (2 * k)))) rfl rfl dX3_load_38 (fun H locs hP hD hS => ?_)
        refine lv_aload_n hx hb dX3_load_39 rfl (lv_at hl 0 rfl) ?_
        refine va_get (D := g.1) (ci := 3) (v := .ref vma) (C := RX3) (T := TX3) (N := 3) hx hb hts (fun _ h => (List.mem_cons_of_mem _ (List.mem_append_left _ (List.mem_append_right _ h)))) hown hK.1 hP 0 rfl rfl 1 (by decide) (hts _ (List.mem_of_getElem? (i := 7) rfl)) (fun _ h9 => h9) rfl dX3_load_40 ?_
        refine lv_iload hx hb dX3_load_43 (lv_at hl 4 rfl) ?_
        refine lv_aload_n hx hb dX3_load_45 rfl (lv_at hl 1 rfl) ?_
        refine lv_iload_n hx hb dX3_load_46 rfl (lv_at hl 2 rfl) ?_
        refine lv_iconst (v := (nI 2)) hx hb dX3_load_47 (by decide) ?_
        refine lv_iload hx hb dX3_load_48 (lv_at hl 4 rfl) ?_
        refine n_imul (a := 2) (b := k) hx hb dX3_load_50 ?_
        refine n_iadd (a := i) (b := (2 * k)) hx hb dX3_load_51 ?_
        refine lv_iconst (v := (nI 1)) hx hb dX3_load_52 (by decide) ?_
        refine n_iadd (a := (i + (2 * k))) (b := 1) hx hb dX3_load_53 ?_
        have hPc : PP g (wS g sa ca la le ce) _ := (P_sub (w := wS g sa ca la le ce) hP [3, 4] rfl)
        refine zcallR (va_runV (As := [.int (nI ((i + (2 * k)) + 1))]) (rest := [.int (nI k), .ref vma]) (b := sa) S0 (c_X2_at l g sa ca la le ce ((i + (2 * k)) + 1) hle (by omega)) (cwV 1 hts gX3_load_X2_at rfl rfl rfl (by decide +kernel) ⟨by decide, by decide⟩) (zpreV hK hPc (va_recv hK.1 hPc (ci := 2) (q0 := 0) rfl rfl)) rfl rfl hl.1 rfl (lv_room (Nat.le_of_ble_eq_true rfl)) dX3_load_54 ⟨by decide, by decide⟩) (fun r54 h54 => ?_)
        subst h54
        refine n_iast (i := k) (x := (ce ((i + (2 * k)) + 1))) (ws1 := wVS g vo vpa vma sa ca n (upd (filI (fun k => ce (i + 2 * k)) vp k) k (ce (i + (2 * k)))) (upd (filI (fun k => ce (i + 2 * k + 1)) vm k) k (ce ((i + (2 * k)) + 1))) la le ce) hx hb hK.1 hP hD hS 2 0 rfl rfl (by omega) (by decide) (upd (filI (fun k => ce (i + 2 * k + 1)) vm k) k (ce ((i + (2 * k)) + 1))) rfl rfl dX3_load_57 (fun H locs hP hD hS => ?_)
        refine n_iinc (a := k) (d := 1) (lv' := [(4, .int (nI (k + 1))), (0, .ref vo), (1, .ref sa), (2, .int (nI i)), (3, .int (nI n))]) hx hb dX3_load_58 hl (k := 4) rfl (by decide) (by decide) rfl (fun ls hl => ?_)
        refine lv_goto (tgt := 13) hx hb dX3_load_61 (by decide) ?_
        rw [filI_up (fun k => ce (i + 2 * k)) vp k, filI_up (fun k => ce (i + 2 * k + 1)) vm k] at hP hD
        exact ih13 (k + 1) _ _ ls (by omega) (by omega) hP hD hS (lv_sub hl [1, 2, 3, 4, 0] rfl)
  exact lp13 (n - 0 + 1) 0 _ _ ls (Nat.lt_succ_self _) (by omega) (by rw [filI_0, filI_0]; exact hP) (by rw [filI_0, filI_0]; exact hD) hS (lv_sub hl [1, 2, 3, 4, 0] rfl)

set_option maxHeartbeats 4000000 in
set_option maxRecDepth 100000 in
theorem c_X3_refusal (l : Launch) (g : Gx) (vo : Nat) (vpa : Nat) (vma : Nat) (co : Nat) (ck : Nat) (ch : Nat) (cl : Nat) (vn : Nat) (vp : Nat → Int32) (vm : Nat → Int32) (np : Nat) (sl : Nat) (kd : Nat → Nat) (hg : Nat → Nat) (lk : Nat → Nat) (hnp : np ≤ 6) (hvn : vn ≤ 20) : Met l yX3_refusal wsX3_refusal ({ frames := 2, cells := 0, slots := 0, locals := 42 } : Room) (PcR g [.ref vo, .ref co] (wVC g vo vpa vma co ck ch cl vn vp vm np sl kd hg lk)) (vp_Si (fun r => r = rf np vp vm vn)) 0 0 (fun _ => False) := by
  refine zenterR (cc := cX3_refusal) (maxL := 3) (ret := (some .int)) (by decide) rfl (Nat.le_of_ble_eq_true rfl) ?_
  intro P E s mt below meth cd ls hx hb hml hown hts hr hlocks hP hK hl
  have hl : lv_has ls 3 [(0, .ref vo), (1, .ref co)] := hl
  have S0 : CallFix P mt cd cX3_refusal 3 s [.ref vo, .ref co].toArray wsX3_refusal RX3 := ⟨hx, hb, hml, hown, hts⟩
  refine lv_iconst (v := (nI 0)) hx hb dX3_refusal_0 (by decide) ?_
  refine lv_istore_n (lv' := [(2, .int (nI 0)), (0, .ref vo), (1, .ref co)]) hx hb dX3_refusal_1 rfl hl (by decide) rfl (fun ls hl => ?_)
  have lp2 : ∀ (nn : Nat) (i : Nat) (ls : Array Slot), (vn - i) < nn → (i ≤ vn) → (rf np vp vm i = nI 0) → lv_has ls 3 [(0, .ref vo), (1, .ref co), (2, .int (nI i))] → W P l E ({ frames := 2, cells := 0, slots := 0, locals := 42 } : Room) s mt [.ref vo, .ref co].toArray below meth cd s.heap [] 0 0 (MQ below (vp_Si (fun r => r = rf np vp vm vn)) [.ref vo, .ref co].toArray s 0 0 (fun _ => False)) (F0 mt 2 ls []) := by
    intro nn
    induction nn with
    | zero => intro i ls hmu; exact absurd hmu (Nat.not_lt_zero _)
    | succ nn ih2 =>
      intro i ls hmu hi hv hl
      refine lv_iload_n hx hb dX3_refusal_2 rfl (lv_at hl 2 rfl) ?_
      refine lv_aload_n hx hb dX3_refusal_3 rfl (lv_at hl 0 rfl) ?_
      refine va_get (D := g.1) (ci := 3) (v := .int (nI vn)) (C := RX3) (T := TX3) (N := 3) hx hb hts (fun _ h => (List.mem_cons_of_mem _ (List.mem_append_left _ (List.mem_append_right _ h)))) hown hK.1 hP 0 rfl rfl 2 (by decide) (hts _ (List.mem_of_getElem? (i := 1) rfl)) (fun _ h9 => h9) rfl dX3_refusal_4 ?_
      refine n_icmp_ge (a := i) (b := vn) (tgt := 46) hx hb (by omega) (by omega) dX3_refusal_7 (by decide) (fun c7 => ?_) (fun c7 => ?_)
      · refine lv_iconst (v := (nI 0)) hx hb dX3_refusal_46 (by decide) ?_
        exact zretI hx hb hr hlocks rfl (by rw [← show i = vn by omega, hv]) dX3_refusal_47
      · refine lv_aload_n hx hb dX3_refusal_10 rfl (lv_at hl 1 rfl) ?_
        refine lv_aload_n hx hb dX3_refusal_11 rfl (lv_at hl 0 rfl) ?_
        refine va_get (D := g.1) (ci := 3) (v := .ref vpa) (C := RX3) (T := TX3) (N := 3) hx hb hts (fun _ h => (List.mem_cons_of_mem _ (List.mem_append_left _ (List.mem_append_right _ h)))) hown hK.1 hP 0 rfl rfl 0 (by decide) (hts _ (List.mem_of_getElem? (i := 2) rfl)) (fun _ h9 => h9) rfl dX3_refusal_12 ?_
        refine lv_iload_n hx hb dX3_refusal_15 rfl (lv_at hl 2 rfl) ?_
        refine n_iald (i := i) (v := (vp i)) hx hb hK.1 hP 1 0 rfl rfl (by omega) (by decide) rfl dX3_refusal_16 ?_
        have hPc : PP g (wC g co ck ch cl np sl kd hg lk) _ := (P_sub (w := wC g co ck ch cl np sl kd hg lk) hP [3, 4, 5, 6] rfl)
        refine zcallR (va_runV (As := [.int (vp i)]) (rest := []) (b := co) S0 (c_X0_hasPass l g co ck ch cl np sl kd hg lk (vp i) hnp) (cwV 1 hts gX3_refusal_X0_hasPass rfl rfl rfl (by decide +kernel) ⟨by decide, by decide⟩) (zpreV hK hPc (va_recv hK.1 hPc (ci := 0) (q0 := 0) rfl rfl)) rfl rfl hl.1 rfl (lv_room (Nat.le_of_ble_eq_true rfl)) dX3_refusal_17 ⟨by decide, by decide⟩) (fun r17 h17 => ?_)
        rcases h17 with ⟨w_17, hw_17, hv_17, rfl⟩ | ⟨hn_17, rfl⟩
        · refine lv_if_ne (tgt := 25) hx hb dX3_refusal_20 (by decide) (fun c20 => ?_) (fun c20 => ?_)
          rotate_left
          · exact absurd c20 (by decide)
          refine lv_aload_n hx hb dX3_refusal_25 rfl (lv_at hl 0 rfl) ?_
          refine va_get (D := g.1) (ci := 3) (v := .ref vma) (C := RX3) (T := TX3) (N := 3) hx hb hts (fun _ h => (List.mem_cons_of_mem _ (List.mem_append_left _ (List.mem_append_right _ h)))) hown hK.1 hP 0 rfl rfl 1 (by decide) (hts _ (List.mem_of_getElem? (i := 3) rfl)) (fun _ h9 => h9) rfl dX3_refusal_26 ?_
          refine lv_iload_n hx hb dX3_refusal_29 rfl (lv_at hl 2 rfl) ?_
          refine n_iald (i := i) (v := (vm i)) hx hb hK.1 hP 2 0 rfl rfl (by omega) (by decide) rfl dX3_refusal_30 ?_
          refine zcallR (va_runSN (As := [.int (vm i)]) (rest := []) S0 (c_X4_isMonths l g (vm i)) ⟨va_cnB 1 hts gX3_refusal_X4_isMonths_n40 rfl rfl rfl hK.2.2.2.2.2.2.1 (hts _ (List.mem_of_getElem? (i := 11) rfl)) (by decide +kernel) ⟨by decide, by decide⟩, (hts _ (List.mem_of_getElem? (i := 10) rfl)), trivial⟩ (zpreS hK (P_nil _)) rfl rfl hl.1 rfl (lv_room (Nat.le_of_ble_eq_true rfl)) dX3_refusal_31 ⟨by decide, by decide⟩) (fun r31 h31 => ?_)
          rcases h31 with ⟨w_31, hw_31, hv_31, rfl⟩ | ⟨hn_31, rfl⟩
          · refine lv_if_ne (tgt := 40) hx hb dX3_refusal_34 (by decide) (fun c34 => ?_) (fun c34 => ?_)
            rotate_left
            · exact absurd c34 (by decide)
            refine n_iinc (a := i) (d := 1) (lv' := [(2, .int (nI (i + 1))), (0, .ref vo), (1, .ref co)]) hx hb dX3_refusal_40 hl (k := 2) rfl (by decide) (by decide) rfl (fun ls hl => ?_)
            refine lv_goto (tgt := 2) hx hb dX3_refusal_43 (by decide) ?_
            exact ih2 (i + 1)  ls (by omega) (by omega) (rf_go hv (by rw [hv_17]; exact isP_of (by omega) hw_17) (by rw [hv_31]; exact isP_of (by decide) hw_31)) (lv_sub hl [1, 2, 0] rfl)
          · refine lv_if_ne (tgt := 40) hx hb dX3_refusal_34 (by decide) (fun c34 => ?_) (fun c34 => ?_)
            · exact absurd c34 (by decide)
            refine lv_bipush (v := (-2)) hx hb dX3_refusal_37 (by decide) ?_
            exact zretI hx hb hr hlocks rfl (rf_2 hv (by rw [hv_17]; exact isP_of (by omega) hw_17) hn_31 (by omega)).symm dX3_refusal_39
        · refine lv_if_ne (tgt := 25) hx hb dX3_refusal_20 (by decide) (fun c20 => ?_) (fun c20 => ?_)
          · exact absurd c20 (by decide)
          refine lv_iconst (v := (-1)) hx hb dX3_refusal_23 (by decide) ?_
          exact zretI hx hb hr hlocks rfl (rf_1 hv hn_17 (by omega)).symm dX3_refusal_24
  exact lp2 (vn - 0 + 1) 0  ls (Nat.lt_succ_self _) (by omega) rfl (lv_sub hl [1, 2, 0] rfl)

set_option maxHeartbeats 4000000 in
set_option maxRecDepth 100000 in
theorem c_X3_firstWrongPair (l : Launch) (g : Gx) (vo : Nat) (vpa : Nat) (vma : Nat) (vn : Nat) (vp : Nat → Int32) (vm : Nat → Int32) (hvn : vn ≤ 20) : Met l yX3_firstWrongPair wsX3_firstWrongPair ({ frames := 0, cells := 0, slots := 0, locals := 0 } : Room) (PcR g [.ref vo] (wV g vo vpa vma vn vp vm)) (vp_Si (fun r => r = enc (wv vm vn))) 0 0 (fun _ => False) := by
  refine zenterR (cc := cX3_firstWrongPair) (maxL := 2) (ret := (some .int)) (by decide) rfl (Nat.le_of_ble_eq_true rfl) ?_
  intro P E s mt below meth cd ls hx hb hml hown hts hr hlocks hP hK hl
  have hl : lv_has ls 2 [(0, .ref vo)] := hl
  have S0 : CallFix P mt cd cX3_firstWrongPair 2 s [.ref vo].toArray wsX3_firstWrongPair RX3 := ⟨hx, hb, hml, hown, hts⟩
  refine lv_iconst (v := (nI 1)) hx hb dX3_firstWrongPair_0 (by decide) ?_
  refine lv_istore_n (lv' := [(1, .int (nI 1)), (0, .ref vo)]) hx hb dX3_firstWrongPair_1 rfl hl (by decide) rfl (fun ls hl => ?_)
  have lp2 : ∀ (nn : Nat) (i : Nat) (ls : Array Slot), (vn + 1 - i) < nn → (i ≤ vn ∨ i = 1) → (0 < i) → (i ≤ vn → wv vm i = none) → lv_has ls 2 [(0, .ref vo), (1, .int (nI i))] → W P l E ({ frames := 0, cells := 0, slots := 0, locals := 0 } : Room) s mt [.ref vo].toArray below meth cd s.heap [] 0 0 (MQ below (vp_Si (fun r => r = enc (wv vm vn))) [.ref vo].toArray s 0 0 (fun _ => False)) (F0 mt 2 ls []) := by
    intro nn
    induction nn with
    | zero => intro i ls hmu; exact absurd hmu (Nat.not_lt_zero _)
    | succ nn ih2 =>
      intro i ls hmu hi h0 hv hl
      refine lv_iload_n hx hb dX3_firstWrongPair_2 rfl (lv_at hl 1 rfl) ?_
      refine lv_aload_n hx hb dX3_firstWrongPair_3 rfl (lv_at hl 0 rfl) ?_
      refine va_get (D := g.1) (ci := 3) (v := .int (nI vn)) (C := RX3) (T := TX3) (N := 3) hx hb hts (fun _ h => (List.mem_cons_of_mem _ (List.mem_append_right _ h))) hown hK.1 hP 0 rfl rfl 2 (by decide) (hts _ (List.mem_of_getElem? (i := 1) rfl)) (fun _ h9 => h9) rfl dX3_firstWrongPair_4 ?_
      refine n_icmp_ge (a := i) (b := vn) (tgt := 35) hx hb (by omega) (by omega) dX3_firstWrongPair_7 (by decide) (fun c7 => ?_) (fun c7 => ?_)
      · refine lv_bipush (v := (-9)) hx hb dX3_firstWrongPair_35 (by decide) ?_
        exact zretI hx hb hr hlocks rfl (by rcases Nat.eq_zero_or_pos vn with z | z; (· rw [z]; rfl); (· rw [← show i = vn by omega, hv (by omega)]; rfl)) dX3_firstWrongPair_37
      · refine lv_aload_n hx hb dX3_firstWrongPair_10 rfl (lv_at hl 0 rfl) ?_
        refine va_get (D := g.1) (ci := 3) (v := .ref vma) (C := RX3) (T := TX3) (N := 3) hx hb hts (fun _ h => (List.mem_cons_of_mem _ (List.mem_append_right _ h))) hown hK.1 hP 0 rfl rfl 1 (by decide) (hts _ (List.mem_of_getElem? (i := 2) rfl)) (fun _ h9 => h9) rfl dX3_firstWrongPair_11 ?_
        refine lv_iload_n hx hb dX3_firstWrongPair_14 rfl (lv_at hl 1 rfl) ?_
        refine n_iald (i := i) (v := (vm i)) hx hb hK.1 hP 2 0 rfl rfl (by omega) (by decide) rfl dX3_firstWrongPair_15 ?_
        refine lv_aload_n hx hb dX3_firstWrongPair_16 rfl (lv_at hl 0 rfl) ?_
        refine va_get (D := g.1) (ci := 3) (v := .ref vma) (C := RX3) (T := TX3) (N := 3) hx hb hts (fun _ h => (List.mem_cons_of_mem _ (List.mem_append_right _ h))) hown hK.1 hP 0 rfl rfl 1 (by decide) (hts _ (List.mem_of_getElem? (i := 2) rfl)) (fun _ h9 => h9) rfl dX3_firstWrongPair_17 ?_
        refine lv_iload_n hx hb dX3_firstWrongPair_20 rfl (lv_at hl 1 rfl) ?_
        refine lv_iconst (v := (nI 1)) hx hb dX3_firstWrongPair_21 (by decide) ?_
        refine n_isub (a := i) (b := 1) hx hb (by omega) dX3_firstWrongPair_22 ?_
        refine n_iald (i := (i - 1)) (v := (vm (i - 1))) hx hb hK.1 hP 2 0 rfl rfl (by omega) (by decide) rfl dX3_firstWrongPair_23 ?_
        refine lv_icmp_ge (tgt := 29) hx hb dX3_firstWrongPair_24 (by decide) (fun c24 => ?_) (fun c24 => ?_)
        · refine n_iinc (a := i) (d := 1) (lv' := [(1, .int (nI (i + 1))), (0, .ref vo)]) hx hb dX3_firstWrongPair_29 hl (k := 1) rfl (by decide) (by decide) rfl (fun ls hl => ?_)
          refine lv_goto (tgt := 2) hx hb dX3_firstWrongPair_32 (by decide) ?_
          exact ih2 (i + 1)  ls (by omega) (by omega) (by omega) (fun _ => wv_go (hv (by omega)) (fun z => absurd z.2 (i_nlt.mpr c24))) (lv_sub hl [1, 0] rfl)
        · refine lv_iload_n hx hb dX3_firstWrongPair_27 rfl (lv_at hl 1 rfl) ?_
          exact zretI hx hb hr hlocks rfl (by rw [wv_bad (hv (by omega)) h0 (i_nle.mp c24) (by omega)]; rfl) dX3_firstWrongPair_28
  exact lp2 (vn + 1 - 1 + 1) 1  ls (Nat.lt_succ_self _) (by omega) (by omega) (fun _ => rfl) (lv_sub hl [1, 0] rfl)

set_option maxHeartbeats 4000000 in
set_option maxRecDepth 100000 in
theorem c_X3_takenBy (l : Launch) (g : Gx) (vo : Nat) (vpa : Nat) (vma : Nat) (co : Nat) (ck : Nat) (ch : Nat) (cl : Nat) (vn : Nat) (vp : Nat → Int32) (vm : Nat → Int32) (np : Nat) (sl : Nat) (kd : Nat → Nat) (hg : Nat → Nat) (lk : Nat → Nat) (b : Nat) (pp : Nat → Nat) (mm : Nat → Nat) (hnp : np ≤ 6) (hsl : sl ≤ 9) (hkd : ∀ j, kd j ≤ 2) (hhg : ∀ j, hg j ≤ 9) (hvn : vn ≤ 20) (hb6 : b < 64) (hvp : ∀ k, k < vn → vp k = nI (pp k) ∧ pp k < np) (hvm : ∀ k, k < vn → vm k = nI (mm k) ∧ mm k ≤ 9) : Met l yX3_takenBy wsX3_takenBy ({ frames := 4, cells := 0, slots := 0, locals := 94 } : Room) (PcR g [.ref vo, .ref co, .int (nI b)] (wVC g vo vpa vma co ck ch cl vn vp vm np sl kd hg lk)) (vp_Si (fun r => r = nI (bset (fun k => b01 (fset np sl kd hg (pp k) (mm k) &&& b = 0)) vn))) 0 0 (fun _ => False) := by
  refine zenterR (cc := cX3_takenBy) (maxL := 5) (ret := (some .int)) (by decide) rfl (Nat.le_of_ble_eq_true rfl) ?_
  intro P E s mt below meth cd ls hx hb hml hown hts hr hlocks hP hK hl
  have hl : lv_has ls 5 [(0, .ref vo), (1, .ref co), (2, .int (nI b))] := hl
  have S0 : CallFix P mt cd cX3_takenBy 5 s [.ref vo, .ref co, .int (nI b)].toArray wsX3_takenBy RX3 := ⟨hx, hb, hml, hown, hts⟩
  refine lv_iconst (v := (nI 0)) hx hb dX3_takenBy_0 (by decide) ?_
  refine lv_istore_n (lv' := [(3, .int (nI 0)), (0, .ref vo), (1, .ref co), (2, .int (nI b))]) hx hb dX3_takenBy_1 rfl hl (by decide) rfl (fun ls hl => ?_)
  refine lv_iconst (v := (nI 0)) hx hb dX3_takenBy_2 (by decide) ?_
  refine lv_istore (lv' := [(4, .int (nI 0)), (3, .int (nI 0)), (0, .ref vo), (1, .ref co), (2, .int (nI b))]) hx hb dX3_takenBy_3 hl (by decide) rfl (fun ls hl => ?_)
  have lp5 : ∀ (nn : Nat) (i : Nat) (ls : Array Slot), (vn - i) < nn → (i ≤ vn) → lv_has ls 5 [(0, .ref vo), (1, .ref co), (2, .int (nI b)), (3, .int (nI (bset (fun k => b01 (fset np sl kd hg (pp k) (mm k) &&& b = 0)) i))), (4, .int (nI i))] → W P l E ({ frames := 4, cells := 0, slots := 0, locals := 94 } : Room) s mt [.ref vo, .ref co, .int (nI b)].toArray below meth cd s.heap [] 0 0 (MQ below (vp_Si (fun r => r = nI (bset (fun k => b01 (fset np sl kd hg (pp k) (mm k) &&& b = 0)) vn))) [.ref vo, .ref co, .int (nI b)].toArray s 0 0 (fun _ => False)) (F0 mt 5 ls []) := by
    intro nn
    induction nn with
    | zero => intro i ls hmu; exact absurd hmu (Nat.not_lt_zero _)
    | succ nn ih5 =>
      intro i ls hmu hi hl
      refine lv_iload hx hb dX3_takenBy_5 (lv_at hl 4 rfl) ?_
      refine lv_aload_n hx hb dX3_takenBy_7 rfl (lv_at hl 0 rfl) ?_
      refine va_get (D := g.1) (ci := 3) (v := .int (nI vn)) (C := RX3) (T := TX3) (N := 3) hx hb hts (fun _ h => (List.mem_cons_of_mem _ (List.mem_append_left _ (List.mem_append_right _ h)))) hown hK.1 hP 0 rfl rfl 2 (by decide) (hts _ (List.mem_of_getElem? (i := 1) rfl)) (fun _ h9 => h9) rfl dX3_takenBy_8 ?_
      refine n_icmp_ge (a := i) (b := vn) (tgt := 56) hx hb (by omega) (by omega) dX3_takenBy_11 (by decide) (fun c11 => ?_) (fun c11 => ?_)
      · obtain rfl : vn = i := by omega
        refine lv_iload_n hx hb dX3_takenBy_56 rfl (lv_at hl 3 rfl) ?_
        exact zretI hx hb hr hlocks rfl rfl dX3_takenBy_57
      · refine lv_iload_n hx hb dX3_takenBy_14 rfl (lv_at hl 3 rfl) ?_
        refine lv_aload_n hx hb dX3_takenBy_15 rfl (lv_at hl 1 rfl) ?_
        refine lv_aload_n hx hb dX3_takenBy_16 rfl (lv_at hl 0 rfl) ?_
        refine va_get (D := g.1) (ci := 3) (v := .ref vpa) (C := RX3) (T := TX3) (N := 3) hx hb hts (fun _ h => (List.mem_cons_of_mem _ (List.mem_append_left _ (List.mem_append_right _ h)))) hown hK.1 hP 0 rfl rfl 0 (by decide) (hts _ (List.mem_of_getElem? (i := 2) rfl)) (fun _ h9 => h9) rfl dX3_takenBy_17 ?_
        refine lv_iload hx hb dX3_takenBy_20 (lv_at hl 4 rfl) ?_
        refine n_iald (i := i) (v := (vp i)) hx hb hK.1 hP 1 0 rfl rfl (by omega) (by decide) rfl dX3_takenBy_22 ?_
        refine ztopI (nI (pp i)) ((hvp i (by omega)).1) ?_
        refine lv_aload_n hx hb dX3_takenBy_23 rfl (lv_at hl 0 rfl) ?_
        refine va_get (D := g.1) (ci := 3) (v := .ref vma) (C := RX3) (T := TX3) (N := 3) hx hb hts (fun _ h => (List.mem_cons_of_mem _ (List.mem_append_left _ (List.mem_append_right _ h)))) hown hK.1 hP 0 rfl rfl 1 (by decide) (hts _ (List.mem_of_getElem? (i := 3) rfl)) (fun _ h9 => h9) rfl dX3_takenBy_24 ?_
        refine lv_iload hx hb dX3_takenBy_27 (lv_at hl 4 rfl) ?_
        refine n_iald (i := i) (v := (vm i)) hx hb hK.1 hP 2 0 rfl rfl (by omega) (by decide) rfl dX3_takenBy_29 ?_
        refine ztopI (nI (mm i)) ((hvm i (by omega)).1) ?_
        have hPc : PP g (wC g co ck ch cl np sl kd hg lk) _ := (P_sub (w := wC g co ck ch cl np sl kd hg lk) hP [3, 4, 5, 6] rfl)
        refine zcallR (va_runV (As := [.int (nI (pp i)), .int (nI (mm i))]) (rest := [.int (nI (bset (fun k => b01 (fset np sl kd hg (pp k) (mm k) &&& b = 0)) i))]) (b := co) S0 (c_X0_fitting l g co ck ch cl np sl kd hg lk (pp i) (mm i) hnp hsl hkd hhg ((hvp i (by omega)).2) ((hvm i (by omega)).2)) (cwV 2 hts gX3_takenBy_X0_fitting rfl rfl rfl (by decide +kernel) ⟨by decide, by decide⟩) (zpreV hK hPc (va_recv hK.1 hPc (ci := 0) (q0 := 0) rfl rfl)) rfl rfl hl.1 rfl (lv_room (Nat.le_of_ble_eq_true rfl)) dX3_takenBy_30 ⟨by decide, by decide⟩) (fun r30 h30 => ?_)
        subst h30
        have f1 := fset_64 hnp sl kd hg (pp i) (mm i)
        refine lv_iload_n hx hb dX3_takenBy_33 rfl (lv_at hl 2 rfl) ?_
        refine n_iand (a := (fset np sl kd hg (pp i) (mm i))) (b := b) hx hb dX3_takenBy_34 ?_
        refine n_if_ne (a := ((fset np sl kd hg (pp i) (mm i)) &&& b)) (tgt := 42) hx hb (Nat.lt_trans (and_lt hb6) (by decide)) dX3_takenBy_35 (by decide) (fun c35 => ?_) (fun c35 => ?_)
        · refine lv_iconst (v := (nI 0)) hx hb dX3_takenBy_42 (by decide) ?_
          refine ztopI (nI (b01 (fset np sl kd hg (pp i) (mm i) &&& b = 0))) (by rw [b01_f c35]) ?_
          refine lv_iload hx hb dX3_takenBy_43 (lv_at hl 4 rfl) ?_
          refine zcallR (va_runSN (As := [.int (nI (b01 (fset np sl kd hg (pp i) (mm i) &&& b = 0))), .int (nI i)]) (rest := [.int (nI (bset (fun k => b01 (fset np sl kd hg (pp k) (mm k) &&& b = 0)) i))]) S0 (c_X4_bitIf l g (b01 (fset np sl kd hg (pp i) (mm i) &&& b = 0)) i (b01_le _) (by omega)) ⟨va_cnB 2 hts gX3_takenBy_X4_bitIf_n46 rfl rfl rfl hK.2.2.2.2.2.2.2 (hts _ (List.mem_of_getElem? (i := 40) rfl)) (by decide +kernel) ⟨by decide, by decide⟩, (hts _ (List.mem_of_getElem? (i := 39) rfl)), trivial⟩ (zpreS hK (P_nil _)) rfl rfl hl.1 rfl (lv_room (Nat.le_of_ble_eq_true rfl)) dX3_takenBy_45 ⟨by decide, by decide⟩) (fun r45 h45 => ?_)
          subst h45
          have f2 := bt_ltE (b01 (fset np sl kd hg (pp i) (mm i) &&& b = 0)) i
          refine n_ior (a := (bset (fun k => b01 (fset np sl kd hg (pp k) (mm k) &&& b = 0)) i)) (b := (bt (b01 (fset np sl kd hg (pp i) (mm i) &&& b = 0)) i)) hx hb dX3_takenBy_48 ?_
          refine lv_istore_n (lv' := [(3, .int (nI ((bset (fun k => b01 (fset np sl kd hg (pp k) (mm k) &&& b = 0)) i) ||| (bt (b01 (fset np sl kd hg (pp i) (mm i) &&& b = 0)) i)))), (0, .ref vo), (1, .ref co), (2, .int (nI b)), (4, .int (nI i))]) hx hb dX3_takenBy_49 rfl hl (by decide) rfl (fun ls hl => ?_)
          refine n_iinc (a := i) (d := 1) (lv' := [(4, .int (nI (i + 1))), (3, .int (nI ((bset (fun k => b01 (fset np sl kd hg (pp k) (mm k) &&& b = 0)) i) ||| (bt (b01 (fset np sl kd hg (pp i) (mm i) &&& b = 0)) i)))), (0, .ref vo), (1, .ref co), (2, .int (nI b))]) hx hb dX3_takenBy_50 hl (k := 4) rfl (by decide) (by decide) rfl (fun ls hl => ?_)
          refine lv_goto (tgt := 5) hx hb dX3_takenBy_53 (by decide) ?_
          exact ih5 (i + 1)  ls (by omega) (by omega) (lv_sub hl [2, 3, 4, 1, 0] rfl)
        · refine lv_iconst (v := (nI 1)) hx hb dX3_takenBy_38 (by decide) ?_
          refine ztopI (nI (b01 (fset np sl kd hg (pp i) (mm i) &&& b = 0))) (by rw [b01_t c35]) ?_
          refine lv_goto (tgt := 43) hx hb dX3_takenBy_39 (by decide) ?_
          refine lv_iload hx hb dX3_takenBy_43 (lv_at hl 4 rfl) ?_
          refine zcallR (va_runSN (As := [.int (nI (b01 (fset np sl kd hg (pp i) (mm i) &&& b = 0))), .int (nI i)]) (rest := [.int (nI (bset (fun k => b01 (fset np sl kd hg (pp k) (mm k) &&& b = 0)) i))]) S0 (c_X4_bitIf l g (b01 (fset np sl kd hg (pp i) (mm i) &&& b = 0)) i (b01_le _) (by omega)) ⟨va_cnB 2 hts gX3_takenBy_X4_bitIf_n46 rfl rfl rfl hK.2.2.2.2.2.2.2 (hts _ (List.mem_of_getElem? (i := 40) rfl)) (by decide +kernel) ⟨by decide, by decide⟩, (hts _ (List.mem_of_getElem? (i := 39) rfl)), trivial⟩ (zpreS hK (P_nil _)) rfl rfl hl.1 rfl (lv_room (Nat.le_of_ble_eq_true rfl)) dX3_takenBy_45 ⟨by decide, by decide⟩) (fun r45 h45 => ?_)
          subst h45
          have f3 := bt_ltE (b01 (fset np sl kd hg (pp i) (mm i) &&& b = 0)) i
          refine n_ior (a := (bset (fun k => b01 (fset np sl kd hg (pp k) (mm k) &&& b = 0)) i)) (b := (bt (b01 (fset np sl kd hg (pp i) (mm i) &&& b = 0)) i)) hx hb dX3_takenBy_48 ?_
          refine lv_istore_n (lv' := [(3, .int (nI ((bset (fun k => b01 (fset np sl kd hg (pp k) (mm k) &&& b = 0)) i) ||| (bt (b01 (fset np sl kd hg (pp i) (mm i) &&& b = 0)) i)))), (0, .ref vo), (1, .ref co), (2, .int (nI b)), (4, .int (nI i))]) hx hb dX3_takenBy_49 rfl hl (by decide) rfl (fun ls hl => ?_)
          refine n_iinc (a := i) (d := 1) (lv' := [(4, .int (nI (i + 1))), (3, .int (nI ((bset (fun k => b01 (fset np sl kd hg (pp k) (mm k) &&& b = 0)) i) ||| (bt (b01 (fset np sl kd hg (pp i) (mm i) &&& b = 0)) i)))), (0, .ref vo), (1, .ref co), (2, .int (nI b))]) hx hb dX3_takenBy_50 hl (k := 4) rfl (by decide) (by decide) rfl (fun ls hl => ?_)
          refine lv_goto (tgt := 5) hx hb dX3_takenBy_53 (by decide) ?_
          exact ih5 (i + 1)  ls (by omega) (by omega) (lv_sub hl [2, 3, 4, 1, 0] rfl)
  exact lp5 (vn - 0 + 1) 0  ls (Nat.lt_succ_self _) (by omega) (lv_sub hl [2, 3, 4, 1, 0] rfl)

set_option maxHeartbeats 4000000 in
set_option maxRecDepth 100000 in
theorem c_X3_firstOf (l : Launch) (g : Gx) (vo : Nat) (vpa : Nat) (vma : Nat) (vn : Nat) (vp : Nat → Int32) (vm : Nat → Int32) (b : Nat) (hvn : vn ≤ 20) (hb2 : b < 2 ^ 20) : Met l yX3_firstOf wsX3_firstOf ({ frames := 0, cells := 0, slots := 0, locals := 0 } : Room) (PcR g [.ref vo, .int (nI b)] (wV g vo vpa vma vn vp vm)) (vp_Si (fun r => r = enc (fo b vn))) 0 0 (fun _ => False) := by
  refine zenterR (cc := cX3_firstOf) (maxL := 3) (ret := (some .int)) (by decide) rfl (Nat.le_of_ble_eq_true rfl) ?_
  intro P E s mt below meth cd ls hx hb hml hown hts hr hlocks hP hK hl
  have hl : lv_has ls 3 [(0, .ref vo), (1, .int (nI b))] := hl
  have S0 : CallFix P mt cd cX3_firstOf 3 s [.ref vo, .int (nI b)].toArray wsX3_firstOf RX3 := ⟨hx, hb, hml, hown, hts⟩
  refine lv_iconst (v := (nI 0)) hx hb dX3_firstOf_0 (by decide) ?_
  refine lv_istore_n (lv' := [(2, .int (nI 0)), (0, .ref vo), (1, .int (nI b))]) hx hb dX3_firstOf_1 rfl hl (by decide) rfl (fun ls hl => ?_)
  have lp2 : ∀ (nn : Nat) (i : Nat) (ls : Array Slot), (vn - i) < nn → (i ≤ vn) → (fo b i = none) → lv_has ls 3 [(0, .ref vo), (1, .int (nI b)), (2, .int (nI i))] → W P l E ({ frames := 0, cells := 0, slots := 0, locals := 0 } : Room) s mt [.ref vo, .int (nI b)].toArray below meth cd s.heap [] 0 0 (MQ below (vp_Si (fun r => r = enc (fo b vn))) [.ref vo, .int (nI b)].toArray s 0 0 (fun _ => False)) (F0 mt 2 ls []) := by
    intro nn
    induction nn with
    | zero => intro i ls hmu; exact absurd hmu (Nat.not_lt_zero _)
    | succ nn ih2 =>
      intro i ls hmu hi hv hl
      refine lv_iload_n hx hb dX3_firstOf_2 rfl (lv_at hl 2 rfl) ?_
      refine lv_aload_n hx hb dX3_firstOf_3 rfl (lv_at hl 0 rfl) ?_
      refine va_get (D := g.1) (ci := 3) (v := .int (nI vn)) (C := RX3) (T := TX3) (N := 3) hx hb hts (fun _ h => (List.mem_cons_of_mem _ (List.mem_append_right _ h))) hown hK.1 hP 0 rfl rfl 2 (by decide) (hts _ (List.mem_of_getElem? (i := 1) rfl)) (fun _ h9 => h9) rfl dX3_firstOf_4 ?_
      refine n_icmp_ge (a := i) (b := vn) (tgt := 26) hx hb (by omega) (by omega) dX3_firstOf_7 (by decide) (fun c7 => ?_) (fun c7 => ?_)
      · refine lv_bipush (v := (-9)) hx hb dX3_firstOf_26 (by decide) ?_
        exact zretI hx hb hr hlocks rfl (by rw [← show i = vn by omega, hv]; rfl) dX3_firstOf_28
      · refine lv_iload_n hx hb dX3_firstOf_10 rfl (lv_at hl 1 rfl) ?_
        refine lv_iconst (v := (nI 1)) hx hb dX3_firstOf_11 (by decide) ?_
        refine lv_iload_n hx hb dX3_firstOf_12 rfl (lv_at hl 2 rfl) ?_
        refine n_ishl1 (n := i) hx hb (by omega) dX3_firstOf_13 ?_
        refine n_iand (a := b) (b := (2 ^ i)) hx hb dX3_firstOf_14 ?_
        refine n_if_eq (a := (b &&& (2 ^ i))) (tgt := 20) hx hb (Nat.lt_trans (and_lt' hb2) (by decide)) dX3_firstOf_15 (by decide) (fun c15 => ?_) (fun c15 => ?_)
        · refine n_iinc (a := i) (d := 1) (lv' := [(2, .int (nI (i + 1))), (0, .ref vo), (1, .int (nI b))]) hx hb dX3_firstOf_20 hl (k := 2) rfl (by decide) (by decide) rfl (fun ls hl => ?_)
          refine lv_goto (tgt := 2) hx hb dX3_firstOf_23 (by decide) ?_
          exact ih2 (i + 1)  ls (by omega) (by omega) (fo_go hv c15) (lv_sub hl [1, 2, 0] rfl)
        · refine lv_iload_n hx hb dX3_firstOf_18 rfl (lv_at hl 2 rfl) ?_
          exact zretI hx hb hr hlocks rfl (by rw [fo_bad hv c15 (by omega)]; rfl) dX3_firstOf_19
  exact lp2 (vn - 0 + 1) 0  ls (Nat.lt_succ_self _) (by omega) rfl (lv_sub hl [1, 2, 0] rfl)

set_option maxHeartbeats 4000000 in
set_option maxRecDepth 100000 in
theorem c_X3_goodOnes (l : Launch) (g : Gx) (vo : Nat) (vpa : Nat) (vma : Nat) (co : Nat) (ck : Nat) (ch : Nat) (cl : Nat) (vn : Nat) (vp : Nat → Int32) (vm : Nat → Int32) (np : Nat) (sl : Nat) (kd : Nat → Nat) (hg : Nat → Nat) (lk : Nat → Nat) (pp : Nat → Nat) (mm : Nat → Nat) (hnp : np ≤ 6) (hsl : sl ≤ 9) (hkd : ∀ j, kd j ≤ 2) (hhg : ∀ j, hg j ≤ 9) (hvn : vn ≤ 20) (hvp : ∀ k, k < vn → vp k = nI (pp k) ∧ pp k < np) (hvm : ∀ k, k < vn → vm k = nI (mm k) ∧ mm k ≤ 9) : Met l yX3_goodOnes wsX3_goodOnes ({ frames := 4, cells := 0, slots := 0, locals := 93 } : Room) (PcR g [.ref vo, .ref co] (wVC g vo vpa vma co ck ch cl vn vp vm np sl kd hg lk)) (vp_Si (fun r => r = nI (bset (fun k => fitb sl kd hg (pp k) (pp k) (mm k)) vn))) 0 0 (fun _ => False) := by
  refine zenterR (cc := cX3_goodOnes) (maxL := 4) (ret := (some .int)) (by decide) rfl (Nat.le_of_ble_eq_true rfl) ?_
  intro P E s mt below meth cd ls hx hb hml hown hts hr hlocks hP hK hl
  have hl : lv_has ls 4 [(0, .ref vo), (1, .ref co)] := hl
  have S0 : CallFix P mt cd cX3_goodOnes 4 s [.ref vo, .ref co].toArray wsX3_goodOnes RX3 := ⟨hx, hb, hml, hown, hts⟩
  refine lv_iconst (v := (nI 0)) hx hb dX3_goodOnes_0 (by decide) ?_
  refine lv_istore_n (lv' := [(2, .int (nI 0)), (0, .ref vo), (1, .ref co)]) hx hb dX3_goodOnes_1 rfl hl (by decide) rfl (fun ls hl => ?_)
  refine lv_iconst (v := (nI 0)) hx hb dX3_goodOnes_2 (by decide) ?_
  refine lv_istore_n (lv' := [(3, .int (nI 0)), (2, .int (nI 0)), (0, .ref vo), (1, .ref co)]) hx hb dX3_goodOnes_3 rfl hl (by decide) rfl (fun ls hl => ?_)
  have lp4 : ∀ (nn : Nat) (i : Nat) (ls : Array Slot), (vn - i) < nn → (i ≤ vn) → lv_has ls 4 [(0, .ref vo), (1, .ref co), (2, .int (nI (bset (fun k => fitb sl kd hg (pp k) (pp k) (mm k)) i))), (3, .int (nI i))] → W P l E ({ frames := 4, cells := 0, slots := 0, locals := 93 } : Room) s mt [.ref vo, .ref co].toArray below meth cd s.heap [] 0 0 (MQ below (vp_Si (fun r => r = nI (bset (fun k => fitb sl kd hg (pp k) (pp k) (mm k)) vn))) [.ref vo, .ref co].toArray s 0 0 (fun _ => False)) (F0 mt 4 ls []) := by
    intro nn
    induction nn with
    | zero => intro i ls hmu; exact absurd hmu (Nat.not_lt_zero _)
    | succ nn ih4 =>
      intro i ls hmu hi hl
      refine lv_iload_n hx hb dX3_goodOnes_4 rfl (lv_at hl 3 rfl) ?_
      refine lv_aload_n hx hb dX3_goodOnes_5 rfl (lv_at hl 0 rfl) ?_
      refine va_get (D := g.1) (ci := 3) (v := .int (nI vn)) (C := RX3) (T := TX3) (N := 3) hx hb hts (fun _ h => (List.mem_cons_of_mem _ (List.mem_append_left _ (List.mem_append_right _ h)))) hown hK.1 hP 0 rfl rfl 2 (by decide) (hts _ (List.mem_of_getElem? (i := 1) rfl)) (fun _ h9 => h9) rfl dX3_goodOnes_6 ?_
      refine n_icmp_ge (a := i) (b := vn) (tgt := 47) hx hb (by omega) (by omega) dX3_goodOnes_9 (by decide) (fun c9 => ?_) (fun c9 => ?_)
      · obtain rfl : vn = i := by omega
        refine lv_iload_n hx hb dX3_goodOnes_47 rfl (lv_at hl 2 rfl) ?_
        exact zretI hx hb hr hlocks rfl rfl dX3_goodOnes_48
      · refine lv_iload_n hx hb dX3_goodOnes_12 rfl (lv_at hl 2 rfl) ?_
        refine lv_aload_n hx hb dX3_goodOnes_13 rfl (lv_at hl 1 rfl) ?_
        refine lv_aload_n hx hb dX3_goodOnes_14 rfl (lv_at hl 0 rfl) ?_
        refine va_get (D := g.1) (ci := 3) (v := .ref vpa) (C := RX3) (T := TX3) (N := 3) hx hb hts (fun _ h => (List.mem_cons_of_mem _ (List.mem_append_left _ (List.mem_append_right _ h)))) hown hK.1 hP 0 rfl rfl 0 (by decide) (hts _ (List.mem_of_getElem? (i := 2) rfl)) (fun _ h9 => h9) rfl dX3_goodOnes_15 ?_
        refine lv_iload_n hx hb dX3_goodOnes_18 rfl (lv_at hl 3 rfl) ?_
        refine n_iald (i := i) (v := (vp i)) hx hb hK.1 hP 1 0 rfl rfl (by omega) (by decide) rfl dX3_goodOnes_19 ?_
        refine ztopI (nI (pp i)) ((hvp i (by omega)).1) ?_
        refine lv_aload_n hx hb dX3_goodOnes_20 rfl (lv_at hl 0 rfl) ?_
        refine va_get (D := g.1) (ci := 3) (v := .ref vpa) (C := RX3) (T := TX3) (N := 3) hx hb hts (fun _ h => (List.mem_cons_of_mem _ (List.mem_append_left _ (List.mem_append_right _ h)))) hown hK.1 hP 0 rfl rfl 0 (by decide) (hts _ (List.mem_of_getElem? (i := 2) rfl)) (fun _ h9 => h9) rfl dX3_goodOnes_21 ?_
        refine lv_iload_n hx hb dX3_goodOnes_24 rfl (lv_at hl 3 rfl) ?_
        refine n_iald (i := i) (v := (vp i)) hx hb hK.1 hP 1 0 rfl rfl (by omega) (by decide) rfl dX3_goodOnes_25 ?_
        refine ztopI (nI (pp i)) ((hvp i (by omega)).1) ?_
        refine lv_aload_n hx hb dX3_goodOnes_26 rfl (lv_at hl 0 rfl) ?_
        refine va_get (D := g.1) (ci := 3) (v := .ref vma) (C := RX3) (T := TX3) (N := 3) hx hb hts (fun _ h => (List.mem_cons_of_mem _ (List.mem_append_left _ (List.mem_append_right _ h)))) hown hK.1 hP 0 rfl rfl 1 (by decide) (hts _ (List.mem_of_getElem? (i := 3) rfl)) (fun _ h9 => h9) rfl dX3_goodOnes_27 ?_
        refine lv_iload_n hx hb dX3_goodOnes_30 rfl (lv_at hl 3 rfl) ?_
        refine n_iald (i := i) (v := (vm i)) hx hb hK.1 hP 2 0 rfl rfl (by omega) (by decide) rfl dX3_goodOnes_31 ?_
        refine ztopI (nI (mm i)) ((hvm i (by omega)).1) ?_
        have hPc : PP g (wC g co ck ch cl np sl kd hg lk) _ := (P_sub (w := wC g co ck ch cl np sl kd hg lk) hP [3, 4, 5, 6] rfl)
        refine zcallR (va_runV (As := [.int (nI (pp i)), .int (nI (pp i)), .int (nI (mm i))]) (rest := [.int (nI (bset (fun k => fitb sl kd hg (pp k) (pp k) (mm k)) i))]) (b := co) S0 (c_X0_doFit l g co ck ch cl np sl kd hg lk (pp i) (pp i) (mm i) hnp hsl hkd hhg ((hvp i (by omega)).2) ((hvp i (by omega)).2) ((hvm i (by omega)).2)) (cwV 3 hts gX3_goodOnes_X0_doFit rfl rfl rfl (by decide +kernel) ⟨by decide, by decide⟩) (zpreV hK hPc (va_recv hK.1 hPc (ci := 0) (q0 := 0) rfl rfl)) rfl rfl hl.1 rfl (lv_room (Nat.le_of_ble_eq_true rfl)) dX3_goodOnes_32 ⟨by decide, by decide⟩) (fun r32 h32 => ?_)
        subst h32
        have f1 := fitb_le sl kd hg (pp i) (pp i) (mm i)
        refine lv_iload_n hx hb dX3_goodOnes_35 rfl (lv_at hl 3 rfl) ?_
        refine zcallR (va_runSN (As := [.int (nI (fitb sl kd hg (pp i) (pp i) (mm i))), .int (nI i)]) (rest := [.int (nI (bset (fun k => fitb sl kd hg (pp k) (pp k) (mm k)) i))]) S0 (c_X4_bitIf l g (fitb sl kd hg (pp i) (pp i) (mm i)) i (by omega) (by omega)) ⟨va_cnB 2 hts gX3_goodOnes_X4_bitIf_n46 rfl rfl rfl hK.2.2.2.2.2.2.2 (hts _ (List.mem_of_getElem? (i := 40) rfl)) (by decide +kernel) ⟨by decide, by decide⟩, (hts _ (List.mem_of_getElem? (i := 39) rfl)), trivial⟩ (zpreS hK (P_nil _)) rfl rfl hl.1 rfl (lv_room (Nat.le_of_ble_eq_true rfl)) dX3_goodOnes_36 ⟨by decide, by decide⟩) (fun r36 h36 => ?_)
        subst h36
        have f2 := bt_ltE (fitb sl kd hg (pp i) (pp i) (mm i)) i
        refine n_ior (a := (bset (fun k => fitb sl kd hg (pp k) (pp k) (mm k)) i)) (b := (bt (fitb sl kd hg (pp i) (pp i) (mm i)) i)) hx hb dX3_goodOnes_39 ?_
        refine lv_istore_n (lv' := [(2, .int (nI ((bset (fun k => fitb sl kd hg (pp k) (pp k) (mm k)) i) ||| (bt (fitb sl kd hg (pp i) (pp i) (mm i)) i)))), (0, .ref vo), (1, .ref co), (3, .int (nI i))]) hx hb dX3_goodOnes_40 rfl hl (by decide) rfl (fun ls hl => ?_)
        refine n_iinc (a := i) (d := 1) (lv' := [(3, .int (nI (i + 1))), (2, .int (nI ((bset (fun k => fitb sl kd hg (pp k) (pp k) (mm k)) i) ||| (bt (fitb sl kd hg (pp i) (pp i) (mm i)) i)))), (0, .ref vo), (1, .ref co)]) hx hb dX3_goodOnes_41 hl (k := 3) rfl (by decide) (by decide) rfl (fun ls hl => ?_)
        refine lv_goto (tgt := 4) hx hb dX3_goodOnes_44 (by decide) ?_
        exact ih4 (i + 1)  ls (by omega) (by omega) (lv_sub hl [2, 3, 1, 0] rfl)
  exact lp4 (vn - 0 + 1) 0  ls (Nat.lt_succ_self _) (by omega) (lv_sub hl [2, 3, 1, 0] rfl)

set_option maxHeartbeats 4000000 in
set_option maxRecDepth 100000 in
theorem c_X3_onesOf (l : Launch) (g : Gx) (vo : Nat) (vpa : Nat) (vma : Nat) (vn : Nat) (vp : Nat → Int32) (vm : Nat → Int32) (p : Nat) (pp : Nat → Nat) (hvn : vn ≤ 20) (hp6 : p < 6) (hvq : ∀ k, k < vn → vp k = nI (pp k) ∧ pp k < 6) : Met l yX3_onesOf wsX3_onesOf ({ frames := 1, cells := 0, slots := 0, locals := 21 } : Room) (PcR g [.ref vo, .int (nI p)] (wV g vo vpa vma vn vp vm)) (vp_Si (fun r => r = nI (bset (fun k => b01 (pp k = p)) vn))) 0 0 (fun _ => False) := by
  refine zenterR (cc := cX3_onesOf) (maxL := 4) (ret := (some .int)) (by decide) rfl (Nat.le_of_ble_eq_true rfl) ?_
  intro P E s mt below meth cd ls hx hb hml hown hts hr hlocks hP hK hl
  have hl : lv_has ls 4 [(0, .ref vo), (1, .int (nI p))] := hl
  have S0 : CallFix P mt cd cX3_onesOf 4 s [.ref vo, .int (nI p)].toArray wsX3_onesOf RX3 := ⟨hx, hb, hml, hown, hts⟩
  refine lv_iconst (v := (nI 0)) hx hb dX3_onesOf_0 (by decide) ?_
  refine lv_istore_n (lv' := [(2, .int (nI 0)), (0, .ref vo), (1, .int (nI p))]) hx hb dX3_onesOf_1 rfl hl (by decide) rfl (fun ls hl => ?_)
  refine lv_iconst (v := (nI 0)) hx hb dX3_onesOf_2 (by decide) ?_
  refine lv_istore_n (lv' := [(3, .int (nI 0)), (2, .int (nI 0)), (0, .ref vo), (1, .int (nI p))]) hx hb dX3_onesOf_3 rfl hl (by decide) rfl (fun ls hl => ?_)
  have lp4 : ∀ (nn : Nat) (i : Nat) (ls : Array Slot), (vn - i) < nn → (i ≤ vn) → lv_has ls 4 [(0, .ref vo), (1, .int (nI p)), (2, .int (nI (bset (fun k => b01 (pp k = p)) i))), (3, .int (nI i))] → W P l E ({ frames := 1, cells := 0, slots := 0, locals := 21 } : Room) s mt [.ref vo, .int (nI p)].toArray below meth cd s.heap [] 0 0 (MQ below (vp_Si (fun r => r = nI (bset (fun k => b01 (pp k = p)) vn))) [.ref vo, .int (nI p)].toArray s 0 0 (fun _ => False)) (F0 mt 4 ls []) := by
    intro nn
    induction nn with
    | zero => intro i ls hmu; exact absurd hmu (Nat.not_lt_zero _)
    | succ nn ih4 =>
      intro i ls hmu hi hl
      refine lv_iload_n hx hb dX3_onesOf_4 rfl (lv_at hl 3 rfl) ?_
      refine lv_aload_n hx hb dX3_onesOf_5 rfl (lv_at hl 0 rfl) ?_
      refine va_get (D := g.1) (ci := 3) (v := .int (nI vn)) (C := RX3) (T := TX3) (N := 3) hx hb hts (fun _ h => (List.mem_cons_of_mem _ (List.mem_append_right _ h))) hown hK.1 hP 0 rfl rfl 2 (by decide) (hts _ (List.mem_of_getElem? (i := 1) rfl)) (fun _ h9 => h9) rfl dX3_onesOf_6 ?_
      refine n_icmp_ge (a := i) (b := vn) (tgt := 40) hx hb (by omega) (by omega) dX3_onesOf_9 (by decide) (fun c9 => ?_) (fun c9 => ?_)
      · obtain rfl : vn = i := by omega
        refine lv_iload_n hx hb dX3_onesOf_40 rfl (lv_at hl 2 rfl) ?_
        exact zretI hx hb hr hlocks rfl rfl dX3_onesOf_41
      · refine lv_iload_n hx hb dX3_onesOf_12 rfl (lv_at hl 2 rfl) ?_
        refine lv_aload_n hx hb dX3_onesOf_13 rfl (lv_at hl 0 rfl) ?_
        refine va_get (D := g.1) (ci := 3) (v := .ref vpa) (C := RX3) (T := TX3) (N := 3) hx hb hts (fun _ h => (List.mem_cons_of_mem _ (List.mem_append_right _ h))) hown hK.1 hP 0 rfl rfl 0 (by decide) (hts _ (List.mem_of_getElem? (i := 2) rfl)) (fun _ h9 => h9) rfl dX3_onesOf_14 ?_
        refine lv_iload_n hx hb dX3_onesOf_17 rfl (lv_at hl 3 rfl) ?_
        refine n_iald (i := i) (v := (vp i)) hx hb hK.1 hP 1 0 rfl rfl (by omega) (by decide) rfl dX3_onesOf_18 ?_
        refine ztopI (nI (pp i)) ((hvq i (by omega)).1) ?_
        refine lv_iload_n hx hb dX3_onesOf_19 rfl (lv_at hl 1 rfl) ?_
        refine n_icmp_ne (a := (pp i)) (b := p) (tgt := 27) hx hb (by have := (hvq i (by omega)).2; omega) (by omega) dX3_onesOf_20 (by decide) (fun c20 => ?_) (fun c20 => ?_)
        · refine lv_iconst (v := (nI 0)) hx hb dX3_onesOf_27 (by decide) ?_
          refine ztopI (nI (b01 (pp i = p))) (by rw [b01_f c20]) ?_
          refine lv_iload_n hx hb dX3_onesOf_28 rfl (lv_at hl 3 rfl) ?_
          refine zcallR (va_runSN (As := [.int (nI (b01 (pp i = p))), .int (nI i)]) (rest := [.int (nI (bset (fun k => b01 (pp k = p)) i))]) S0 (c_X4_bitIf l g (b01 (pp i = p)) i (b01_le _) (by omega)) ⟨va_cnB 2 hts gX3_onesOf_X4_bitIf_n46 rfl rfl rfl hK.2.2.2.2.2.2.2 (hts _ (List.mem_of_getElem? (i := 4) rfl)) (by decide +kernel) ⟨by decide, by decide⟩, (hts _ (List.mem_of_getElem? (i := 3) rfl)), trivial⟩ (zpreS hK (P_nil _)) rfl rfl hl.1 rfl (lv_room (Nat.le_of_ble_eq_true rfl)) dX3_onesOf_29 ⟨by decide, by decide⟩) (fun r29 h29 => ?_)
          subst h29
          have f1 := bt_ltE (b01 (pp i = p)) i
          refine n_ior (a := (bset (fun k => b01 (pp k = p)) i)) (b := (bt (b01 (pp i = p)) i)) hx hb dX3_onesOf_32 ?_
          refine lv_istore_n (lv' := [(2, .int (nI ((bset (fun k => b01 (pp k = p)) i) ||| (bt (b01 (pp i = p)) i)))), (0, .ref vo), (1, .int (nI p)), (3, .int (nI i))]) hx hb dX3_onesOf_33 rfl hl (by decide) rfl (fun ls hl => ?_)
          refine n_iinc (a := i) (d := 1) (lv' := [(3, .int (nI (i + 1))), (2, .int (nI ((bset (fun k => b01 (pp k = p)) i) ||| (bt (b01 (pp i = p)) i)))), (0, .ref vo), (1, .int (nI p))]) hx hb dX3_onesOf_34 hl (k := 3) rfl (by decide) (by decide) rfl (fun ls hl => ?_)
          refine lv_goto (tgt := 4) hx hb dX3_onesOf_37 (by decide) ?_
          exact ih4 (i + 1)  ls (by omega) (by omega) (lv_sub hl [2, 3, 1, 0] rfl)
        · refine lv_iconst (v := (nI 1)) hx hb dX3_onesOf_23 (by decide) ?_
          refine ztopI (nI (b01 (pp i = p))) (by rw [b01_t c20]) ?_
          refine lv_goto (tgt := 28) hx hb dX3_onesOf_24 (by decide) ?_
          refine lv_iload_n hx hb dX3_onesOf_28 rfl (lv_at hl 3 rfl) ?_
          refine zcallR (va_runSN (As := [.int (nI (b01 (pp i = p))), .int (nI i)]) (rest := [.int (nI (bset (fun k => b01 (pp k = p)) i))]) S0 (c_X4_bitIf l g (b01 (pp i = p)) i (b01_le _) (by omega)) ⟨va_cnB 2 hts gX3_onesOf_X4_bitIf_n46 rfl rfl rfl hK.2.2.2.2.2.2.2 (hts _ (List.mem_of_getElem? (i := 4) rfl)) (by decide +kernel) ⟨by decide, by decide⟩, (hts _ (List.mem_of_getElem? (i := 3) rfl)), trivial⟩ (zpreS hK (P_nil _)) rfl rfl hl.1 rfl (lv_room (Nat.le_of_ble_eq_true rfl)) dX3_onesOf_29 ⟨by decide, by decide⟩) (fun r29 h29 => ?_)
          subst h29
          have f2 := bt_ltE (b01 (pp i = p)) i
          refine n_ior (a := (bset (fun k => b01 (pp k = p)) i)) (b := (bt (b01 (pp i = p)) i)) hx hb dX3_onesOf_32 ?_
          refine lv_istore_n (lv' := [(2, .int (nI ((bset (fun k => b01 (pp k = p)) i) ||| (bt (b01 (pp i = p)) i)))), (0, .ref vo), (1, .int (nI p)), (3, .int (nI i))]) hx hb dX3_onesOf_33 rfl hl (by decide) rfl (fun ls hl => ?_)
          refine n_iinc (a := i) (d := 1) (lv' := [(3, .int (nI (i + 1))), (2, .int (nI ((bset (fun k => b01 (pp k = p)) i) ||| (bt (b01 (pp i = p)) i)))), (0, .ref vo), (1, .int (nI p))]) hx hb dX3_onesOf_34 hl (k := 3) rfl (by decide) (by decide) rfl (fun ls hl => ?_)
          refine lv_goto (tgt := 4) hx hb dX3_onesOf_37 (by decide) ?_
          exact ih4 (i + 1)  ls (by omega) (by omega) (lv_sub hl [2, 3, 1, 0] rfl)
  exact lp4 (vn - 0 + 1) 0  ls (Nat.lt_succ_self _) (by omega) (lv_sub hl [2, 3, 1, 0] rfl)
