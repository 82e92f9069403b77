abbrev wC (g : Gx) (co ck ch cl : Nat) (np sl : Nat) (kd hg lk : Nat → Nat) : va_W := [(co, .inr (0, [.ref ck, .ref ch, .ref cl, .int (nI np), .int (nI sl)])), (ck, .inl (gI g, 6, .inl (fun j => nI (kd j)))), (ch, .inl (gI g, 18, .inl (fun j => nI (hg j)))), (cl, .inl (gI g, 6, .inl (fun j => nI (lk j))))]
theorem ad_wC {g : Gx} {co : Nat} {ck : Nat} {ch : Nat} {cl : Nat} {np : Nat} {sl : Nat} {kd : Nat → Nat} {hg : Nat → Nat} {lk : Nat → Nat} : (wC g co ck ch cl np sl kd hg lk).map (fun x => x.1) = [co, ck, ch, cl] := rfl
theorem lz_wC {g : Gx} {co : Nat} {ck : Nat} {ch : Nat} {cl : Nat} {np : Nat} {sl : Nat} {kd : Nat → Nat} {hg : Nat → Nat} {lk : Nat → Nat} : (wC g co ck ch cl np sl kd hg lk).length = 4 := rfl
set_option maxHeartbeats 4000000 in
set_option maxRecDepth 100000 in
theorem c_X4_within (l : Launch) (g : Gx) (v : Int32) (a : Int32) (b : Int32) : Met l yX4_within wsX4_within ({ frames := 0, cells := 0, slots := 0, locals := 0 } : Room) (PcR g [.int v, .int a, .int b] (([] : va_W))) (vp_Si (fun r => r = nI (b01 (a ≤ v ∧ v ≤ b)))) 0 0 (fun _ => False) := by
  refine zenterR (cc := cX4_within) (maxL := 3) (ret := (some .boolean)) (by decide) rfl (Nat.le_of_ble_eq_true rfl) ?_
  intro P E s mt below meth cd ls hx hb hml hown hts hr hlocks hP hK hl
  have hl : lv_has ls 3 [(0, .int v), (1, .int a), (2, .int b)] := hl
  have S0 : CallFix P mt cd cX4_within 3 s [.int v, .int a, .int b].toArray wsX4_within RX4 := ⟨hx, hb, hml, hown, hts⟩
  refine lv_iload_n hx hb dX4_within_0 rfl (lv_at hl 0 rfl) ?_
  refine lv_iload_n hx hb dX4_within_1 rfl (lv_at hl 1 rfl) ?_
  refine lv_icmp_lt (tgt := 14) hx hb dX4_within_2 (by decide) (fun c2 => ?_) (fun c2 => ?_)
  · refine lv_iconst (v := (nI 0)) hx hb dX4_within_14 (by decide) ?_
    exact zretI hx hb hr hlocks rfl (by rw [b01_f (fun z => absurd z.1 (i_nle.mpr c2))]) dX4_within_15
  · refine lv_iload_n hx hb dX4_within_5 rfl (lv_at hl 0 rfl) ?_
    refine lv_iload_n hx hb dX4_within_6 rfl (lv_at hl 2 rfl) ?_
    refine lv_icmp_gt (tgt := 14) hx hb dX4_within_7 (by decide) (fun c7 => ?_) (fun c7 => ?_)
    · refine lv_iconst (v := (nI 0)) hx hb dX4_within_14 (by decide) ?_
      exact zretI hx hb hr hlocks rfl (by rw [b01_f (fun z => absurd z.2 (i_nle.mpr c7))]) dX4_within_15
    · refine lv_iconst (v := (nI 1)) hx hb dX4_within_10 (by decide) ?_
      refine lv_goto (tgt := 15) hx hb dX4_within_11 (by decide) ?_
      exact zretI hx hb hr hlocks rfl (by rw [b01_t ⟨i_nlt.mp c2, i_nlt.mp c7⟩]) dX4_within_15

set_option maxHeartbeats 4000000 in
set_option maxRecDepth 100000 in
theorem c_X4_isMonths (l : Launch) (g : Gx) (v : Int32) : Met l yX4_isMonths wsX4_isMonths ({ frames := 1, cells := 0, slots := 0, locals := 22 } : Room) (PcR g [.int v] (([] : va_W))) (vp_Si (fun r => (∃ w, w < 10 ∧ v = nI w ∧ r = nI 1) ∨ (¬ isP 10 v ∧ r = nI 0))) 0 0 (fun _ => False) := by
  refine zenterR (cc := cX4_isMonths) (maxL := 1) (ret := (some .boolean)) (by decide) rfl (Nat.le_of_ble_eq_true rfl) ?_
  intro P E s mt below meth cd ls hx hb hml hown hts hr hlocks hP hK hl
  have hl : lv_has ls 1 [(0, .int v)] := hl
  have S0 : CallFix P mt cd cX4_isMonths 1 s [.int v].toArray wsX4_isMonths RX4 := ⟨hx, hb, hml, hown, hts⟩
  refine lv_iload_n hx hb dX4_isMonths_0 rfl (lv_at hl 0 rfl) ?_
  refine lv_iconst (v := (nI 0)) hx hb dX4_isMonths_1 (by decide) ?_
  refine lv_bipush (v := (nI 9)) hx hb dX4_isMonths_2 (by decide) ?_
  refine zcallR (va_runS (As := [.int v, .int (nI 0), .int (nI 9)]) (rest := []) S0 (c_X4_within l g v (nI 0) (nI 9)) (va_cwS 3 hts gX4_isMonths_X4_within rfl rfl rfl (by decide +kernel) ⟨by decide, by decide⟩) (zpreS hK (P_nil _)) rfl rfl hl.1 rfl (lv_room (Nat.le_of_ble_eq_true rfl)) dX4_isMonths_4 ⟨by decide, by decide⟩) (fun r4 h4 => ?_)
  subst h4
  exact zretI hx hb hr hlocks (nar_b (b01_le _)) (rng_post 9 (by decide) v) dX4_isMonths_7

set_option maxHeartbeats 4000000 in
set_option maxRecDepth 100000 in
theorem c_X4_bitIf (l : Launch) (g : Gx) (b : Nat) (k : Nat) (hb1 : b ≤ 1) (hk : k < 31) : Met l yX4_bitIf wsX4_bitIf ({ frames := 0, cells := 0, slots := 0, locals := 0 } : Room) (PcR g [.int (nI b), .int (nI k)] (([] : va_W))) (vp_Si (fun r => r = nI (bt b k))) 0 0 (fun _ => False) := by
  refine zenterR (cc := cX4_bitIf) (maxL := 2) (ret := (some .int)) (by decide) rfl (Nat.le_of_ble_eq_true rfl) ?_
  intro P E s mt below meth cd ls hx hb hml hown hts hr hlocks hP hK hl
  have hl : lv_has ls 2 [(0, .int (nI b)), (1, .int (nI k))] := hl
  have S0 : CallFix P mt cd cX4_bitIf 2 s [.int (nI b), .int (nI k)].toArray wsX4_bitIf RX4 := ⟨hx, hb, hml, hown, hts⟩
  refine lv_iload_n hx hb dX4_bitIf_0 rfl (lv_at hl 0 rfl) ?_
  refine n_if_eq (a := b) (tgt := 10) hx hb (by omega) dX4_bitIf_1 (by decide) (fun c1 => ?_) (fun c1 => ?_)
  · refine lv_iconst (v := (nI 0)) hx hb dX4_bitIf_10 (by decide) ?_
    exact zretI hx hb hr hlocks rfl (by rw [bt, if_pos c1]) dX4_bitIf_11
  · refine lv_iconst (v := (nI 1)) hx hb dX4_bitIf_4 (by decide) ?_
    refine lv_iload_n hx hb dX4_bitIf_5 rfl (lv_at hl 1 rfl) ?_
    refine n_ishl1 (n := k) hx hb (by omega) dX4_bitIf_6 ?_
    refine lv_goto (tgt := 11) hx hb dX4_bitIf_7 (by decide) ?_
    exact zretI hx hb hr hlocks rfl (by rw [bt, if_neg c1]) dX4_bitIf_11

set_option maxHeartbeats 4000000 in
set_option maxRecDepth 100000 in
theorem c_X0_hasPass (l : Launch) (g : Gx) (co : Nat) (ck : Nat) (ch : Nat) (cl : Nat) (np : Nat) (sl : Nat) (kd : Nat → Nat) (hg : Nat → Nat) (lk : Nat → Nat) (p : Int32) (hnp : np ≤ 6) : Met l yX0_hasPass wsX0_hasPass ({ frames := 0, cells := 0, slots := 0, locals := 0 } : Room) (PcR g [.ref co, .int p] (wC g co ck ch cl np sl kd hg lk)) (vp_Si (fun r => (∃ u, u < np ∧ p = nI u ∧ r = nI 1) ∨ (¬ isP np p ∧ r = nI 0))) 0 0 (fun _ => False) := by
  refine zenterR (cc := cX0_hasPass) (maxL := 2) (ret := (some .boolean)) (by decide) rfl (Nat.le_of_ble_eq_true rfl) ?_
  intro P E s mt below meth cd ls hx hb hml hown hts hr hlocks hP hK hl
  have hl : lv_has ls 2 [(0, .ref co), (1, .int p)] := hl
  have S0 : CallFix P mt cd cX0_hasPass 2 s [.ref co, .int p].toArray wsX0_hasPass RX0 := ⟨hx, hb, hml, hown, hts⟩
  refine lv_iload_n hx hb dX0_hasPass_0 rfl (lv_at hl 1 rfl) ?_
  refine lv_if_lt (tgt := 16) hx hb dX0_hasPass_1 (by decide) (fun c1 => ?_) (fun c1 => ?_)
  · refine lv_iconst (v := (nI 0)) hx hb dX0_hasPass_16 (by decide) ?_
    exact zretI hx hb hr hlocks rfl (Or.inr ⟨fun z => z.1 c1, rfl⟩) dX0_hasPass_17
  · refine lv_iload_n hx hb dX0_hasPass_4 rfl (lv_at hl 1 rfl) ?_
    refine lv_aload_n hx hb dX0_hasPass_5 rfl (lv_at hl 0 rfl) ?_
    refine va_get (D := g.1) (ci := 0) (v := .int (nI np)) (C := RX0) (T := TX0) (N := 5) hx hb hts (fun _ h => (List.mem_cons_of_mem _ (List.mem_append_right _ h))) hown hK.1 hP 0 rfl rfl 3 (by decide) (hts _ (List.mem_of_getElem? (i := 1) rfl)) (fun _ h9 => h9) rfl dX0_hasPass_6 ?_
    refine lv_icmp_ge (tgt := 16) hx hb dX0_hasPass_9 (by decide) (fun c9 => ?_) (fun c9 => ?_)
    · refine lv_iconst (v := (nI 0)) hx hb dX0_hasPass_16 (by decide) ?_
      exact zretI hx hb hr hlocks rfl (Or.inr ⟨fun z => absurd z.2 (i_nlt.mpr c9), rfl⟩) dX0_hasPass_17
    · refine lv_iconst (v := (nI 1)) hx hb dX0_hasPass_12 (by decide) ?_
      refine lv_goto (tgt := 17) hx hb dX0_hasPass_13 (by decide) ?_
      exact zretI hx hb hr hlocks rfl (by obtain ⟨u, h1, h2⟩ := nI_btl (n := np) (by omega) c1 (i_nle.mp c9); exact Or.inl ⟨u, h1, h2, rfl⟩) dX0_hasPass_17

set_option maxHeartbeats 4000000 in
set_option maxRecDepth 100000 in
theorem c_X0_hasPass_in (l : Launch) (g : Gx) (co : Nat) (ck : Nat) (ch : Nat) (cl : Nat) (np : Nat) (sl : Nat) (kd : Nat → Nat) (hg : Nat → Nat) (lk : Nat → Nat) (u : Nat) (hnp : np ≤ 6) (hu : u < np) : Met l yX0_hasPass wsX0_hasPass ({ frames := 0, cells := 0, slots := 0, locals := 0 } : Room) (PcR g [.ref co, .int (nI u)] (wC g co ck ch cl np sl kd hg lk)) (vp_Si (fun r => r = nI 1)) 0 0 (fun _ => False) := by
  refine zenterR (cc := cX0_hasPass) (maxL := 2) (ret := (some .boolean)) (by decide) rfl (Nat.le_of_ble_eq_true rfl) ?_
  intro P E s mt below meth cd ls hx hb hml hown hts hr hlocks hP hK hl
  have hl : lv_has ls 2 [(0, .ref co), (1, .int (nI u))] := hl
  have S0 : CallFix P mt cd cX0_hasPass 2 s [.ref co, .int (nI u)].toArray wsX0_hasPass RX0 := ⟨hx, hb, hml, hown, hts⟩
  refine lv_iload_n hx hb dX0_hasPass_0 rfl (lv_at hl 1 rfl) ?_
  refine n_if_lt (a := u) hx hb (by omega) dX0_hasPass_1 16 (by decide) ?_
  refine lv_iload_n hx hb dX0_hasPass_4 rfl (lv_at hl 1 rfl) ?_
  refine lv_aload_n hx hb dX0_hasPass_5 rfl (lv_at hl 0 rfl) ?_
  refine va_get (D := g.1) (ci := 0) (v := .int (nI np)) (C := RX0) (T := TX0) (N := 5) hx hb hts (fun _ h => (List.mem_cons_of_mem _ (List.mem_append_right _ h))) hown hK.1 hP 0 rfl rfl 3 (by decide) (hts _ (List.mem_of_getElem? (i := 1) rfl)) (fun _ h9 => h9) rfl dX0_hasPass_6 ?_
  refine n_icmp_ge (a := u) (b := np) (tgt := 16) hx hb (by omega) (by omega) dX0_hasPass_9 (by decide) (fun c9 => ?_) (fun c9 => ?_)
  · exact absurd hu (by omega)
  · refine lv_iconst (v := (nI 1)) hx hb dX0_hasPass_12 (by decide) ?_
    refine lv_goto (tgt := 17) hx hb dX0_hasPass_13 (by decide) ?_
    exact zretI hx hb hr hlocks rfl (by rfl) dX0_hasPass_17

set_option maxHeartbeats 4000000 in
set_option maxRecDepth 100000 in
theorem c_X0_stands (l : Launch) (g : Gx) (co : Nat) (ck : Nat) (ch : Nat) (cl : Nat) (np : Nat) (sl : Nat) (kd : Nat → Nat) (hg : Nat → Nat) (lk : Nat → Nat) (hnp : np ≤ 6) : Met l yX0_stands wsX0_stands ({ frames := 0, cells := 0, slots := 0, locals := 0 } : Room) (PcR g [.ref co] (wC g co ck ch cl np sl kd hg lk)) (vp_Si (fun r => r = nI (b01 (0 < np)))) 0 0 (fun _ => False) := by
  refine zenterR (cc := cX0_stands) (maxL := 1) (ret := (some .boolean)) (by decide) rfl (Nat.le_of_ble_eq_true rfl) ?_
  intro P E s mt below meth cd ls hx hb hml hown hts hr hlocks hP hK hl
  have hl : lv_has ls 1 [(0, .ref co)] := hl
  have S0 : CallFix P mt cd cX0_stands 1 s [.ref co].toArray wsX0_stands RX0 := ⟨hx, hb, hml, hown, hts⟩
  refine lv_aload_n hx hb dX0_stands_0 rfl (lv_at hl 0 rfl) ?_
  refine va_get (D := g.1) (ci := 0) (v := .int (nI np)) (C := RX0) (T := TX0) (N := 5) hx hb hts (fun _ h => (List.mem_cons_of_mem _ (List.mem_append_right _ h))) hown hK.1 hP 0 rfl rfl 3 (by decide) (hts _ (List.mem_of_getElem? (i := 1) rfl)) (fun _ h9 => h9) rfl dX0_stands_1 ?_
  refine n_if_le (a := np) (tgt := 11) hx hb (by omega) dX0_stands_4 (by decide) (fun c4 => ?_) (fun c4 => ?_)
  · refine lv_iconst (v := (nI 0)) hx hb dX0_stands_11 (by decide) ?_
    exact zretI hx hb hr hlocks rfl (by rw [b01_f (by omega)]) dX0_stands_12
  · refine lv_iconst (v := (nI 1)) hx hb dX0_stands_7 (by decide) ?_
    refine lv_goto (tgt := 12) hx hb dX0_stands_8 (by decide) ?_
    exact zretI hx hb hr hlocks rfl (by rw [b01_t c4]) dX0_stands_12

set_option maxHeartbeats 4000000 in
set_option maxRecDepth 100000 in
theorem c_X0_howMany (l : Launch) (g : Gx) (co : Nat) (ck : Nat) (ch : Nat) (cl : Nat) (np : Nat) (sl : Nat) (kd : Nat → Nat) (hg : Nat → Nat) (lk : Nat → Nat) : Met l yX0_howMany wsX0_howMany ({ frames := 0, cells := 0, slots := 0, locals := 0 } : Room) (PcR g [.ref co] (wC g co ck ch cl np sl kd hg lk)) (vp_Si (fun r => r = nI np)) 0 0 (fun _ => False) := by
  refine zenterR (cc := cX0_howMany) (maxL := 1) (ret := (some .int)) (by decide) rfl (Nat.le_of_ble_eq_true rfl) ?_
  intro P E s mt below meth cd ls hx hb hml hown hts hr hlocks hP hK hl
  have hl : lv_has ls 1 [(0, .ref co)] := hl
  have S0 : CallFix P mt cd cX0_howMany 1 s [.ref co].toArray wsX0_howMany RX0 := ⟨hx, hb, hml, hown, hts⟩
  refine lv_aload_n hx hb dX0_howMany_0 rfl (lv_at hl 0 rfl) ?_
  refine va_get (D := g.1) (ci := 0) (v := .int (nI np)) (C := RX0) (T := TX0) (N := 5) hx hb hts (fun _ h => (List.mem_cons_of_mem _ (List.mem_append_right _ h))) hown hK.1 hP 0 rfl rfl 3 (by decide) (hts _ (List.mem_of_getElem? (i := 1) rfl)) (fun _ h9 => h9) rfl dX0_howMany_1 ?_
  exact zretI hx hb hr hlocks rfl (by rfl) dX0_howMany_4

set_option maxHeartbeats 4000000 in
set_option maxRecDepth 100000 in
theorem c_X0_slackNow (l : Launch) (g : Gx) (co : Nat) (ck : Nat) (ch : Nat) (cl : Nat) (np : Nat) (sl : Nat) (kd : Nat → Nat) (hg : Nat → Nat) (lk : Nat → Nat) : Met l yX0_slackNow wsX0_slackNow ({ frames := 0, cells := 0, slots := 0, locals := 0 } : Room) (PcR g [.ref co] (wC g co ck ch cl np sl kd hg lk)) (vp_Si (fun r => r = nI sl)) 0 0 (fun _ => False) := by
  refine zenterR (cc := cX0_slackNow) (maxL := 1) (ret := (some .int)) (by decide) rfl (Nat.le_of_ble_eq_true rfl) ?_
  intro P E s mt below meth cd ls hx hb hml hown hts hr hlocks hP hK hl
  have hl : lv_has ls 1 [(0, .ref co)] := hl
  have S0 : CallFix P mt cd cX0_slackNow 1 s [.ref co].toArray wsX0_slackNow RX0 := ⟨hx, hb, hml, hown, hts⟩
  refine lv_aload_n hx hb dX0_slackNow_0 rfl (lv_at hl 0 rfl) ?_
  refine va_get (D := g.1) (ci := 0) (v := .int (nI sl)) (C := RX0) (T := TX0) (N := 5) hx hb hts (fun _ h => (List.mem_cons_of_mem _ (List.mem_append_right _ h))) hown hK.1 hP 0 rfl rfl 4 (by decide) (hts _ (List.mem_of_getElem? (i := 1) rfl)) (fun _ h9 => h9) rfl dX0_slackNow_1 ?_
  exact zretI hx hb hr hlocks rfl (by rfl) dX0_slackNow_4

set_option maxHeartbeats 4000000 in
set_option maxRecDepth 100000 in
theorem c_X0_allPasses (l : Launch) (g : Gx) (co : Nat) (ck : Nat) (ch : Nat) (cl : Nat) (np : Nat) (sl : Nat) (kd : Nat → Nat) (hg : Nat → Nat) (lk : Nat → Nat) (hnp : np ≤ 6) : Met l yX0_allPasses wsX0_allPasses ({ frames := 0, cells := 0, slots := 0, locals := 0 } : Room) (PcR g [.ref co] (wC g co ck ch cl np sl kd hg lk)) (vp_Si (fun r => r = nI (2 ^ np - 1))) 0 0 (fun _ => False) := by
  refine zenterR (cc := cX0_allPasses) (maxL := 1) (ret := (some .int)) (by decide) rfl (Nat.le_of_ble_eq_true rfl) ?_
  intro P E s mt below meth cd ls hx hb hml hown hts hr hlocks hP hK hl
  have hl : lv_has ls 1 [(0, .ref co)] := hl
  have S0 : CallFix P mt cd cX0_allPasses 1 s [.ref co].toArray wsX0_allPasses RX0 := ⟨hx, hb, hml, hown, hts⟩
  refine lv_iconst (v := (nI 1)) hx hb dX0_allPasses_0 (by decide) ?_
  refine lv_aload_n hx hb dX0_allPasses_1 rfl (lv_at hl 0 rfl) ?_
  refine va_get (D := g.1) (ci := 0) (v := .int (nI np)) (C := RX0) (T := TX0) (N := 5) hx hb hts (fun _ h => (List.mem_cons_of_mem _ (List.mem_append_right _ h))) hown hK.1 hP 0 rfl rfl 3 (by decide) (hts _ (List.mem_of_getElem? (i := 1) rfl)) (fun _ h9 => h9) rfl dX0_allPasses_2 ?_
  refine n_ishl1 (n := np) hx hb (by omega) dX0_allPasses_5 ?_
  refine lv_iconst (v := (nI 1)) hx hb dX0_allPasses_6 (by decide) ?_
  refine n_isub (a := (2 ^ np)) (b := 1) hx hb (Nat.one_le_two_pow) dX0_allPasses_7 ?_
  exact zretI hx hb hr hlocks rfl (by rfl) dX0_allPasses_8

set_option maxHeartbeats 4000000 in
set_option maxRecDepth 100000 in
theorem c_X0_isSet (l : Launch) (g : Gx) (co : Nat) (ck : Nat) (ch : Nat) (cl : Nat) (np : Nat) (sl : Nat) (kd : Nat → Nat) (hg : Nat → Nat) (lk : Nat → Nat) (set : Int32) (hnp : np ≤ 6) : Met l yX0_isSet wsX0_isSet ({ frames := 1, cells := 0, slots := 0, locals := 20 } : Room) (PcR g [.ref co, .int set] (wC g co ck ch cl np sl kd hg lk)) (vp_Si (fun r => (∃ b, b < 2 ^ np ∧ set = nI b ∧ r = nI 1) ∨ (¬ isP (2 ^ np) set ∧ r = nI 0))) 0 0 (fun _ => False) := by
  refine zenterR (cc := cX0_isSet) (maxL := 2) (ret := (some .boolean)) (by decide) rfl (Nat.le_of_ble_eq_true rfl) ?_
  intro P E s mt below meth cd ls hx hb hml hown hts hr hlocks hP hK hl
  have hl : lv_has ls 2 [(0, .ref co), (1, .int set)] := hl
  have S0 : CallFix P mt cd cX0_isSet 2 s [.ref co, .int set].toArray wsX0_isSet RX0 := ⟨hx, hb, hml, hown, hts⟩
  refine lv_iload_n hx hb dX0_isSet_0 rfl (lv_at hl 1 rfl) ?_
  refine lv_if_lt (tgt := 16) hx hb dX0_isSet_1 (by decide) (fun c1 => ?_) (fun c1 => ?_)
  · refine lv_iconst (v := (nI 0)) hx hb dX0_isSet_16 (by decide) ?_
    exact zretI hx hb hr hlocks rfl (Or.inr ⟨fun z => z.1 c1, rfl⟩) dX0_isSet_17
  · refine lv_iload_n hx hb dX0_isSet_4 rfl (lv_at hl 1 rfl) ?_
    refine lv_aload_n hx hb dX0_isSet_5 rfl (lv_at hl 0 rfl) ?_
    have hPc : PP g (wC g co ck ch cl np sl kd hg lk) _ := hP
    refine zcallR (va_runV (As := []) (rest := [.int set]) (b := co) S0 (c_X0_allPasses l g co ck ch cl np sl kd hg lk hnp) (cwV 0 hts gX0_isSet_X0_allPasses rfl rfl rfl (by decide +kernel) ⟨by decide, by decide⟩) (zpreV hK hPc (va_recv hK.1 hPc (ci := 0) (q0 := 0) rfl rfl)) rfl rfl hl.1 rfl (lv_room (Nat.le_of_ble_eq_true rfl)) dX0_isSet_6 ⟨by decide, by decide⟩) (fun r6 h6 => ?_)
    subst h6
    have f1 := (pow_le64 hnp)
    refine lv_icmp_gt (tgt := 16) hx hb dX0_isSet_9 (by decide) (fun c9 => ?_) (fun c9 => ?_)
    · refine lv_iconst (v := (nI 0)) hx hb dX0_isSet_16 (by decide) ?_
      exact zretI hx hb hr hlocks rfl (Or.inr ⟨fun z => isSet_no hnp c9 z, rfl⟩) dX0_isSet_17
    · refine lv_iconst (v := (nI 1)) hx hb dX0_isSet_12 (by decide) ?_
      refine lv_goto (tgt := 17) hx hb dX0_isSet_13 (by decide) ?_
      exact zretI hx hb hr hlocks rfl (isSet_yes hnp c1 c9) dX0_isSet_17

set_option maxHeartbeats 4000000 in
set_option maxRecDepth 100000 in
theorem c_X0_setSlack (l : Launch) (g : Gx) (co : Nat) (ck : Nat) (ch : Nat) (cl : Nat) (np : Nat) (sl : Nat) (kd : Nat → Nat) (hg : Nat → Nat) (lk : Nat → Nat) (v : Nat) : Met l yX0_setSlack wsX0_setSlack ({ frames := 0, cells := 0, slots := 0, locals := 0 } : Room) (PcM g [.ref co, .int (nI v)] (wC g co ck ch cl np sl kd hg lk)) (va_Qv (fun (uu : Unit) => True) (fun (uu : Unit) t => PP g (wC g co ck ch cl np v kd hg lk) t.heap) (inW (wC g co ck ch cl np sl kd hg lk))) 0 0 (inW (wC g co ck ch cl np sl kd hg lk)) := by
  refine zenterM (cc := cX0_setSlack) (maxL := 2) (ret := none) (by decide) rfl (Nat.le_of_ble_eq_true rfl) ?_
  intro P E s mt below meth cd ls hx hb hml hown hts hr hlocks hP hK hD hS hl
  skip
  have hl : lv_has ls 2 [(0, .ref co), (1, .int (nI v))] := hl
  have S0 : CallFix P mt cd cX0_setSlack 2 s [.ref co, .int (nI v)].toArray wsX0_setSlack RX0 := ⟨hx, hb, hml, hown, hts⟩
  refine lv_aload_n hx hb dX0_setSlack_0 rfl (lv_at hl 0 rfl) ?_
  refine lv_iload_n hx hb dX0_setSlack_1 rfl (lv_at hl 1 rfl) ?_
  refine n_put (D := g.1) (ci := 0) (v := .int (nI v)) (ty := .int) (C := RX0) (T := TX0) (N := 5) (ws1 := wC g co ck ch cl np v kd hg lk) hx hb hts (fun _ h => (List.mem_cons_of_mem _ (List.mem_append_right _ h))) tyX0 tyX0_ok nmX0 hown hK.1 hP hD hS 0 rfl rfl 4 (by decide) (hts _ (List.mem_of_getElem? (i := 1) rfl)) (fun _ h9 => h9) rfl (by decide +kernel) rfl rfl (Nat.le_of_ble_eq_true rfl) rfl dX0_setSlack_2 (fun H locs hP hD hS => ?_)
  exact zretMV (w1 := fun (uu : Unit) => wC g co ck ch cl np v kd hg lk) () hx hb hr hlocks hS trivial hP dX0_setSlack_5

set_option maxHeartbeats 4000000 in
set_option maxRecDepth 100000 in
theorem c_X0_kindOf (l : Launch) (g : Gx) (co : Nat) (ck : Nat) (ch : Nat) (cl : Nat) (np : Nat) (sl : Nat) (kd : Nat → Nat) (hg : Nat → Nat) (lk : Nat → Nat) (u : Nat) (hnp : np ≤ 6) (hu : u < np) : Met l yX0_kindOf wsX0_kindOf ({ frames := 1, cells := 0, slots := 0, locals := 21 } : Room) (PcR g [.ref co, .int (nI u)] (wC g co ck ch cl np sl kd hg lk)) (vp_Si (fun r => r = nI (kd u))) 0 0 (fun _ => False) := by
  refine zenterR (cc := cX0_kindOf) (maxL := 2) (ret := (some .int)) (by decide) rfl (Nat.le_of_ble_eq_true rfl) ?_
  intro P E s mt below meth cd ls hx hb hml hown hts hr hlocks hP hK hl
  have hl : lv_has ls 2 [(0, .ref co), (1, .int (nI u))] := hl
  have S0 : CallFix P mt cd cX0_kindOf 2 s [.ref co, .int (nI u)].toArray wsX0_kindOf RX0 := ⟨hx, hb, hml, hown, hts⟩
  refine lv_aload_n hx hb dX0_kindOf_0 rfl (lv_at hl 0 rfl) ?_
  refine lv_iload_n hx hb dX0_kindOf_1 rfl (lv_at hl 1 rfl) ?_
  have hPc : PP g (wC g co ck ch cl np sl kd hg lk) _ := hP
  refine zcallR (va_runV (As := [.int (nI u)]) (rest := []) (b := co) S0 (c_X0_hasPass_in l g co ck ch cl np sl kd hg lk u hnp (by omega)) (cwV 1 hts gX0_kindOf_X0_hasPass rfl rfl rfl (by decide +kernel) ⟨by decide, by decide⟩) (zpreV hK hPc (va_recv hK.1 hPc (ci := 0) (q0 := 0) rfl rfl)) rfl rfl hl.1 rfl (lv_room (Nat.le_of_ble_eq_true rfl)) dX0_kindOf_2 ⟨by decide, by decide⟩) (fun r2 h2 => ?_)
  subst h2
  refine lv_if_eq (tgt := 17) hx hb dX0_kindOf_5 (by decide) (fun c5 => ?_) (fun c5 => ?_)
  · exact absurd c5 (by decide)
  refine lv_aload_n hx hb dX0_kindOf_8 rfl (lv_at hl 0 rfl) ?_
  refine va_get (D := g.1) (ci := 0) (v := .ref ck) (C := RX0) (T := TX0) (N := 5) hx hb hts (fun _ h => (List.mem_cons_of_mem _ (List.mem_append_right _ h))) hown hK.1 hP 0 rfl rfl 0 (by decide) (hts _ (List.mem_of_getElem? (i := 1) rfl)) (fun _ h9 => h9) rfl dX0_kindOf_9 ?_
  refine lv_iload_n hx hb dX0_kindOf_12 rfl (lv_at hl 1 rfl) ?_
  refine n_iald (i := u) (v := (nI (kd u))) hx hb hK.1 hP 1 0 rfl rfl (by omega) (by decide) rfl dX0_kindOf_13 ?_
  refine lv_goto (tgt := 18) hx hb dX0_kindOf_14 (by decide) ?_
  exact zretI hx hb hr hlocks rfl (by rfl) dX0_kindOf_18

set_option maxHeartbeats 4000000 in
set_option maxRecDepth 100000 in
theorem c_X0_setKind (l : Launch) (g : Gx) (co : Nat) (ck : Nat) (ch : Nat) (cl : Nat) (np : Nat) (sl : Nat) (kd : Nat → Nat) (hg : Nat → Nat) (lk : Nat → Nat) (u : Nat) (v : Nat) (hnp : np ≤ 6) (hu : u < np) : Met l yX0_setKind wsX0_setKind ({ frames := 1, cells := 0, slots := 0, locals := 21 } : Room) (PcM g [.ref co, .int (nI u), .int (nI v)] (wC g co ck ch cl np sl kd hg lk)) (va_Qv (fun (uu : Unit) => True) (fun (uu : Unit) t => PP g (wC g co ck ch cl np sl (va_up kd u v) hg lk) t.heap) (inW (wC g co ck ch cl np sl kd hg lk))) 0 0 (inW (wC g co ck ch cl np sl kd hg lk)) := by
  refine zenterM (cc := cX0_setKind) (maxL := 3) (ret := none) (by decide) rfl (Nat.le_of_ble_eq_true rfl) ?_
  intro P E s mt below meth cd ls hx hb hml hown hts hr hlocks hP hK hD hS hl
  skip
  have hl : lv_has ls 3 [(0, .ref co), (1, .int (nI u)), (2, .int (nI v))] := hl
  have S0 : CallFix P mt cd cX0_setKind 3 s [.ref co, .int (nI u), .int (nI v)].toArray wsX0_setKind RX0 := ⟨hx, hb, hml, hown, hts⟩
  refine lv_aload_n hx hb dX0_setKind_0 rfl (lv_at hl 0 rfl) ?_
  refine lv_iload_n hx hb dX0_setKind_1 rfl (lv_at hl 1 rfl) ?_
  have hPc : PP g (wC g co ck ch cl np sl kd hg lk) _ := hP
  refine zcallR (va_runV (As := [.int (nI u)]) (rest := []) (b := co) S0 (c_X0_hasPass_in l g co ck ch cl np sl kd hg lk u hnp (by omega)) (cwV 1 hts gX0_setKind_X0_hasPass rfl rfl rfl (by decide +kernel) ⟨by decide, by decide⟩) (zpreV hK hPc (va_recv hK.1 hPc (ci := 0) (q0 := 0) rfl rfl)) rfl rfl hl.1 rfl (lv_room (Nat.le_of_ble_eq_true rfl)) dX0_setKind_2 ⟨by decide, by decide⟩) (fun r2 h2 => ?_)
  subst h2
  refine lv_if_eq (tgt := 15) hx hb dX0_setKind_5 (by decide) (fun c5 => ?_) (fun c5 => ?_)
  · exact absurd c5 (by decide)
  refine lv_aload_n hx hb dX0_setKind_8 rfl (lv_at hl 0 rfl) ?_
  refine va_get (D := g.1) (ci := 0) (v := .ref ck) (C := RX0) (T := TX0) (N := 5) hx hb hts (fun _ h => (List.mem_cons_of_mem _ (List.mem_append_right _ h))) hown hK.1 hP 0 rfl rfl 0 (by decide) (hts _ (List.mem_of_getElem? (i := 1) rfl)) (fun _ h9 => h9) rfl dX0_setKind_9 ?_
  refine lv_iload_n hx hb dX0_setKind_12 rfl (lv_at hl 1 rfl) ?_
  refine lv_iload_n hx hb dX0_setKind_13 rfl (lv_at hl 2 rfl) ?_
  refine n_iast (i := u) (x := (nI v)) (ws1 := wC g co ck ch cl np sl (va_up kd u v) hg lk) hx hb hK.1 hP hD hS 1 0 rfl rfl (by omega) (by decide) (fun j => nI ((va_up kd u v) j)) (upd_nI _ _ _) rfl dX0_setKind_14 (fun H locs hP hD hS => ?_)
  exact zretMV (w1 := fun (uu : Unit) => wC g co ck ch cl np sl (va_up kd u v) hg lk) () hx hb hr hlocks hS trivial hP dX0_setKind_15

set_option maxHeartbeats 4000000 in
set_option maxRecDepth 100000 in
theorem c_X0_heightOf (l : Launch) (g : Gx) (co : Nat) (ck : Nat) (ch : Nat) (cl : Nat) (np : Nat) (sl : Nat) (kd : Nat → Nat) (hg : Nat → Nat) (lk : Nat → Nat) (u : Nat) (k : Nat) (hnp : np ≤ 6) (hu : u < np) (hk : k < 3) : Met l yX0_heightOf wsX0_heightOf ({ frames := 1, cells := 0, slots := 0, locals := 21 } : Room) (PcR g [.ref co, .int (nI u), .int (nI k)] (wC g co ck ch cl np sl kd hg lk)) (vp_Si (fun r => r = nI (hg (3 * u + k)))) 0 0 (fun _ => False) := by
  refine zenterR (cc := cX0_heightOf) (maxL := 3) (ret := (some .int)) (by decide) rfl (Nat.le_of_ble_eq_true rfl) ?_
  intro P E s mt below meth cd ls hx hb hml hown hts hr hlocks hP hK hl
  have hl : lv_has ls 3 [(0, .ref co), (1, .int (nI u)), (2, .int (nI k))] := hl
  have S0 : CallFix P mt cd cX0_heightOf 3 s [.ref co, .int (nI u), .int (nI k)].toArray wsX0_heightOf RX0 := ⟨hx, hb, hml, hown, hts⟩
  refine lv_aload_n hx hb dX0_heightOf_0 rfl (lv_at hl 0 rfl) ?_
  refine lv_iload_n hx hb dX0_heightOf_1 rfl (lv_at hl 1 rfl) ?_
  have hPc : PP g (wC g co ck ch cl np sl kd hg lk) _ := hP
  refine zcallR (va_runV (As := [.int (nI u)]) (rest := []) (b := co) S0 (c_X0_hasPass_in l g co ck ch cl np sl kd hg lk u hnp (by omega)) (cwV 1 hts gX0_heightOf_X0_hasPass rfl rfl rfl (by decide +kernel) ⟨by decide, by decide⟩) (zpreV hK hPc (va_recv hK.1 hPc (ci := 0) (q0 := 0) rfl rfl)) rfl rfl hl.1 rfl (lv_room (Nat.le_of_ble_eq_true rfl)) dX0_heightOf_2 ⟨by decide, by decide⟩) (fun r2 h2 => ?_)
  subst h2
  refine lv_if_eq (tgt := 30) hx hb dX0_heightOf_5 (by decide) (fun c5 => ?_) (fun c5 => ?_)
  · exact absurd c5 (by decide)
  refine lv_iload_n hx hb dX0_heightOf_8 rfl (lv_at hl 2 rfl) ?_
  refine n_if_lt (a := k) hx hb (by omega) dX0_heightOf_9 30 (by decide) ?_
  refine lv_iload_n hx hb dX0_heightOf_12 rfl (lv_at hl 2 rfl) ?_
  refine lv_iconst (v := (nI 3)) hx hb dX0_heightOf_13 (by decide) ?_
  refine n_icmp_ge (a := k) (b := 3) (tgt := 30) hx hb (by omega) (by omega) dX0_heightOf_14 (by decide) (fun c14 => ?_) (fun c14 => ?_)
  · exact absurd hk (by omega)
  · refine lv_aload_n hx hb dX0_heightOf_17 rfl (lv_at hl 0 rfl) ?_
    refine va_get (D := g.1) (ci := 0) (v := .ref ch) (C := RX0) (T := TX0) (N := 5) hx hb hts (fun _ h => (List.mem_cons_of_mem _ (List.mem_append_right _ h))) hown hK.1 hP 0 rfl rfl 1 (by decide) (hts _ (List.mem_of_getElem? (i := 1) rfl)) (fun _ h9 => h9) rfl dX0_heightOf_18 ?_
    refine lv_iload_n hx hb dX0_heightOf_21 rfl (lv_at hl 1 rfl) ?_
    refine lv_iconst (v := (nI 3)) hx hb dX0_heightOf_22 (by decide) ?_
    refine n_imul (a := u) (b := 3) hx hb dX0_heightOf_23 ?_
    refine lv_iload_n hx hb dX0_heightOf_24 rfl (lv_at hl 2 rfl) ?_
    refine n_iadd (a := (u * 3)) (b := k) hx hb dX0_heightOf_25 ?_
    refine ztopI (nI (3 * u + k)) (by congr 1; omega) ?_
    refine n_iald (i := (3 * u + k)) (v := (nI (hg (3 * u + k)))) hx hb hK.1 hP 2 0 rfl rfl (by omega) (by decide) rfl dX0_heightOf_26 ?_
    refine lv_goto (tgt := 31) hx hb dX0_heightOf_27 (by decide) ?_
    exact zretI hx hb hr hlocks rfl (by rfl) dX0_heightOf_31

set_option maxHeartbeats 4000000 in
set_option maxRecDepth 100000 in
theorem c_X0_setHeight (l : Launch) (g : Gx) (co : Nat) (ck : Nat) (ch : Nat) (cl : Nat) (np : Nat) (sl : Nat) (kd : Nat → Nat) (hg : Nat → Nat) (lk : Nat → Nat) (u : Nat) (k : Nat) (v : Nat) (hnp : np ≤ 6) (hu : u < np) (hk : k < 3) : Met l yX0_setHeight wsX0_setHeight ({ frames := 1, cells := 0, slots := 0, locals := 21 } : Room) (PcM g [.ref co, .int (nI u), .int (nI k), .int (nI v)] (wC g co ck ch cl np sl kd hg lk)) (va_Qv (fun (uu : Unit) => True) (fun (uu : Unit) t => PP g (wC g co ck ch cl np sl kd (va_up hg (3 * u + k) v) lk) t.heap) (inW (wC g co ck ch cl np sl kd hg lk))) 0 0 (inW (wC g co ck ch cl np sl kd hg lk)) := by
  refine zenterM (cc := cX0_setHeight) (maxL := 4) (ret := none) (by decide) rfl (Nat.le_of_ble_eq_true rfl) ?_
  intro P E s mt below meth cd ls hx hb hml hown hts hr hlocks hP hK hD hS hl
  skip
  have hl : lv_has ls 4 [(0, .ref co), (1, .int (nI u)), (2, .int (nI k)), (3, .int (nI v))] := hl
  have S0 : CallFix P mt cd cX0_setHeight 4 s [.ref co, .int (nI u), .int (nI k), .int (nI v)].toArray wsX0_setHeight RX0 := ⟨hx, hb, hml, hown, hts⟩
  refine lv_aload_n hx hb dX0_setHeight_0 rfl (lv_at hl 0 rfl) ?_
  refine lv_iload_n hx hb dX0_setHeight_1 rfl (lv_at hl 1 rfl) ?_
  have hPc : PP g (wC g co ck ch cl np sl kd hg lk) _ := hP
  refine zcallR (va_runV (As := [.int (nI u)]) (rest := []) (b := co) S0 (c_X0_hasPass_in l g co ck ch cl np sl kd hg lk u hnp (by omega)) (cwV 1 hts gX0_setHeight_X0_hasPass rfl rfl rfl (by decide +kernel) ⟨by decide, by decide⟩) (zpreV hK hPc (va_recv hK.1 hPc (ci := 0) (q0 := 0) rfl rfl)) rfl rfl hl.1 rfl (lv_room (Nat.le_of_ble_eq_true rfl)) dX0_setHeight_2 ⟨by decide, by decide⟩) (fun r2 h2 => ?_)
  subst h2
  refine lv_if_eq (tgt := 28) hx hb dX0_setHeight_5 (by decide) (fun c5 => ?_) (fun c5 => ?_)
  · exact absurd c5 (by decide)
  refine lv_iload_n hx hb dX0_setHeight_8 rfl (lv_at hl 2 rfl) ?_
  refine n_if_lt (a := k) hx hb (by omega) dX0_setHeight_9 28 (by decide) ?_
  refine lv_iload_n hx hb dX0_setHeight_12 rfl (lv_at hl 2 rfl) ?_
  refine lv_iconst (v := (nI 3)) hx hb dX0_setHeight_13 (by decide) ?_
  refine n_icmp_ge (a := k) (b := 3) (tgt := 28) hx hb (by omega) (by omega) dX0_setHeight_14 (by decide) (fun c14 => ?_) (fun c14 => ?_)
  · exact absurd hk (by omega)
  · refine lv_aload_n hx hb dX0_setHeight_17 rfl (lv_at hl 0 rfl) ?_
    refine va_get (D := g.1) (ci := 0) (v := .ref ch) (C := RX0) (T := TX0) (N := 5) hx hb hts (fun _ h => (List.mem_cons_of_mem _ (List.mem_append_right _ h))) hown hK.1 hP 0 rfl rfl 1 (by decide) (hts _ (List.mem_of_getElem? (i := 1) rfl)) (fun _ h9 => h9) rfl dX0_setHeight_18 ?_
    refine lv_iload_n hx hb dX0_setHeight_21 rfl (lv_at hl 1 rfl) ?_
    refine lv_iconst (v := (nI 3)) hx hb dX0_setHeight_22 (by decide) ?_
    refine n_imul (a := u) (b := 3) hx hb dX0_setHeight_23 ?_
    refine lv_iload_n hx hb dX0_setHeight_24 rfl (lv_at hl 2 rfl) ?_
    refine n_iadd (a := (u * 3)) (b := k) hx hb dX0_setHeight_25 ?_
    refine ztopI (nI (3 * u + k)) (by congr 1; omega) ?_
    refine lv_iload_n hx hb dX0_setHeight_26 rfl (lv_at hl 3 rfl) ?_
    refine n_iast (i := (3 * u + k)) (x := (nI v)) (ws1 := wC g co ck ch cl np sl kd (va_up hg (3 * u + k) v) lk) hx hb hK.1 hP hD hS 2 0 rfl rfl (by omega) (by decide) (fun j => nI ((va_up hg (3 * u + k) v) j)) (upd_nI _ _ _) rfl dX0_setHeight_27 (fun H locs hP hD hS => ?_)
    exact zretMV (w1 := fun (uu : Unit) => wC g co ck ch cl np sl kd (va_up hg (3 * u + k) v) lk) () hx hb hr hlocks hS trivial hP dX0_setHeight_28

set_option maxHeartbeats 4000000 in
set_option maxRecDepth 100000 in
theorem c_X0_wear (l : Launch) (g : Gx) (k : Nat) (m : Nat) (hk : k ≤ 2) : Met l yX0_wear wsX0_wear ({ frames := 0, cells := 0, slots := 0, locals := 0 } : Room) (PcR g [.int (nI k), .int (nI m)] (([] : va_W))) (vp_Si (fun r => r = nI (wr k m))) 0 0 (fun _ => False) := by
  refine zenterR (cc := cX0_wear) (maxL := 2) (ret := (some .int)) (by decide) rfl (Nat.le_of_ble_eq_true rfl) ?_
  intro P E s mt below meth cd ls hx hb hml hown hts hr hlocks hP hK hl
  have hl : lv_has ls 2 [(0, .int (nI k)), (1, .int (nI m))] := hl
  have S0 : CallFix P mt cd cX0_wear 2 s [.int (nI k), .int (nI m)].toArray wsX0_wear RX0 := ⟨hx, hb, hml, hown, hts⟩
  refine lv_iload_n hx hb dX0_wear_0 rfl (lv_at hl 0 rfl) ?_
  by_cases c1_1 : k = 1
  · refine ztopI (nI 1) (by rw [c1_1]) ?_
    refine lv_lookup (off := 31) (tgt := 32) hx hb dX0_wear_1 (by decide) (by decide) (by decide) ?_
    refine lv_iload_n hx hb dX0_wear_32 rfl (lv_at hl 1 rfl) ?_
    refine lv_iconst (v := (nI 1)) hx hb dX0_wear_33 (by decide) ?_
    refine n_iadd (a := m) (b := 1) hx hb dX0_wear_34 ?_
    exact zretI hx hb hr hlocks rfl (by rw [c1_1]; rfl) dX0_wear_35
  by_cases c1_2 : k = 2
  · refine ztopI (nI 2) (by rw [c1_2]) ?_
    refine lv_lookup (off := 27) (tgt := 28) hx hb dX0_wear_1 (by decide) (by decide) (by decide) ?_
    refine lv_iconst (v := (nI 2)) hx hb dX0_wear_28 (by decide) ?_
    refine lv_iload_n hx hb dX0_wear_29 rfl (lv_at hl 1 rfl) ?_
    refine n_imul (a := 2) (b := m) hx hb dX0_wear_30 ?_
    exact zretI hx hb hr hlocks rfl (by rw [c1_2]; rfl) dX0_wear_31
  refine lv_lookup (off := 35) (tgt := 36) hx hb dX0_wear_1 (by decide) (by rw [lv_osw (k := nI 1) (nI_neI (by omega) (by decide) c1_1) (by decide)]; rw [lv_osw (k := nI 2) (nI_neI (by omega) (by decide) c1_2) (by decide)]; rfl) (by decide) ?_
  refine lv_iload_n hx hb dX0_wear_36 rfl (lv_at hl 1 rfl) ?_
  exact zretI hx hb hr hlocks rfl (by rw [show k = 0 by omega]; rfl) dX0_wear_37
