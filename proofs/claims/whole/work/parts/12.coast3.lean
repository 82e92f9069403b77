set_option maxHeartbeats 4000000 in
set_option maxRecDepth 100000 in
theorem c_bitCount (l : Launch) (g : Gx) (b : Nat) (hb2 : b < 2 ^ 20) : Met l yJ6_bitCount_0f7a4 wsJ6_bitCount_0f7a4 ({ frames := 0, cells := 0, slots := 0, locals := 0 } : Room) (PcR g [.int (nI b)] (([] : va_W))) (vp_Si (fun r => r = nI (pc b))) 0 0 (fun _ => False) := by
  refine zenterR (cc := cJ6_bitCount_0f7a4) (maxL := 1) (ret := (some .int)) (by decide) rfl (Nat.le_of_ble_eq_true rfl) ?_
  intro P E s mt below meth cd ls hx hb hml hown hts hr hlocks hP hK hl
  have hl : lv_has ls 1 [(0, .int (nI b))] := hl
  have S0 : CallFix P mt cd cJ6_bitCount_0f7a4 1 s [.int (nI b)].toArray wsJ6_bitCount_0f7a4 RJ6 := ⟨hx, hb, hml, hown, hts⟩
  have k1 : s1 b < 2 ^ 20 := Nat.lt_of_le_of_lt (s1_le b) hb2
  have k2 := s2_lt k1
  have k3 := s3_le (s2 (s1 b))
  have k4 := s4_lt k3
  have k5 := s5_lt k4
  refine lv_iload_n hx hb dJ6_bitCount_0f7a4_0 rfl (lv_at hl 0 rfl) ?_
  refine lv_iload_n hx hb dJ6_bitCount_0f7a4_1 rfl (lv_at hl 0 rfl) ?_
  refine lv_iconst (v := (nI 1)) hx hb dJ6_bitCount_0f7a4_2 (by decide) ?_
  refine lv_iushr (v := ((nI b).toUInt32 >>> ((nI 1).toUInt32 &&& Int32.toUInt32 31)).toInt32) hx hb dJ6_bitCount_0f7a4_3 rfl ?_
  refine ztopI (nI (b / 2 ^ 1)) (pk_ushrN (by omega) (nI 1) 1 (by decide)) ?_
  refine lv_ldcw (v := (1431655765)) hx hb hown (hts _ (List.mem_of_getElem? (i := 1) rfl)) dJ6_bitCount_0f7a4_4 ?_
  refine ztopI (nI 1431655765) (by decide) ?_
  refine n_iand (a := (b / 2 ^ 1)) (b := 1431655765) hx hb dJ6_bitCount_0f7a4_7 ?_
  refine n_isub (a := b) (b := ((b / 2 ^ 1) &&& 1431655765)) hx hb (s1_sub b) dJ6_bitCount_0f7a4_8 ?_
  refine ztopI (nI (s1 b)) (rfl) ?_
  refine lv_istore_n (lv' := [(0, .int (nI (s1 b)))]) hx hb dJ6_bitCount_0f7a4_9 rfl hl (by decide) rfl (fun ls hl => ?_)
  refine lv_iload_n hx hb dJ6_bitCount_0f7a4_10 rfl (lv_at hl 0 rfl) ?_
  refine lv_ldcw (v := (858993459)) hx hb hown (hts _ (List.mem_of_getElem? (i := 2) rfl)) dJ6_bitCount_0f7a4_11 ?_
  refine ztopI (nI 858993459) (by decide) ?_
  refine n_iand (a := (s1 b)) (b := 858993459) hx hb dJ6_bitCount_0f7a4_14 ?_
  refine lv_iload_n hx hb dJ6_bitCount_0f7a4_15 rfl (lv_at hl 0 rfl) ?_
  refine lv_iconst (v := (nI 2)) hx hb dJ6_bitCount_0f7a4_16 (by decide) ?_
  refine lv_iushr (v := ((nI (s1 b)).toUInt32 >>> ((nI 2).toUInt32 &&& Int32.toUInt32 31)).toInt32) hx hb dJ6_bitCount_0f7a4_17 rfl ?_
  refine ztopI (nI ((s1 b) / 2 ^ 2)) (pk_ushrN (by omega) (nI 2) 2 (by decide)) ?_
  refine lv_ldcw (v := (858993459)) hx hb hown (hts _ (List.mem_of_getElem? (i := 2) rfl)) dJ6_bitCount_0f7a4_18 ?_
  refine ztopI (nI 858993459) (by decide) ?_
  refine n_iand (a := ((s1 b) / 2 ^ 2)) (b := 858993459) hx hb dJ6_bitCount_0f7a4_21 ?_
  refine n_iadd (a := ((s1 b) &&& 858993459)) (b := (((s1 b) / 2 ^ 2) &&& 858993459)) hx hb dJ6_bitCount_0f7a4_22 ?_
  refine ztopI (nI (s2 (s1 b))) (rfl) ?_
  refine lv_istore_n (lv' := [(0, .int (nI (s2 (s1 b))))]) hx hb dJ6_bitCount_0f7a4_23 rfl hl (by decide) rfl (fun ls hl => ?_)
  refine lv_iload_n hx hb dJ6_bitCount_0f7a4_24 rfl (lv_at hl 0 rfl) ?_
  refine lv_iload_n hx hb dJ6_bitCount_0f7a4_25 rfl (lv_at hl 0 rfl) ?_
  refine lv_iconst (v := (nI 4)) hx hb dJ6_bitCount_0f7a4_26 (by decide) ?_
  refine lv_iushr (v := ((nI (s2 (s1 b))).toUInt32 >>> ((nI 4).toUInt32 &&& Int32.toUInt32 31)).toInt32) hx hb dJ6_bitCount_0f7a4_27 rfl ?_
  refine ztopI (nI ((s2 (s1 b)) / 2 ^ 4)) (pk_ushrN (by omega) (nI 4) 4 (by decide)) ?_
  refine n_iadd (a := (s2 (s1 b))) (b := ((s2 (s1 b)) / 2 ^ 4)) hx hb dJ6_bitCount_0f7a4_28 ?_
  refine lv_ldcw (v := (252645135)) hx hb hown (hts _ (List.mem_of_getElem? (i := 3) rfl)) dJ6_bitCount_0f7a4_29 ?_
  refine ztopI (nI 252645135) (by decide) ?_
  refine n_iand (a := ((s2 (s1 b)) + ((s2 (s1 b)) / 2 ^ 4))) (b := 252645135) hx hb dJ6_bitCount_0f7a4_32 ?_
  refine ztopI (nI (s3 (s2 (s1 b)))) (rfl) ?_
  refine lv_istore_n (lv' := [(0, .int (nI (s3 (s2 (s1 b)))))]) hx hb dJ6_bitCount_0f7a4_33 rfl hl (by decide) rfl (fun ls hl => ?_)
  refine lv_iload_n hx hb dJ6_bitCount_0f7a4_34 rfl (lv_at hl 0 rfl) ?_
  refine lv_iload_n hx hb dJ6_bitCount_0f7a4_35 rfl (lv_at hl 0 rfl) ?_
  refine lv_bipush (v := (nI 8)) hx hb dJ6_bitCount_0f7a4_36 (by decide) ?_
  refine lv_iushr (v := ((nI (s3 (s2 (s1 b)))).toUInt32 >>> ((nI 8).toUInt32 &&& Int32.toUInt32 31)).toInt32) hx hb dJ6_bitCount_0f7a4_38 rfl ?_
  refine ztopI (nI ((s3 (s2 (s1 b))) / 2 ^ 8)) (pk_ushrN (by omega) (nI 8) 8 (by decide)) ?_
  refine n_iadd (a := (s3 (s2 (s1 b)))) (b := ((s3 (s2 (s1 b))) / 2 ^ 8)) hx hb dJ6_bitCount_0f7a4_39 ?_
  refine ztopI (nI (s4 (s3 (s2 (s1 b))))) (rfl) ?_
  refine lv_istore_n (lv' := [(0, .int (nI (s4 (s3 (s2 (s1 b))))))]) hx hb dJ6_bitCount_0f7a4_40 rfl hl (by decide) rfl (fun ls hl => ?_)
  refine lv_iload_n hx hb dJ6_bitCount_0f7a4_41 rfl (lv_at hl 0 rfl) ?_
  refine lv_iload_n hx hb dJ6_bitCount_0f7a4_42 rfl (lv_at hl 0 rfl) ?_
  refine lv_bipush (v := (nI 16)) hx hb dJ6_bitCount_0f7a4_43 (by decide) ?_
  refine lv_iushr (v := ((nI (s4 (s3 (s2 (s1 b))))).toUInt32 >>> ((nI 16).toUInt32 &&& Int32.toUInt32 31)).toInt32) hx hb dJ6_bitCount_0f7a4_45 rfl ?_
  refine ztopI (nI ((s4 (s3 (s2 (s1 b)))) / 2 ^ 16)) (pk_ushrN (by omega) (nI 16) 16 (by decide)) ?_
  refine n_iadd (a := (s4 (s3 (s2 (s1 b))))) (b := ((s4 (s3 (s2 (s1 b)))) / 2 ^ 16)) hx hb dJ6_bitCount_0f7a4_46 ?_
  refine ztopI (nI (s5 (s4 (s3 (s2 (s1 b)))))) (rfl) ?_
  refine lv_istore_n (lv' := [(0, .int (nI (s5 (s4 (s3 (s2 (s1 b)))))))]) hx hb dJ6_bitCount_0f7a4_47 rfl hl (by decide) rfl (fun ls hl => ?_)
  refine lv_iload_n hx hb dJ6_bitCount_0f7a4_48 rfl (lv_at hl 0 rfl) ?_
  refine lv_bipush (v := (nI 63)) hx hb dJ6_bitCount_0f7a4_49 (by decide) ?_
  refine n_iand (a := (s5 (s4 (s3 (s2 (s1 b)))))) (b := 63) hx hb dJ6_bitCount_0f7a4_51 ?_
  exact zretI hx hb hr hlocks rfl (by rw [bc_ok hb2]) dJ6_bitCount_0f7a4_52

set_option maxHeartbeats 4000000 in
set_option maxRecDepth 100000 in
theorem c_X0_mostUnlike (l : Launch) (g : Gx) (co : Nat) (ck : Nat) (ch : Nat) (cl : Nat) (np : Nat) (sl : Nat) (kd : Nat → Nat) (hg : Nat → Nat) (lk : Nat → Nat) (hnp : np ≤ 6) (hsl : sl ≤ 9) (hhg : ∀ j, hg j ≤ 9) : Met l yX0_mostUnlike wsX0_mostUnlike ({ frames := 4, cells := 0, slots := 0, locals := 90 } : Room) (PcM g [.ref co] (wC g co ck ch cl np sl kd hg lk)) (va_Qi (fun (r : Int32) (uu : Unit) => r = nI (ms (lset np sl hg) np (2 ^ np))) (fun (uu : Unit) t => PP g (wC g co ck ch cl np sl kd hg (fil (lset np sl hg) lk np)) t.heap) (inW (wC g co ck ch cl np sl kd hg lk))) 0 0 (inW (wC g co ck ch cl np sl kd hg lk)) := by
  refine zenterM (cc := cX0_mostUnlike) (maxL := 3) (ret := (some .int)) (by decide) rfl (Nat.le_of_ble_eq_true rfl) ?_
  intro P E s mt below meth cd ls hx hb hml hown hts hr hlocks hP hK hD hS hl
  skip
  have hl : lv_has ls 3 [(0, .ref co)] := hl
  have S0 : CallFix P mt cd cX0_mostUnlike 3 s [.ref co].toArray wsX0_mostUnlike RX0 := ⟨hx, hb, hml, hown, hts⟩
  have h64 := pow_le64 hnp
  have h65 := Nat.two_pow_pos np
  refine lv_iconst (v := (nI 0)) hx hb dX0_mostUnlike_0 (by decide) ?_
  refine lv_istore_n (lv' := [(1, .int (nI 0)), (0, .ref co)]) hx hb dX0_mostUnlike_1 rfl hl (by decide) rfl (fun ls hl => ?_)
  have lp2 : ∀ (nn : Nat) (i : Nat) (H : Heap) (locs : List Loc) (ls : Array Slot), (np - i) < nn → (i ≤ np) → PP g (wC g co ck ch cl np sl kd hg (fil (lset np sl hg) lk i)) H → va_D (inW (wC g co ck ch cl np sl kd hg lk)) (wC g co ck ch cl np sl kd hg (fil (lset np sl hg) lk i)) → va_S (inW (wC g co ck ch cl np sl kd hg lk)) s.heap H locs → lv_has ls 3 [(0, .ref co), (1, .int (nI i))] → W P l E ({ frames := 4, cells := 0, slots := 0, locals := 90 } : Room) s mt [.ref co].toArray below meth cd H locs 0 0 (MQ below (va_Qi (fun (r : Int32) (uu : Unit) => r = nI (ms (lset np sl hg) np (2 ^ np))) (fun (uu : Unit) t => PP g (wC g co ck ch cl np sl kd hg (fil (lset np sl hg) lk np)) t.heap) (inW (wC g co ck ch cl np sl kd hg lk))) [.ref co].toArray s 0 0 (inW (wC g co ck ch cl np sl kd hg lk))) (F0 mt 2 ls []) := by
    intro nn
    induction nn with
    | zero => intro i H locs ls hmu; exact absurd hmu (Nat.not_lt_zero _)
    | succ nn ih2 =>
      intro i H locs ls hmu hi hP hD hS hl
      refine lv_iload_n hx hb dX0_mostUnlike_2 rfl (lv_at hl 1 rfl) ?_
      refine lv_aload_n hx hb dX0_mostUnlike_3 rfl (lv_at hl 0 rfl) ?_
      refine va_get (D := g.1) (ci := 0) (v := .int (nI np)) (C := RX0) (T := TX0) (N := 5) hx hb hts (fun _ h => (List.mem_cons_of_mem _ (List.mem_append_right _ h))) hown hK.1 hP 0 rfl rfl 3 (by decide) (hts _ (List.mem_of_getElem? (i := 1) rfl)) (fun _ h9 => h9) rfl dX0_mostUnlike_4 ?_
      refine n_icmp_ge (a := i) (b := np) (tgt := 27) hx hb (by omega) (by omega) dX0_mostUnlike_7 (by decide) (fun c7 => ?_) (fun c7 => ?_)
      · obtain rfl : np = i := by omega
        refine lv_iconst (v := (nI 0)) hx hb dX0_mostUnlike_27 (by decide) ?_
        refine lv_istore_n (lv' := [(1, .int (nI 0)), (0, .ref co)]) hx hb dX0_mostUnlike_28 rfl hl (by decide) rfl (fun ls hl => ?_)
        refine lv_iconst (v := (nI 0)) hx hb dX0_mostUnlike_29 (by decide) ?_
        refine lv_istore_n (lv' := [(2, .int (nI 0)), (1, .int (nI 0)), (0, .ref co)]) hx hb dX0_mostUnlike_30 rfl hl (by decide) rfl (fun ls hl => ?_)
        have lp31 : ∀ (nn : Nat) (j : Nat) (H : Heap) (locs : List Loc) (ls : Array Slot), (2 ^ np - j) < nn → (j ≤ 2 ^ np) → PP g (wC g co ck ch cl np sl kd hg (fil (lset np sl hg) lk np)) H → va_D (inW (wC g co ck ch cl np sl kd hg lk)) (wC g co ck ch cl np sl kd hg (fil (lset np sl hg) lk np)) → va_S (inW (wC g co ck ch cl np sl kd hg lk)) s.heap H locs → lv_has ls 3 [(0, .ref co), (1, .int (nI (ms (lset np sl hg) np j))), (2, .int (nI j))] → W P l E ({ frames := 4, cells := 0, slots := 0, locals := 90 } : Room) s mt [.ref co].toArray below meth cd H locs 0 0 (MQ below (va_Qi (fun (r : Int32) (uu : Unit) => r = nI (ms (lset np sl hg) np (2 ^ np))) (fun (uu : Unit) t => PP g (wC g co ck ch cl np sl kd hg (fil (lset np sl hg) lk np)) t.heap) (inW (wC g co ck ch cl np sl kd hg lk))) [.ref co].toArray s 0 0 (inW (wC g co ck ch cl np sl kd hg lk))) (F0 mt 31 ls []) := by
          intro nn
          induction nn with
          | zero => intro j H locs ls hmu; exact absurd hmu (Nat.not_lt_zero _)
          | succ nn ih31 =>
            intro j H locs ls hmu hj hP hD hS hl
            have hms := ms_lt (lset np sl hg) np hj h65
            have hq1 := pc_32 j
            have hq2 := pc_32 (ms (lset np sl hg) np j)
            refine lv_iload_n hx hb dX0_mostUnlike_31 rfl (lv_at hl 2 rfl) ?_
            refine lv_aload_n hx hb dX0_mostUnlike_32 rfl (lv_at hl 0 rfl) ?_
            have hPc : PP g (wC g co ck ch cl np sl kd hg (fil (lset np sl hg) lk np)) _ := hP
            refine zcallR (va_runV (As := []) (rest := [.int (nI j)]) (b := co) S0 (c_X0_allPasses l g co ck ch cl np sl kd hg (fil (lset np sl hg) lk np) hnp) (cwV 0 hts gX0_mostUnlike_X0_allPasses rfl rfl rfl (by decide +kernel) ⟨by decide, by decide⟩) (zpreV hK hPc (va_recv hK.1 hPc (ci := 0) (q0 := 0) rfl rfl)) rfl rfl hl.1 rfl (lv_room (Nat.le_of_ble_eq_true rfl)) dX0_mostUnlike_33 ⟨by decide, by decide⟩) (fun r33 h33 => ?_)
            subst h33
            have f1 := (pow_le64 hnp)
            refine n_icmp_gt (a := j) (b := (2 ^ np - 1)) (tgt := 66) hx hb (by omega) (by omega) dX0_mostUnlike_36 (by decide) (fun c36 => ?_) (fun c36 => ?_)
            · obtain rfl : 2 ^ np = j := by omega
              refine lv_iload_n hx hb dX0_mostUnlike_66 rfl (lv_at hl 1 rfl) ?_
              exact zretMI (w1 := fun (uu : Unit) => wC g co ck ch cl np sl kd hg (fil (lset np sl hg) lk np)) () hx hb hr hlocks hS rfl rfl hP dX0_mostUnlike_67
            · refine lv_iload_n hx hb dX0_mostUnlike_39 rfl (lv_at hl 2 rfl) ?_
              refine zcallR (va_runS (As := [.int (nI j)]) (rest := []) S0 (c_bitCount l g j (by omega)) (va_cwS 1 hts gX0_mostUnlike_J6_bitCount_0f7a4 rfl rfl rfl (by decide +kernel) ⟨by decide, by decide⟩) (zpreS hK (P_nil _)) rfl rfl hl.1 rfl (lv_room (Nat.le_of_ble_eq_true rfl)) dX0_mostUnlike_40 ⟨by decide, by decide⟩) (fun r40 h40 => ?_)
              subst h40
              have f2 := pc_32 j
              refine lv_iload_n hx hb dX0_mostUnlike_43 rfl (lv_at hl 1 rfl) ?_
              refine zcallR (va_runS (As := [.int (nI (ms (lset np sl hg) np j))]) (rest := [.int (nI (pc j))]) S0 (c_bitCount l g (ms (lset np sl hg) np j) (by omega)) (va_cwS 1 hts gX0_mostUnlike_J6_bitCount_0f7a4 rfl rfl rfl (by decide +kernel) ⟨by decide, by decide⟩) (zpreS hK (P_nil _)) rfl rfl hl.1 rfl (lv_room (Nat.le_of_ble_eq_true rfl)) dX0_mostUnlike_44 ⟨by decide, by decide⟩) (fun r44 h44 => ?_)
              subst h44
              have f3 := pc_32 (ms (lset np sl hg) np j)
              refine n_icmp_le (a := (pc j)) (b := (pc (ms (lset np sl hg) np j))) (tgt := 60) hx hb (by omega) (by omega) dX0_mostUnlike_47 (by decide) (fun c47 => ?_) (fun c47 => ?_)
              · refine n_iinc (a := j) (d := 1) (lv' := [(2, .int (nI (j + 1))), (0, .ref co), (1, .int (nI (ms (lset np sl hg) np j)))]) hx hb dX0_mostUnlike_60 hl (k := 2) rfl (by decide) (by decide) rfl (fun ls hl => ?_)
                refine lv_goto (tgt := 31) hx hb dX0_mostUnlike_63 (by decide) ?_
                exact ih31 (j + 1) _ _ ls (by omega) (by omega) hP hD hS (lv_sub hl [1, 2, 0] (by rw [ms, if_neg (fun z => absurd z.1 (by omega))]; rfl))
              · refine lv_aload_n hx hb dX0_mostUnlike_50 rfl (lv_at hl 0 rfl) ?_
                refine lv_iload_n hx hb dX0_mostUnlike_51 rfl (lv_at hl 2 rfl) ?_
                have hPc : PP g (wC g co ck ch cl np sl kd hg (fil (lset np sl hg) lk np)) _ := hP
                refine zcallR (va_runV (As := [.int (nI j)]) (rest := []) (b := co) S0 (c_X0_noneLinkedWithin l g co ck ch cl np sl kd hg (fil (lset np sl hg) lk np) j hnp (by omega)) (cwV 1 hts gX0_mostUnlike_X0_noneLinkedWithin rfl rfl rfl (by decide +kernel) ⟨by decide, by decide⟩) (zpreV hK hPc (va_recv hK.1 hPc (ci := 0) (q0 := 0) rfl rfl)) rfl rfl hl.1 rfl (lv_room (Nat.le_of_ble_eq_true rfl)) dX0_mostUnlike_52 ⟨by decide, by decide⟩) (fun r52 h52 => ?_)
                subst h52
                have f4 := nl_le j (fil (lset np sl hg) lk np) np
                refine ztopI (nI (nl j (lset np sl hg) np)) (by rw [nl_congr (L' := lset np sl hg) (fun x hx => fil_in hx)]) ?_
                have hnl := nl_le j (lset np sl hg) np
                refine n_if_eq (a := (nl j (lset np sl hg) np)) (tgt := 60) hx hb (by omega) dX0_mostUnlike_55 (by decide) (fun c55 => ?_) (fun c55 => ?_)
                · refine n_iinc (a := j) (d := 1) (lv' := [(2, .int (nI (j + 1))), (0, .ref co), (1, .int (nI (ms (lset np sl hg) np j)))]) hx hb dX0_mostUnlike_60 hl (k := 2) rfl (by decide) (by decide) rfl (fun ls hl => ?_)
                  refine lv_goto (tgt := 31) hx hb dX0_mostUnlike_63 (by decide) ?_
                  exact ih31 (j + 1) _ _ ls (by omega) (by omega) hP hD hS (lv_sub hl [1, 2, 0] (by rw [ms, if_neg (fun z => z.2 c55)]; rfl))
                · refine lv_iload_n hx hb dX0_mostUnlike_58 rfl (lv_at hl 2 rfl) ?_
                  refine lv_istore_n (lv' := [(1, .int (nI j)), (0, .ref co), (2, .int (nI j))]) hx hb dX0_mostUnlike_59 rfl hl (by decide) rfl (fun ls hl => ?_)
                  refine n_iinc (a := j) (d := 1) (lv' := [(2, .int (nI (j + 1))), (1, .int (nI j)), (0, .ref co)]) hx hb dX0_mostUnlike_60 hl (k := 2) rfl (by decide) (by decide) rfl (fun ls hl => ?_)
                  refine lv_goto (tgt := 31) hx hb dX0_mostUnlike_63 (by decide) ?_
                  exact ih31 (j + 1) _ _ ls (by omega) (by omega) hP hD hS (lv_sub hl [2, 1, 0] (by rw [ms, if_pos ⟨c47, c55⟩]; rfl))
        exact lp31 (2 ^ np - 0 + 1) 0 _ _ ls (Nat.lt_succ_self _) (by omega) hP hD hS (lv_sub hl [2, 1, 0] rfl)
      · refine lv_aload_n hx hb dX0_mostUnlike_10 rfl (lv_at hl 0 rfl) ?_
        refine va_get (D := g.1) (ci := 0) (v := .ref cl) (C := RX0) (T := TX0) (N := 5) hx hb hts (fun _ h => (List.mem_cons_of_mem _ (List.mem_append_right _ h))) hown hK.1 hP 0 rfl rfl 2 (by decide) (hts _ (List.mem_of_getElem? (i := 2) rfl)) (fun _ h9 => h9) rfl dX0_mostUnlike_11 ?_
        refine lv_iload_n hx hb dX0_mostUnlike_14 rfl (lv_at hl 1 rfl) ?_
        refine lv_aload_n hx hb dX0_mostUnlike_15 rfl (lv_at hl 0 rfl) ?_
        refine lv_iload_n hx hb dX0_mostUnlike_16 rfl (lv_at hl 1 rfl) ?_
        have hPc : PP g (wC g co ck ch cl np sl kd hg (fil (lset np sl hg) lk i)) _ := hP
        refine zcallR (va_runV (As := [.int (nI i)]) (rest := [.int (nI i), .ref cl]) (b := co) S0 (c_X0_likeness l g co ck ch cl np sl kd hg (fil (lset np sl hg) lk i) i hnp hsl hhg (by omega)) (cwV 1 hts gX0_mostUnlike_X0_likeness rfl rfl rfl (by decide +kernel) ⟨by decide, by decide⟩) (zpreV hK hPc (va_recv hK.1 hPc (ci := 0) (q0 := 0) rfl rfl)) rfl rfl hl.1 rfl (lv_room (Nat.le_of_ble_eq_true rfl)) dX0_mostUnlike_17 ⟨by decide, by decide⟩) (fun r17 h17 => ?_)
        subst h17
        have f5 := lset_lt np sl hg i
        have f6 := pow_le64 hnp
        refine n_iast (i := i) (x := (nI (lset np sl hg i))) (ws1 := wC g co ck ch cl np sl kd hg (va_up (fil (lset np sl hg) lk i) i (lset np sl hg i))) hx hb hK.1 hP hD hS 3 0 rfl rfl (by omega) (by decide) (fun j => nI ((va_up (fil (lset np sl hg) lk i) i (lset np sl hg i)) j)) (upd_nI _ _ _) rfl dX0_mostUnlike_20 (fun H locs hP hD hS => ?_)
        refine n_iinc (a := i) (d := 1) (lv' := [(1, .int (nI (i + 1))), (0, .ref co)]) hx hb dX0_mostUnlike_21 hl (k := 1) rfl (by decide) (by decide) rfl (fun ls hl => ?_)
        refine lv_goto (tgt := 2) hx hb dX0_mostUnlike_24 (by decide) ?_
        rw [fil_up (lset np sl hg) lk i] at hP hD
        exact ih2 (i + 1) _ _ ls (by omega) (by omega) hP hD hS (lv_sub hl [1, 0] rfl)
  exact lp2 (np - 0 + 1) 0 _ _ ls (Nat.lt_succ_self _) (by omega) (by rw [fil_0]; exact hP) (by rw [fil_0]; exact hD) hS (lv_sub hl [1, 0] rfl)

set_option maxHeartbeats 4000000 in
set_option maxRecDepth 100000 in
theorem c_X0_fewestFreeing (l : Launch) (g : Gx) (co : Nat) (ck : Nat) (ch : Nat) (cl : Nat) (np : Nat) (sl : Nat) (kd : Nat → Nat) (hg : Nat → Nat) (lk : Nat → Nat) (hnp : np ≤ 6) : Met l yX0_fewestFreeing wsX0_fewestFreeing ({ frames := 2, cells := 0, slots := 0, locals := 44 } : Room) (PcR g [.ref co] (wC g co ck ch cl np sl kd hg lk)) (vp_Si (fun r => r = enc (fw lk np (2 ^ np)))) 0 0 (fun _ => False) := by
  refine zenterR (cc := cX0_fewestFreeing) (maxL := 4) (ret := (some .int)) (by decide) rfl (Nat.le_of_ble_eq_true rfl) ?_
  intro P E s mt below meth cd ls hx hb hml hown hts hr hlocks hP hK hl
  have hl : lv_has ls 4 [(0, .ref co)] := hl
  have S0 : CallFix P mt cd cX0_fewestFreeing 4 s [.ref co].toArray wsX0_fewestFreeing RX0 := ⟨hx, hb, hml, hown, hts⟩
  have h64 := pow_le64 hnp
  have h65 := Nat.two_pow_pos np
  refine lv_bipush (v := (-9)) hx hb dX0_fewestFreeing_0 (by decide) ?_
  refine lv_istore_n (lv' := [(1, .int (-9)), (0, .ref co)]) hx hb dX0_fewestFreeing_2 rfl hl (by decide) rfl (fun ls hl => ?_)
  refine lv_aload_n hx hb dX0_fewestFreeing_3 rfl (lv_at hl 1 rfl) ?_
  refine va_get (D := g.1) (ci := 0) (v := .int (nI np)) (C := RX0) (T := TX0) (N := 5) hx hb hts (fun _ h => (List.mem_cons_of_mem _ (List.mem_append_right _ h))) hown hK.1 hP 0 rfl rfl 3 (by decide) (hts _ (List.mem_of_getElem? (i := 1) rfl)) (fun _ h9 => h9) rfl dX0_fewestFreeing_4 ?_
  refine lv_iconst (v := (nI 1)) hx hb dX0_fewestFreeing_7 (by decide) ?_
  refine n_iadd (a := np) (b := 1) hx hb dX0_fewestFreeing_8 ?_
  refine lv_istore_n (lv' := [(2, .int (nI (np + 1))), (1, .int (-9)), (0, .ref co)]) hx hb dX0_fewestFreeing_9 rfl hl (by decide) rfl (fun ls hl => ?_)
  refine lv_iconst (v := (nI 0)) hx hb dX0_fewestFreeing_10 (by decide) ?_
  refine lv_istore_n (lv' := [(3, .int (nI 0)), (2, .int (nI (np + 1))), (1, .int (-9)), (0, .ref co)]) hx hb dX0_fewestFreeing_11 rfl hl (by decide) rfl (fun ls hl => ?_)
  have lp12 : ∀ (nn : Nat) (j : Nat) (ls : Array Slot), (2 ^ np - j) < nn → (j ≤ 2 ^ np) → lv_has ls 4 [(0, .ref co), (1, .int (enc (fw lk np j))), (2, .int (nI (fwl lk np j))), (3, .int (nI j))] → W P l E ({ frames := 2, cells := 0, slots := 0, locals := 44 } : Room) s mt [.ref co].toArray below meth cd s.heap [] 0 0 (MQ below (vp_Si (fun r => r = enc (fw lk np (2 ^ np)))) [.ref co].toArray s 0 0 (fun _ => False)) (F0 mt 12 ls []) := by
    intro nn
    induction nn with
    | zero => intro j ls hmu; exact absurd hmu (Nat.not_lt_zero _)
    | succ nn ih12 =>
      intro j ls hmu hj hl
      have hq0 := fwl_le lk hnp j
      have hq1 := pc_32 j
      refine lv_iload_n hx hb dX0_fewestFreeing_12 rfl (lv_at hl 3 rfl) ?_
      refine lv_aload_n hx hb dX0_fewestFreeing_13 rfl (lv_at hl 0 rfl) ?_
      have hPc : PP g (wC g co ck ch cl np sl kd hg lk) _ := hP
      refine zcallR (va_runV (As := []) (rest := [.int (nI j)]) (b := co) S0 (c_X0_allPasses l g co ck ch cl np sl kd hg lk hnp) (cwV 0 hts gX0_fewestFreeing_X0_allPasses rfl rfl rfl (by decide +kernel) ⟨by decide, by decide⟩) (zpreV hK hPc (va_recv hK.1 hPc (ci := 0) (q0 := 0) rfl rfl)) rfl rfl hl.1 rfl (lv_room (Nat.le_of_ble_eq_true rfl)) dX0_fewestFreeing_14 ⟨by decide, by decide⟩) (fun r14 h14 => ?_)
      subst h14
      have f1 := (pow_le64 hnp)
      refine n_icmp_gt (a := j) (b := (2 ^ np - 1)) (tgt := 53) hx hb (by omega) (by omega) dX0_fewestFreeing_17 (by decide) (fun c17 => ?_) (fun c17 => ?_)
      · obtain rfl : 2 ^ np = j := by omega
        refine lv_iload_n hx hb dX0_fewestFreeing_53 rfl (lv_at hl 1 rfl) ?_
        exact zretI hx hb hr hlocks rfl rfl dX0_fewestFreeing_54
      · refine lv_iload_n hx hb dX0_fewestFreeing_20 rfl (lv_at hl 3 rfl) ?_
        refine zcallR (va_runS (As := [.int (nI j)]) (rest := []) S0 (c_bitCount l g j (by omega)) (va_cwS 1 hts gX0_fewestFreeing_J6_bitCount_0f7a4 rfl rfl rfl (by decide +kernel) ⟨by decide, by decide⟩) (zpreS hK (P_nil _)) rfl rfl hl.1 rfl (lv_room (Nat.le_of_ble_eq_true rfl)) dX0_fewestFreeing_21 ⟨by decide, by decide⟩) (fun r21 h21 => ?_)
        subst h21
        have f2 := pc_32 j
        refine lv_iload_n hx hb dX0_fewestFreeing_24 rfl (lv_at hl 2 rfl) ?_
        refine n_icmp_ge (a := (pc j)) (b := (fwl lk np j)) (tgt := 47) hx hb (by omega) (by omega) dX0_fewestFreeing_25 (by decide) (fun c25 => ?_) (fun c25 => ?_)
        · refine n_iinc (a := j) (d := 1) (lv' := [(3, .int (nI (j + 1))), (0, .ref co), (1, .int (enc (fw lk np j))), (2, .int (nI (fwl lk np j)))]) hx hb dX0_fewestFreeing_47 hl (k := 3) rfl (by decide) (by decide) rfl (fun ls hl => ?_)
          refine lv_goto (tgt := 12) hx hb dX0_fewestFreeing_50 (by decide) ?_
          exact ih12 (j + 1)  ls (by omega) (by omega) (lv_sub hl [1, 2, 3, 0] (by rw [fwl_eq (fw_no1 (by omega) c25), fw_no1 (by omega) c25]; rfl))
        · refine lv_aload_n hx hb dX0_fewestFreeing_28 rfl (lv_at hl 0 rfl) ?_
          refine lv_iload_n hx hb dX0_fewestFreeing_29 rfl (lv_at hl 3 rfl) ?_
          have hPc : PP g (wC g co ck ch cl np sl kd hg lk) _ := hP
          refine zcallR (va_runV (As := [.int (nI j)]) (rest := []) (b := co) S0 (c_X0_freedBy l g co ck ch cl np sl kd hg lk j hnp (by omega)) (cwV 1 hts gX0_fewestFreeing_X0_freedBy rfl rfl rfl (by decide +kernel) ⟨by decide, by decide⟩) (zpreV hK hPc (va_recv hK.1 hPc (ci := 0) (q0 := 0) rfl rfl)) rfl rfl hl.1 rfl (lv_room (Nat.le_of_ble_eq_true rfl)) dX0_fewestFreeing_30 ⟨by decide, by decide⟩) (fun r30 h30 => ?_)
          subst h30
          have f3 := bset_64 (frb lk j) hnp
          refine lv_aload_n hx hb dX0_fewestFreeing_33 rfl (lv_at hl 0 rfl) ?_
          have hPc : PP g (wC g co ck ch cl np sl kd hg lk) _ := hP
          refine zcallR (va_runV (As := []) (rest := [.int (nI (bset (frb lk j) np))]) (b := co) S0 (c_X0_allPasses l g co ck ch cl np sl kd hg lk hnp) (cwV 0 hts gX0_fewestFreeing_X0_allPasses rfl rfl rfl (by decide +kernel) ⟨by decide, by decide⟩) (zpreV hK hPc (va_recv hK.1 hPc (ci := 0) (q0 := 0) rfl rfl)) rfl rfl hl.1 rfl (lv_room (Nat.le_of_ble_eq_true rfl)) dX0_fewestFreeing_34 ⟨by decide, by decide⟩) (fun r34 h34 => ?_)
          subst h34
          have f4 := (pow_le64 hnp)
          refine n_icmp_ne (a := (bset (frb lk j) np)) (b := (2 ^ np - 1)) (tgt := 47) hx hb (by omega) (by omega) dX0_fewestFreeing_37 (by decide) (fun c37 => ?_) (fun c37 => ?_)
          · refine n_iinc (a := j) (d := 1) (lv' := [(3, .int (nI (j + 1))), (0, .ref co), (1, .int (enc (fw lk np j))), (2, .int (nI (fwl lk np j)))]) hx hb dX0_fewestFreeing_47 hl (k := 3) rfl (by decide) (by decide) rfl (fun ls hl => ?_)
            refine lv_goto (tgt := 12) hx hb dX0_fewestFreeing_50 (by decide) ?_
            exact ih12 (j + 1)  ls (by omega) (by omega) (lv_sub hl [1, 2, 3, 0] (by rw [fwl_eq (fw_no2 c37), fw_no2 c37]; rfl))
          · refine lv_iload_n hx hb dX0_fewestFreeing_40 rfl (lv_at hl 3 rfl) ?_
            refine lv_istore_n (lv' := [(1, .int (nI j)), (0, .ref co), (2, .int (nI (fwl lk np j))), (3, .int (nI j))]) hx hb dX0_fewestFreeing_41 rfl hl (by decide) rfl (fun ls hl => ?_)
            refine lv_iload_n hx hb dX0_fewestFreeing_42 rfl (lv_at hl 3 rfl) ?_
            refine zcallR (va_runS (As := [.int (nI j)]) (rest := []) S0 (c_bitCount l g j (by omega)) (va_cwS 1 hts gX0_fewestFreeing_J6_bitCount_0f7a4 rfl rfl rfl (by decide +kernel) ⟨by decide, by decide⟩) (zpreS hK (P_nil _)) rfl rfl hl.1 rfl (lv_room (Nat.le_of_ble_eq_true rfl)) dX0_fewestFreeing_43 ⟨by decide, by decide⟩) (fun r43 h43 => ?_)
            subst h43
            have f5 := pc_32 j
            refine lv_istore_n (lv' := [(2, .int (nI (pc j))), (1, .int (nI j)), (0, .ref co), (3, .int (nI j))]) hx hb dX0_fewestFreeing_46 rfl hl (by decide) rfl (fun ls hl => ?_)
            refine n_iinc (a := j) (d := 1) (lv' := [(3, .int (nI (j + 1))), (2, .int (nI (pc j))), (1, .int (nI j)), (0, .ref co)]) hx hb dX0_fewestFreeing_47 hl (k := 3) rfl (by decide) (by decide) rfl (fun ls hl => ?_)
            refine lv_goto (tgt := 12) hx hb dX0_fewestFreeing_50 (by decide) ?_
            exact ih12 (j + 1)  ls (by omega) (by omega) (lv_sub hl [3, 2, 1, 0] (by rw [fwl_yes (fw_yes c25 c37), fw_yes c25 c37]; rfl))
  exact lp12 (2 ^ np - 0 + 1) 0  ls (Nat.lt_succ_self _) (by omega) (lv_sub hl [3, 2, 1, 0] rfl)
