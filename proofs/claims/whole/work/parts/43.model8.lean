def xL (cel : Nat → Nat → Int32) (p e : Nat) : Int32 := if p < e then cf cel p else nI 0
theorem xL_k {cel : Nat → Nat → Int32} {p e : Nat} (h : ¬ kL (xL cel p e) = -9) : gp cel p e 0 ∧ xL cel p e = cf cel p := by
  by_cases a : p < e
  · have q : xL cel p e = cf cel p := by rw [xL, if_pos a]
    rw [q] at h
    exact ⟨⟨a, by rw [if_pos rfl]; exact kL_n9 h⟩, q⟩
  · have q : xL cel p e = nI 0 := by rw [xL, if_neg a]
    rw [q] at h
    exact absurd (show kL (nI 0) = -9 by decide) h
theorem dgR_n9 {cel : Nat → Nat → Int32} {p e : Nat} (h : ¬ dgR cel p e = -9) : dgC cel p e := by
  by_cases a : dgC cel p e
  · exact a
  · exact absurd (dgR_n a).symm h
theorem dgR_9 {cel : Nat → Nat → Int32} {p e : Nat} (h : dgR cel p e = -9) : ¬ dgC cel p e := fun a => by
  rw [dgR, if_pos a] at h
  exact nI_ne9 (by have := (dg_dv a.2).2; omega) h
theorem rp_s1 {cel : Nat → Nat → Int32} {p e k : Nat} (h : ∀ d, d < k → dgC cel (p + 1 + d) e) (h1 : dgC cel (p + 1 + k) e) : ∀ d, d < k + 1 → dgC cel (p + 1 + d) e := fun d hd => by
  rcases Nat.lt_or_ge d k with z | z
  · exact h d z
  · rw [show d = k by omega]; exact h1
theorem rp_s2 {rq rh : Nat → Int32} {rn k : Nat} {v : Int32} (h : ∀ j, j < 3 * rn → rq j = rh j) : ∀ j, j < 3 * rn → upd rq (3 * rn + k) v j = rh j := fun j hj => by
  unfold upd; rw [if_neg (by omega)]; exact h j hj
theorem rp_s3 {cel : Nat → Nat → Int32} {rq : Nat → Int32} {p e rn k : Nat} (h : ∀ d, d < k → rq (3 * rn + d) = nI (dv (cf cel (p + 1 + d)))) (h1 : dgC cel (p + 1 + k) e) : ∀ d, d < k + 1 → upd rq (3 * rn + k) (dgR cel (p + 1 + k) e) (3 * rn + d) = nI (dv (cf cel (p + 1 + d))) := fun d hd => by
  unfold upd
  rcases Nat.lt_or_ge d k with z | z
  · rw [if_neg (by omega)]; exact h d z
  · obtain rfl : d = k := by omega
    rw [if_pos rfl]; exact (dgR_y h1).symm
theorem rk_s {rk : Nat → Int32} {rn : Nat} {v : Int32} : ∀ j, j < rn → upd rk rn v j = rk j := fun j hj => by
  unfold upd; rw [if_neg (by omega)]
theorem rp_0 {cel : Nat → Nat → Int32} {p e rn : Nat} {rk rh : Nat → Int32} (h : kL (xL cel p e) = -9) : rpQ cel p e rn rk rh (nI 0) 0 (upd rk rn (kL (xL cel p e))) rh := by
  refine ⟨Or.inr ⟨by decide, fun z => ?_, rfl⟩, fun _ z => absurd z (Nat.not_lt_zero _), rk_s, fun _ _ => rfl, fun z => absurd z (by decide)⟩
  have h2 := z.2
  rw [if_pos rfl] at h2
  rw [xL, if_pos (show p < e from z.1)] at h
  exact kL_9 h h2
theorem rp_g {cel : Nat → Nat → Int32} {p e k : Nat} (h0 : gp cel p e 0) (h : ∀ d, d < k → dgC cel (p + 1 + d) e) : ∀ d, d < 1 + k → gp cel p e d := fun d hd => by
  rcases Nat.eq_zero_or_pos d with z | z
  · rw [z]; exact h0
  · have := gp_d (h (d - 1) (by omega))
    rw [show 1 + (d - 1) = d by omega] at this
    exact this
theorem rp_d {cel : Nat → Nat → Int32} {p e rn k : Nat} {rk rh rq : Nat → Int32} {v w : Int32} (hk : k < 3) (h0 : gp cel p e 0 ∧ xL cel p e = cf cel p) (h1 : ∀ j, j < 3 * rn → rq j = rh j) (h : ∀ d, d < k → dgC cel (p + 1 + d) e) (hd : ¬ dgC cel (p + 1 + k) e) : rpQ cel p e rn rk rh (nI 0) (1 + k) (upd rk rn w) (upd rq (3 * rn + k) v) :=
  ⟨Or.inr ⟨by omega, gp_n hd, rfl⟩, rp_g h0.1 h, rk_s, rp_s2 h1, fun z => absurd z (by omega)⟩
theorem rp_4 {cel : Nat → Nat → Int32} {p e rn : Nat} {rk rh rq : Nat → Int32} (h0 : gp cel p e 0 ∧ xL cel p e = cf cel p) (h1 : ∀ j, j < 3 * rn → rq j = rh j) (h2 : ∀ d, d < 3 → rq (3 * rn + d) = nI (dv (cf cel (p + 1 + d)))) (h : ∀ d, d < 3 → dgC cel (p + 1 + d) e) : rpQ cel p e rn rk rh (nI 1) 4 (upd rk rn (kL (xL cel p e))) rq := by
  refine ⟨Or.inl ⟨rfl, rfl⟩, rp_g h0.1 h, rk_s, h1, fun _ => ⟨?_, h2⟩⟩
  unfold upd
  rw [if_pos rfl, h0.2]
  have := h0.1.2
  rw [if_pos rfl] at this
  exact kL_y this
set_option maxHeartbeats 4000000 in
set_option maxRecDepth 100000 in
theorem c_X5_readPass (l : Launch) (g : Gx) (y : Nat) (ya : Nat) (yb : Nat) (yc : Nat) (yd : Nat) (ye : Nat) (yf : Nat) (yg : Nat) (yh : Nat) (yi : Nat) (yj : Nat) (yk : Nat) (yl : Nat) (ft : Nat) (tr : Int32) (lane : Nat → Nat) (ml : Nat → Nat) (cel : Nat → Nat → Int32) (np : Nat) (sl : Nat) (kd : Nat → Nat) (hg : Nat → Nat) (ps : Nat) (rs : Int32) (rn : Nat) (rk : Nat → Int32) (rh : Nat → Int32) (lg : Int32) (fk : Int32) (gt : Int32) (tkn : Nat → Int32) (nr : Nat) (ru : Nat → Nat) (rl : Nat → Nat) (rm : Nat → Nat) (rd : Nat → Nat) (e : Nat) (he : e ≤ 240) (hpe : ps ≤ e) (hrn : rn < 6) : Met l yX5_readPass wsX5_readPass ({ frames := 2, cells := 0, slots := 0, locals := 43 } : Room) (PcM g [.ref y, .int (nI e)] (wM g y ya yb yc yd ye yf yg yh yi yj yk yl ft tr lane ml cel np sl kd hg ps rs rn rk rh lg fk gt tkn nr ru rl rm rd)) (va_Qi (fun (r : Int32) (uu : Nat × (Nat → Int32) × (Nat → Int32)) => (uu.1 = 4 ∧ rpR cel ps e rn rk rh uu.1 uu.2.1 uu.2.2 ∧ r = nI 1) ∨ ((uu.1 < 4 ∧ ¬ gp cel ps e uu.1) ∧ rpR cel ps e rn rk rh uu.1 uu.2.1 uu.2.2 ∧ r = nI 0)) (fun (uu : Nat × (Nat → Int32) × (Nat → Int32)) t => PP g (wM g y ya yb yc yd ye yf yg yh yi yj yk yl ft tr lane ml cel np sl kd hg (ps + uu.1) rs (rn + uu.1 / 4) uu.2.1 uu.2.2 lg fk gt tkn nr ru rl rm rd) t.heap) (inW (wM g y ya yb yc yd ye yf yg yh yi yj yk yl ft tr lane ml cel np sl kd hg ps rs rn rk rh lg fk gt tkn nr ru rl rm rd))) 0 0 (inW (wM g y ya yb yc yd ye yf yg yh yi yj yk yl ft tr lane ml cel np sl kd hg ps rs rn rk rh lg fk gt tkn nr ru rl rm rd)) := by
  refine zenterM (cc := cX5_readPass) (maxL := 4) (ret := (some .boolean)) (by decide) rfl (Nat.le_of_ble_eq_true rfl) ?_
  intro P E s mt below meth cd ls hx hb hml hown hts hr hlocks hP hK hD hS hl
  skip
  have hl : lv_has ls 4 [(0, .ref y), (1, .int (nI e))] := hl
  have S0 : CallFix P mt cd cX5_readPass 4 s [.ref y, .int (nI e)].toArray wsX5_readPass RX5 := ⟨hx, hb, hml, hown, hts⟩
  refine lv_aload_n hx hb dX5_readPass_0 rfl (lv_at hl 0 rfl) ?_
  refine va_get (D := g.1) (ci := 5) (v := .int (nI ps)) (C := RX5) (T := TX5) (N := 23) hx hb hts (fun _ h => (List.mem_cons_of_mem _ (List.mem_append_right _ h))) hown hK.1 hP 0 rfl rfl 9 (by decide) (hts _ (List.mem_of_getElem? (i := 1) rfl)) (fun _ h9 => h9) rfl dX5_readPass_1 ?_
  refine lv_iload_n hx hb dX5_readPass_4 rfl (lv_at hl 1 rfl) ?_
  refine n_icmp_ge (a := ps) (b := e) (tgt := 20) hx hb (by omega) (by omega) dX5_readPass_5 (by decide) (fun c5 => ?_) (fun c5 => ?_)
  · refine lv_iconst (v := (nI 0)) hx hb dX5_readPass_20 (by decide) ?_
    refine ztopI (xL cel ps e) (by rw [xL, if_neg (by omega)]) ?_
    refine lv_istore_n (lv' := [(2, .int (xL cel ps e)), (0, .ref y), (1, .int (nI e))]) hx hb dX5_readPass_21 rfl hl (by decide) rfl (fun ls hl => ?_)
    refine lv_aload_n hx hb dX5_readPass_22 rfl (lv_at hl 1 rfl) ?_
    refine va_get (D := g.1) (ci := 5) (v := .ref yf) (C := RX5) (T := TX5) (N := 23) hx hb hts (fun _ h => (List.mem_cons_of_mem _ (List.mem_append_right _ h))) hown hK.1 hP 0 rfl rfl 12 (by decide) (hts _ (List.mem_of_getElem? (i := 3) rfl)) (fun _ h9 => h9) rfl dX5_readPass_23 ?_
    refine lv_aload_n hx hb dX5_readPass_26 rfl (lv_at hl 1 rfl) ?_
    refine va_get (D := g.1) (ci := 5) (v := .int (nI rn)) (C := RX5) (T := TX5) (N := 23) hx hb hts (fun _ h => (List.mem_cons_of_mem _ (List.mem_append_right _ h))) hown hK.1 hP 0 rfl rfl 11 (by decide) (hts _ (List.mem_of_getElem? (i := 4) rfl)) (fun _ h9 => h9) rfl dX5_readPass_27 ?_
    refine lv_iload_n hx hb dX5_readPass_30 rfl (lv_at hl 0 rfl) ?_
    refine lv_bipush (v := (nI 112)) hx hb dX5_readPass_31 (by decide) ?_
    refine lv_icmp_ne (tgt := 40) hx hb dX5_readPass_33 (by decide) (fun c33 => ?_) (fun c33 => ?_)
    · refine lv_iload_n hx hb dX5_readPass_40 rfl (lv_at hl 0 rfl) ?_
      refine lv_bipush (v := (nI 108)) hx hb dX5_readPass_41 (by decide) ?_
      refine lv_icmp_ne (tgt := 50) hx hb dX5_readPass_43 (by decide) (fun c43 => ?_) (fun c43 => ?_)
      · refine lv_iload_n hx hb dX5_readPass_50 rfl (lv_at hl 0 rfl) ?_
        refine lv_bipush (v := (nI 100)) hx hb dX5_readPass_51 (by decide) ?_
        refine lv_icmp_ne (tgt := 60) hx hb dX5_readPass_53 (by decide) (fun c53 => ?_) (fun c53 => ?_)
        · refine lv_bipush (v := (-9)) hx hb dX5_readPass_60 (by decide) ?_
          refine ztopI (kL (xL cel ps e)) (by rw [kL, if_neg c33, if_neg c43, if_neg c53]) ?_
          refine n_iast (i := rn) (x := (kL (xL cel ps e))) (ws1 := wM g y ya yb yc yd ye yf yg yh yi yj yk yl ft tr lane ml cel np sl kd hg ps rs rn (upd rk rn (kL (xL cel ps e))) rh lg fk gt tkn nr ru rl rm rd) hx hb hK.1 hP hD hS 6 0 rfl rfl (by omega) (by decide) (upd rk rn (kL (xL cel ps e))) rfl rfl dX5_readPass_62 (fun H locs hP hD hS => ?_)
          refine lv_aload_n hx hb dX5_readPass_63 rfl (lv_at hl 1 rfl) ?_
          refine va_get (D := g.1) (ci := 5) (v := .ref yf) (C := RX5) (T := TX5) (N := 23) hx hb hts (fun _ h => (List.mem_cons_of_mem _ (List.mem_append_right _ h))) hown hK.1 hP 0 rfl rfl 12 (by decide) (hts _ (List.mem_of_getElem? (i := 3) rfl)) (fun _ h9 => h9) rfl dX5_readPass_64 ?_
          refine lv_aload_n hx hb dX5_readPass_67 rfl (lv_at hl 1 rfl) ?_
          refine va_get (D := g.1) (ci := 5) (v := .int (nI rn)) (C := RX5) (T := TX5) (N := 23) hx hb hts (fun _ h => (List.mem_cons_of_mem _ (List.mem_append_right _ h))) hown hK.1 hP 0 rfl rfl 11 (by decide) (hts _ (List.mem_of_getElem? (i := 4) rfl)) (fun _ h9 => h9) rfl dX5_readPass_68 ?_
          refine n_iald (i := rn) (v := ((upd rk rn (kL (xL cel ps e))) rn)) hx hb hK.1 hP 6 0 rfl rfl (by omega) (by decide) rfl dX5_readPass_71 ?_
          refine ztopI (kL (xL cel ps e)) (if_pos rfl) ?_
          refine lv_bipush (v := (-9)) hx hb dX5_readPass_72 (by decide) ?_
          refine lv_icmp_ne (tgt := 79) hx hb dX5_readPass_74 (by decide) (fun c74 => ?_) (fun c74 => ?_)
          · have hkk : gp cel ps e 0 ∧ xL cel ps e = cf cel ps := xL_k c74
            have hp1 := hkk.1.1
            refine lv_aload_n hx hb dX5_readPass_79 rfl (lv_at hl 1 rfl) ?_
            refine lv_dup hx hb dX5_readPass_80 rfl ?_
            refine va_get (D := g.1) (ci := 5) (v := .int (nI ps)) (C := RX5) (T := TX5) (N := 23) hx hb hts (fun _ h => (List.mem_cons_of_mem _ (List.mem_append_right _ h))) hown hK.1 hP 0 rfl rfl 9 (by decide) (hts _ (List.mem_of_getElem? (i := 1) rfl)) (fun _ h9 => h9) rfl dX5_readPass_81 ?_
            refine lv_iconst (v := (nI 1)) hx hb dX5_readPass_84 (by decide) ?_
            refine n_iadd (a := ps) (b := 1) hx hb dX5_readPass_85 ?_
            refine n_put (D := g.1) (ci := 5) (v := .int (nI (ps + 1))) (ty := .int) (C := RX5) (T := TX5) (N := 23) (ws1 := wM g y ya yb yc yd ye yf yg yh yi yj yk yl ft tr lane ml cel np sl kd hg (ps + 1) rs rn (upd rk rn (kL (xL cel ps e))) rh lg fk gt tkn nr ru rl rm rd) hx hb hts (fun _ h => (List.mem_cons_of_mem _ (List.mem_append_right _ h))) tyX5 tyX5_ok nmX5 hown hK.1 hP hD hS 0 rfl rfl 9 (by decide) (hts _ (List.mem_of_getElem? (i := 1) rfl)) (fun _ h9 => h9) rfl (by decide +kernel) rfl rfl (Nat.le_of_ble_eq_true rfl) rfl dX5_readPass_86 (fun H locs hP hD hS => ?_)
            refine lv_iconst (v := (nI 0)) hx hb dX5_readPass_89 (by decide) ?_
            refine lv_istore_n (lv' := [(3, .int (nI 0)), (2, .int (xL cel ps e)), (0, .ref y), (1, .int (nI e))]) hx hb dX5_readPass_90 rfl hl (by decide) rfl (fun ls hl => ?_)
            have lp91 : ∀ (nn : Nat) (k : Nat) (rq : Nat → Int32) (H : Heap) (locs : List Loc) (ls : Array Slot), (3 - k) < nn → (k ≤ 3) → (ps + 1 + k ≤ e) → (∀ d, d < k → dgC cel (ps + 1 + d) e) → (∀ j, j < 3 * rn → rq j = rh j) → (∀ d, d < k → rq (3 * rn + d) = nI (dv (cf cel (ps + 1 + d)))) → PP g (wM g y ya yb yc yd ye yf yg yh yi yj yk yl ft tr lane ml cel np sl kd hg (ps + 1 + k) rs rn (upd rk rn (kL (xL cel ps e))) rq lg fk gt tkn nr ru rl rm rd) H → va_D (inW (wM g y ya yb yc yd ye yf yg yh yi yj yk yl ft tr lane ml cel np sl kd hg ps rs rn rk rh lg fk gt tkn nr ru rl rm rd)) (wM g y ya yb yc yd ye yf yg yh yi yj yk yl ft tr lane ml cel np sl kd hg (ps + 1 + k) rs rn (upd rk rn (kL (xL cel ps e))) rq lg fk gt tkn nr ru rl rm rd) → va_S (inW (wM g y ya yb yc yd ye yf yg yh yi yj yk yl ft tr lane ml cel np sl kd hg ps rs rn rk rh lg fk gt tkn nr ru rl rm rd)) s.heap H locs → lv_has ls 4 [(0, .ref y), (1, .int (nI e)), (2, .int (xL cel ps e)), (3, .int (nI k))] → W P l E ({ frames := 2, cells := 0, slots := 0, locals := 43 } : Room) s mt [.ref y, .int (nI e)].toArray below meth cd H locs 0 0 (MQ below (va_Qi (fun (r : Int32) (uu : Nat × (Nat → Int32) × (Nat → Int32)) => (uu.1 = 4 ∧ rpR cel ps e rn rk rh uu.1 uu.2.1 uu.2.2 ∧ r = nI 1) ∨ ((uu.1 < 4 ∧ ¬ gp cel ps e uu.1) ∧ rpR cel ps e rn rk rh uu.1 uu.2.1 uu.2.2 ∧ r = nI 0)) (fun (uu : Nat × (Nat → Int32) × (Nat → Int32)) t => PP g (wM g y ya yb yc yd ye yf yg yh yi yj yk yl ft tr lane ml cel np sl kd hg (ps + uu.1) rs (rn + uu.1 / 4) uu.2.1 uu.2.2 lg fk gt tkn nr ru rl rm rd) t.heap) (inW (wM g y ya yb yc yd ye yf yg yh yi yj yk yl ft tr lane ml cel np sl kd hg ps rs rn rk rh lg fk gt tkn nr ru rl rm rd))) [.ref y, .int (nI e)].toArray s 0 0 (inW (wM g y ya yb yc yd ye yf yg yh yi yj yk yl ft tr lane ml cel np sl kd hg ps rs rn rk rh lg fk gt tkn nr ru rl rm rd))) (F0 mt 91 ls []) := by
              intro nn
              induction nn with
              | zero => intro k rq H locs ls hmu; exact absurd hmu (Nat.not_lt_zero _)
              | succ nn ih91 =>
                intro k rq H locs ls hmu hk hpk hdd hrq1 hrq2 hP hD hS hl
                refine lv_iload_n hx hb dX5_readPass_91 rfl (lv_at hl 3 rfl) ?_
                refine lv_iconst (v := (nI 3)) hx hb dX5_readPass_92 (by decide) ?_
                refine n_icmp_ge (a := k) (b := 3) (tgt := 140) hx hb (by omega) (by omega) dX5_readPass_93 (by decide) (fun c93 => ?_) (fun c93 => ?_)
                · obtain rfl : 3 = k := by omega
                  rw [show ps + 1 + 3 = ps + 4 from rfl] at hP hD
                  refine lv_aload_n hx hb dX5_readPass_140 rfl (lv_at hl 0 rfl) ?_
                  refine lv_dup hx hb dX5_readPass_141 rfl ?_
                  refine va_get (D := g.1) (ci := 5) (v := .int (nI rn)) (C := RX5) (T := TX5) (N := 23) hx hb hts (fun _ h => (List.mem_cons_of_mem _ (List.mem_append_right _ h))) hown hK.1 hP 0 rfl rfl 11 (by decide) (hts _ (List.mem_of_getElem? (i := 4) rfl)) (fun _ h9 => h9) rfl dX5_readPass_142 ?_
                  refine lv_iconst (v := (nI 1)) hx hb dX5_readPass_145 (by decide) ?_
                  refine n_iadd (a := rn) (b := 1) hx hb dX5_readPass_146 ?_
                  refine n_put (D := g.1) (ci := 5) (v := .int (nI (rn + 1))) (ty := .int) (C := RX5) (T := TX5) (N := 23) (ws1 := wM g y ya yb yc yd ye yf yg yh yi yj yk yl ft tr lane ml cel np sl kd hg (ps + 4) rs (rn + 1) (upd rk rn (kL (xL cel ps e))) rq lg fk gt tkn nr ru rl rm rd) hx hb hts (fun _ h => (List.mem_cons_of_mem _ (List.mem_append_right _ h))) tyX5 tyX5_ok nmX5 hown hK.1 hP hD hS 0 rfl rfl 11 (by decide) (hts _ (List.mem_of_getElem? (i := 4) rfl)) (fun _ h9 => h9) rfl (by decide +kernel) rfl rfl (Nat.le_of_ble_eq_true rfl) rfl dX5_readPass_147 (fun H locs hP hD hS => ?_)
                  refine lv_iconst (v := (nI 1)) hx hb dX5_readPass_150 (by decide) ?_
                  exact zretMI (w1 := fun (uu : Nat × (Nat → Int32) × (Nat → Int32)) => wM g y ya yb yc yd ye yf yg yh yi yj yk yl ft tr lane ml cel np sl kd hg (ps + uu.1) rs (rn + uu.1 / 4) uu.2.1 uu.2.2 lg fk gt tkn nr ru rl rm rd) (4, upd rk rn (kL (xL cel ps e)), rq) hx hb hr hlocks hS rfl (rpQ_or (rp_4 hkk hrq1 hrq2 hdd)) (by simp only [show 4 / 4 = 1 from rfl]; exact hP) dX5_readPass_151
                · have hk3 : k < 3 := by omega
                  refine lv_aload_n hx hb dX5_readPass_96 rfl (lv_at hl 0 rfl) ?_
                  refine va_get (D := g.1) (ci := 5) (v := .ref yg) (C := RX5) (T := TX5) (N := 23) hx hb hts (fun _ h => (List.mem_cons_of_mem _ (List.mem_append_right _ h))) hown hK.1 hP 0 rfl rfl 13 (by decide) (hts _ (List.mem_of_getElem? (i := 5) rfl)) (fun _ h9 => h9) rfl dX5_readPass_97 ?_
                  refine lv_iconst (v := (nI 3)) hx hb dX5_readPass_100 (by decide) ?_
                  refine lv_aload_n hx hb dX5_readPass_101 rfl (lv_at hl 0 rfl) ?_
                  refine va_get (D := g.1) (ci := 5) (v := .int (nI rn)) (C := RX5) (T := TX5) (N := 23) hx hb hts (fun _ h => (List.mem_cons_of_mem _ (List.mem_append_right _ h))) hown hK.1 hP 0 rfl rfl 11 (by decide) (hts _ (List.mem_of_getElem? (i := 4) rfl)) (fun _ h9 => h9) rfl dX5_readPass_102 ?_
                  refine n_imul (a := 3) (b := rn) hx hb dX5_readPass_105 ?_
                  refine lv_iload_n hx hb dX5_readPass_106 rfl (lv_at hl 3 rfl) ?_
                  refine n_iadd (a := (3 * rn)) (b := k) hx hb dX5_readPass_107 ?_
                  refine lv_aload_n hx hb dX5_readPass_108 rfl (lv_at hl 0 rfl) ?_
                  refine lv_iload_n hx hb dX5_readPass_109 rfl (lv_at hl 1 rfl) ?_
                  have hPc : PP g (wM g y ya yb yc yd ye yf yg yh yi yj yk yl ft tr lane ml cel np sl kd hg (ps + 1 + k) rs rn (upd rk rn (kL (xL cel ps e))) rq lg fk gt tkn nr ru rl rm rd) _ := P_sub hP [0, 1, 2, 3, 4, 5, 6, 7, 8, 9, 10, 11, 12] rfl
                  refine zcallM (w := wM g y ya yb yc yd ye yf yg yh yi yj yk yl ft tr lane ml cel np sl kd hg (ps + 1 + k) rs rn (upd rk rn (kL (xL cel ps e))) rq lg fk gt tkn nr ru rl rm rd) (va_runV (As := [.int (nI e)]) (rest := [.int (nI ((3 * rn) + k)), .ref yg]) (b := y) S0 (c_X5_digit l g y ya yb yc yd ye yf yg yh yi yj yk yl ft tr lane ml cel np sl kd hg (ps + 1 + k) rs rn (upd rk rn (kL (xL cel ps e))) rq lg fk gt tkn nr ru rl rm rd e he hpk) (cwV 1 hts gX5_readPass_X5_digit rfl rfl rfl (by decide +kernel) ⟨by decide, by decide⟩) (zpreVM hK hP hD [0, 1, 2, 3, 4, 5, 6, 7, 8, 9, 10, 11, 12] rfl (by decide) (va_recv hK.1 hPc (ci := 5) (q0 := 0) rfl rfl)) rfl rfl hl.1 rfl (lv_room (Nat.le_of_ble_eq_true rfl)) dX5_readPass_110 ⟨by decide, by decide⟩) hP hD hS [0, 1, 2, 3, 4, 5, 6, 7, 8, 9, 10, 11, 12] rfl (fun uu110 => wM g y ya yb yc yd ye yf yg yh yi yj yk yl ft tr lane ml cel np sl kd hg (dgP cel (ps + 1 + k) e) rs rn (upd rk rn (kL (xL cel ps e))) rq lg fk gt tkn nr ru rl rm rd) (fun _ => lz_wM.trans lz_wM.symm) (fun _ => rfl) (fun _ => ad_wM.trans ad_wM.symm) (fun r110 uu110 H locs h110 hP hD hS => ?_)
                  subst h110
                  refine n_iast (i := ((3 * rn) + k)) (x := (dgR cel (ps + 1 + k) e)) (ws1 := wM g y ya yb yc yd ye yf yg yh yi yj yk yl ft tr lane ml cel np sl kd hg (dgP cel (ps + 1 + k) e) rs rn (upd rk rn (kL (xL cel ps e))) (upd rq ((3 * rn) + k) (dgR cel (ps + 1 + k) e)) lg fk gt tkn nr ru rl rm rd) hx hb hK.1 hP hD hS 7 0 rfl rfl (by omega) (by decide) (upd rq ((3 * rn) + k) (dgR cel (ps + 1 + k) e)) rfl rfl dX5_readPass_113 (fun H locs hP hD hS => ?_)
                  refine lv_aload_n hx hb dX5_readPass_114 rfl (lv_at hl 0 rfl) ?_
                  refine va_get (D := g.1) (ci := 5) (v := .ref yg) (C := RX5) (T := TX5) (N := 23) hx hb hts (fun _ h => (List.mem_cons_of_mem _ (List.mem_append_right _ h))) hown hK.1 hP 0 rfl rfl 13 (by decide) (hts _ (List.mem_of_getElem? (i := 5) rfl)) (fun _ h9 => h9) rfl dX5_readPass_115 ?_
                  refine lv_iconst (v := (nI 3)) hx hb dX5_readPass_118 (by decide) ?_
                  refine lv_aload_n hx hb dX5_readPass_119 rfl (lv_at hl 0 rfl) ?_
                  refine va_get (D := g.1) (ci := 5) (v := .int (nI rn)) (C := RX5) (T := TX5) (N := 23) hx hb hts (fun _ h => (List.mem_cons_of_mem _ (List.mem_append_right _ h))) hown hK.1 hP 0 rfl rfl 11 (by decide) (hts _ (List.mem_of_getElem? (i := 4) rfl)) (fun _ h9 => h9) rfl dX5_readPass_120 ?_
                  refine n_imul (a := 3) (b := rn) hx hb dX5_readPass_123 ?_
                  refine lv_iload_n hx hb dX5_readPass_124 rfl (lv_at hl 3 rfl) ?_
                  refine n_iadd (a := (3 * rn)) (b := k) hx hb dX5_readPass_125 ?_
                  refine n_iald (i := ((3 * rn) + k)) (v := ((upd rq ((3 * rn) + k) (dgR cel (ps + 1 + k) e)) ((3 * rn) + k))) hx hb hK.1 hP 7 0 rfl rfl (by omega) (by decide) rfl dX5_readPass_126 ?_
                  refine ztopI (dgR cel (ps + 1 + k) e) (if_pos rfl) ?_
                  refine lv_bipush (v := (-9)) hx hb dX5_readPass_127 (by decide) ?_
                  refine lv_icmp_ne (tgt := 134) hx hb dX5_readPass_129 (by decide) (fun c129 => ?_) (fun c129 => ?_)
                  · have hd : dgC cel (ps + 1 + k) e := dgR_n9 c129
                    rw [dgP_y hd] at hP hD
                    refine n_iinc (a := k) (d := 1) (lv' := [(3, .int (nI (k + 1))), (0, .ref y), (1, .int (nI e)), (2, .int (xL cel ps e))]) hx hb dX5_readPass_134 hl (k := 3) rfl (by decide) (by decide) rfl (fun ls hl => ?_)
                    refine lv_goto (tgt := 91) hx hb dX5_readPass_137 (by decide) ?_
                    exact ih91 (k + 1) (upd rq (3 * rn + k) (dgR cel (ps + 1 + k) e)) _ _ ls (by omega) (by omega) (by have := hd.1; omega) (rp_s1 hdd hd) (rp_s2 hrq1) (rp_s3 hrq2 hd) hP hD hS (lv_sub hl [1, 2, 3, 0] rfl)
                  · have hd : ¬ dgC cel (ps + 1 + k) e := dgR_9 c129
                    rw [dgP_n hd] at hP hD
                    refine lv_iconst (v := (nI 0)) hx hb dX5_readPass_132 (by decide) ?_
                    exact zretMI (w1 := fun (uu : Nat × (Nat → Int32) × (Nat → Int32)) => wM g y ya yb yc yd ye yf yg yh yi yj yk yl ft tr lane ml cel np sl kd hg (ps + uu.1) rs (rn + uu.1 / 4) uu.2.1 uu.2.2 lg fk gt tkn nr ru rl rm rd) (1 + k, upd rk rn (kL (xL cel ps e)), upd rq ((3 * rn) + k) (dgR cel (ps + 1 + k) e)) hx hb hr hlocks hS rfl (rpQ_or (rp_d hk3 hkk hrq1 hdd hd)) (by have e1 : (1 + k) / 4 = 0 := (by omega); have e2 : ps + (1 + k) = ps + 1 + k := (by omega); simp only [e1, e2, Nat.add_zero]; exact hP) dX5_readPass_133
            exact lp91 (3 - 0 + 1) 0 rh _ _ ls (Nat.lt_succ_self _) (by omega) (by omega) (fun _ z => absurd z (Nat.not_lt_zero _)) (fun _ _ => rfl) (fun _ z => absurd z (Nat.not_lt_zero _)) hP hD hS (lv_sub hl [2, 3, 1, 0] rfl)
          · refine lv_iconst (v := (nI 0)) hx hb dX5_readPass_77 (by decide) ?_
            exact zretMI (w1 := fun (uu : Nat × (Nat → Int32) × (Nat → Int32)) => wM g y ya yb yc yd ye yf yg yh yi yj yk yl ft tr lane ml cel np sl kd hg (ps + uu.1) rs (rn + uu.1 / 4) uu.2.1 uu.2.2 lg fk gt tkn nr ru rl rm rd) (0, upd rk rn (kL (xL cel ps e)), rh) hx hb hr hlocks hS rfl (rpQ_or (rp_0 c74)) (by simp only [show 0 / 4 = 0 from rfl, Nat.add_zero]; exact hP) dX5_readPass_78
        · refine lv_iconst (v := (nI 2)) hx hb dX5_readPass_56 (by decide) ?_
          refine ztopI (kL (xL cel ps e)) (by rw [kL, if_neg c33, if_neg c43, if_pos c53]) ?_
          refine lv_goto (tgt := 62) hx hb dX5_readPass_57 (by decide) ?_
          refine n_iast (i := rn) (x := (kL (xL cel ps e))) (ws1 := wM g y ya yb yc yd ye yf yg yh yi yj yk yl ft tr lane ml cel np sl kd hg ps rs rn (upd rk rn (kL (xL cel ps e))) rh lg fk gt tkn nr ru rl rm rd) hx hb hK.1 hP hD hS 6 0 rfl rfl (by omega) (by decide) (upd rk rn (kL (xL cel ps e))) rfl rfl dX5_readPass_62 (fun H locs hP hD hS => ?_)
          refine lv_aload_n hx hb dX5_readPass_63 rfl (lv_at hl 1 rfl) ?_
          refine va_get (D := g.1) (ci := 5) (v := .ref yf) (C := RX5) (T := TX5) (N := 23) hx hb hts (fun _ h => (List.mem_cons_of_mem _ (List.mem_append_right _ h))) hown hK.1 hP 0 rfl rfl 12 (by decide) (hts _ (List.mem_of_getElem? (i := 3) rfl)) (fun _ h9 => h9) rfl dX5_readPass_64 ?_
          refine lv_aload_n hx hb dX5_readPass_67 rfl (lv_at hl 1 rfl) ?_
          refine va_get (D := g.1) (ci := 5) (v := .int (nI rn)) (C := RX5) (T := TX5) (N := 23) hx hb hts (fun _ h => (List.mem_cons_of_mem _ (List.mem_append_right _ h))) hown hK.1 hP 0 rfl rfl 11 (by decide) (hts _ (List.mem_of_getElem? (i := 4) rfl)) (fun _ h9 => h9) rfl dX5_readPass_68 ?_
          refine n_iald (i := rn) (v := ((upd rk rn (kL (xL cel ps e))) rn)) hx hb hK.1 hP 6 0 rfl rfl (by omega) (by decide) rfl dX5_readPass_71 ?_
          refine ztopI (kL (xL cel ps e)) (if_pos rfl) ?_
          refine lv_bipush (v := (-9)) hx hb dX5_readPass_72 (by decide) ?_
          refine lv_icmp_ne (tgt := 79) hx hb dX5_readPass_74 (by decide) (fun c74 => ?_) (fun c74 => ?_)
          · have hkk : gp cel ps e 0 ∧ xL cel ps e = cf cel ps := xL_k c74
            have hp1 := hkk.1.1
            refine lv_aload_n hx hb dX5_readPass_79 rfl (lv_at hl 1 rfl) ?_
            refine lv_dup hx hb dX5_readPass_80 rfl ?_
            refine va_get (D := g.1) (ci := 5) (v := .int (nI ps)) (C := RX5) (T := TX5) (N := 23) hx hb hts (fun _ h => (List.mem_cons_of_mem _ (List.mem_append_right _ h))) hown hK.1 hP 0 rfl rfl 9 (by decide) (hts _ (List.mem_of_getElem? (i := 1) rfl)) (fun _ h9 => h9) rfl dX5_readPass_81 ?_
            refine lv_iconst (v := (nI 1)) hx hb dX5_readPass_84 (by decide) ?_
            refine n_iadd (a := ps) (b := 1) hx hb dX5_readPass_85 ?_
            refine n_put (D := g.1) (ci := 5) (v := .int (nI (ps + 1))) (ty := .int) (C := RX5) (T := TX5) (N := 23) (ws1 := wM g y ya yb yc yd ye yf yg yh yi yj yk yl ft tr lane ml cel np sl kd hg (ps + 1) rs rn (upd rk rn (kL (xL cel ps e))) rh lg fk gt tkn nr ru rl rm rd) hx hb hts (fun _ h => (List.mem_cons_of_mem _ (List.mem_append_right _ h))) tyX5 tyX5_ok nmX5 hown hK.1 hP hD hS 0 rfl rfl 9 (by decide) (hts _ (List.mem_of_getElem? (i := 1) rfl)) (fun _ h9 => h9) rfl (by decide +kernel) rfl rfl (Nat.le_of_ble_eq_true rfl) rfl dX5_readPass_86 (fun H locs hP hD hS => ?_)
            refine lv_iconst (v := (nI 0)) hx hb dX5_readPass_89 (by decide) ?_
            refine lv_istore_n (lv' := [(3, .int (nI 0)), (2, .int (xL cel ps e)), (0, .ref y), (1, .int (nI e))]) hx hb dX5_readPass_90 rfl hl (by decide) rfl (fun ls hl => ?_)
            have lp91 : ∀ (nn : Nat) (k : Nat) (rq : Nat → Int32) (H : Heap) (locs : List Loc) (ls : Array Slot), (3 - k) < nn → (k ≤ 3) → (ps + 1 + k ≤ e) → (∀ d, d < k → dgC cel (ps + 1 + d) e) → (∀ j, j < 3 * rn → rq j = rh j) → (∀ d, d < k → rq (3 * rn + d) = nI (dv (cf cel (ps + 1 + d)))) → PP g (wM g y ya yb yc yd ye yf yg yh yi yj yk yl ft tr lane ml cel np sl kd hg (ps + 1 + k) rs rn (upd rk rn (kL (xL cel ps e))) rq lg fk gt tkn nr ru rl rm rd) H → va_D (inW (wM g y ya yb yc yd ye yf yg yh yi yj yk yl ft tr lane ml cel np sl kd hg ps rs rn rk rh lg fk gt tkn nr ru rl rm rd)) (wM g y ya yb yc yd ye yf yg yh yi yj yk yl ft tr lane ml cel np sl kd hg (ps + 1 + k) rs rn (upd rk rn (kL (xL cel ps e))) rq lg fk gt tkn nr ru rl rm rd) → va_S (inW (wM g y ya yb yc yd ye yf yg yh yi yj yk yl ft tr lane ml cel np sl kd hg ps rs rn rk rh lg fk gt tkn nr ru rl rm rd)) s.heap H locs → lv_has ls 4 [(0, .ref y), (1, .int (nI e)), (2, .int (xL cel ps e)), (3, .int (nI k))] → W P l E ({ frames := 2, cells := 0, slots := 0, locals := 43 } : Room) s mt [.ref y, .int (nI e)].toArray below meth cd H locs 0 0 (MQ below (va_Qi (fun (r : Int32) (uu : Nat × (Nat → Int32) × (Nat → Int32)) => (uu.1 = 4 ∧ rpR cel ps e rn rk rh uu.1 uu.2.1 uu.2.2 ∧ r = nI 1) ∨ ((uu.1 < 4 ∧ ¬ gp cel ps e uu.1) ∧ rpR cel ps e rn rk rh uu.1 uu.2.1 uu.2.2 ∧ r = nI 0)) (fun (uu : Nat × (Nat → Int32) × (Nat → Int32)) t => PP g (wM g y ya yb yc yd ye yf yg yh yi yj yk yl ft tr lane ml cel np sl kd hg (ps + uu.1) rs (rn + uu.1 / 4) uu.2.1 uu.2.2 lg fk gt tkn nr ru rl rm rd) t.heap) (inW (wM g y ya yb yc yd ye yf yg yh yi yj yk yl ft tr lane ml cel np sl kd hg ps rs rn rk rh lg fk gt tkn nr ru rl rm rd))) [.ref y, .int (nI e)].toArray s 0 0 (inW (wM g y ya yb yc yd ye yf yg yh yi yj yk yl ft tr lane ml cel np sl kd hg ps rs rn rk rh lg fk gt tkn nr ru rl rm rd))) (F0 mt 91 ls []) := by
              intro nn
              induction nn with
              | zero => intro k rq H locs ls hmu; exact absurd hmu (Nat.not_lt_zero _)
              | succ nn ih91 =>
                intro k rq H locs ls hmu hk hpk hdd hrq1 hrq2 hP hD hS hl
                refine lv_iload_n hx hb dX5_readPass_91 rfl (lv_at hl 3 rfl) ?_
                refine lv_iconst (v := (nI 3)) hx hb dX5_readPass_92 (by decide) ?_
                refine n_icmp_ge (a := k) (b := 3) (tgt := 140) hx hb (by omega) (by omega) dX5_readPass_93 (by decide) (fun c93 => ?_) (fun c93 => ?_)
                · obtain rfl : 3 = k := by omega
                  rw [show ps + 1 + 3 = ps + 4 from rfl] at hP hD
                  refine lv_aload_n hx hb dX5_readPass_140 rfl (lv_at hl 0 rfl) ?_
                  refine lv_dup hx hb dX5_readPass_141 rfl ?_
                  refine va_get (D := g.1) (ci := 5) (v := .int (nI rn)) (C := RX5) (T := TX5) (N := 23) hx hb hts (fun _ h => (List.mem_cons_of_mem _ (List.mem_append_right _ h))) hown hK.1 hP 0 rfl rfl 11 (by decide) (hts _ (List.mem_of_getElem? (i := 4) rfl)) (fun _ h9 => h9) rfl dX5_readPass_142 ?_
                  refine lv_iconst (v := (nI 1)) hx hb dX5_readPass_145 (by decide) ?_
                  refine n_iadd (a := rn) (b := 1) hx hb dX5_readPass_146 ?_
                  refine n_put (D := g.1) (ci := 5) (v := .int (nI (rn + 1))) (ty := .int) (C := RX5) (T := TX5) (N := 23) (ws1 := wM g y ya yb yc yd ye yf yg yh yi yj yk yl ft tr lane ml cel np sl kd hg (ps + 4) rs (rn + 1) (upd rk rn (kL (xL cel ps e))) rq lg fk gt tkn nr ru rl rm rd) hx hb hts (fun _ h => (List.mem_cons_of_mem _ (List.mem_append_right _ h))) tyX5 tyX5_ok nmX5 hown hK.1 hP hD hS 0 rfl rfl 11 (by decide) (hts _ (List.mem_of_getElem? (i := 4) rfl)) (fun _ h9 => h9) rfl (by decide +kernel) rfl rfl (Nat.le_of_ble_eq_true rfl) rfl dX5_readPass_147 (fun H locs hP hD hS => ?_)
                  refine lv_iconst (v := (nI 1)) hx hb dX5_readPass_150 (by decide) ?_
                  exact zretMI (w1 := fun (uu : Nat × (Nat → Int32) × (Nat → Int32)) => wM g y ya yb yc yd ye yf yg yh yi yj yk yl ft tr lane ml cel np sl kd hg (ps + uu.1) rs (rn + uu.1 / 4) uu.2.1 uu.2.2 lg fk gt tkn nr ru rl rm rd) (4, upd rk rn (kL (xL cel ps e)), rq) hx hb hr hlocks hS rfl (rpQ_or (rp_4 hkk hrq1 hrq2 hdd)) (by simp only [show 4 / 4 = 1 from rfl]; exact hP) dX5_readPass_151
                · have hk3 : k < 3 := by omega
                  refine lv_aload_n hx hb dX5_readPass_96 rfl (lv_at hl 0 rfl) ?_
                  refine va_get (D := g.1) (ci := 5) (v := .ref yg) (C := RX5) (T := TX5) (N := 23) hx hb hts (fun _ h => (List.mem_cons_of_mem _ (List.mem_append_right _ h))) hown hK.1 hP 0 rfl rfl 13 (by decide) (hts _ (List.mem_of_getElem? (i := 5) rfl)) (fun _ h9 => h9) rfl dX5_readPass_97 ?_
                  refine lv_iconst (v := (nI 3)) hx hb dX5_readPass_100 (by decide) ?_
                  refine lv_aload_n hx hb dX5_readPass_101 rfl (lv_at hl 0 rfl) ?_
                  refine va_get (D := g.1) (ci := 5) (v := .int (nI rn)) (C := RX5) (T := TX5) (N := 23) hx hb hts (fun _ h => (List.mem_cons_of_mem _ (List.mem_append_right _ h))) hown hK.1 hP 0 rfl rfl 11 (by decide) (hts _ (List.mem_of_getElem? (i := 4) rfl)) (fun _ h9 => h9) rfl dX5_readPass_102 ?_
                  refine n_imul (a := 3) (b := rn) hx hb dX5_readPass_105 ?_
                  refine lv_iload_n hx hb dX5_readPass_106 rfl (lv_at hl 3 rfl) ?_
                  refine n_iadd (a := (3 * rn)) (b := k) hx hb dX5_readPass_107 ?_
                  refine lv_aload_n hx hb dX5_readPass_108 rfl (lv_at hl 0 rfl) ?_
                  refine lv_iload_n hx hb dX5_readPass_109 rfl (lv_at hl 1 rfl) ?_
                  have hPc : PP g (wM g y ya yb yc yd ye yf yg yh yi yj yk yl ft tr lane ml cel np sl kd hg (ps + 1 + k) rs rn (upd rk rn (kL (xL cel ps e))) rq lg fk gt tkn nr ru rl rm rd) _ := P_sub hP [0, 1, 2, 3, 4, 5, 6, 7, 8, 9, 10, 11, 12] rfl
                  refine zcallM (w := wM g y ya yb yc yd ye yf yg yh yi yj yk yl ft tr lane ml cel np sl kd hg (ps + 1 + k) rs rn (upd rk rn (kL (xL cel ps e))) rq lg fk gt tkn nr ru rl rm rd) (va_runV (As := [.int (nI e)]) (rest := [.int (nI ((3 * rn) + k)), .ref yg]) (b := y) S0 (c_X5_digit l g y ya yb yc yd ye yf yg yh yi yj yk yl ft tr lane ml cel np sl kd hg (ps + 1 + k) rs rn (upd rk rn (kL (xL cel ps e))) rq lg fk gt tkn nr ru rl rm rd e he hpk) (cwV 1 hts gX5_readPass_X5_digit rfl rfl rfl (by decide +kernel) ⟨by decide, by decide⟩) (zpreVM hK hP hD [0, 1, 2, 3, 4, 5, 6, 7, 8, 9, 10, 11, 12] rfl (by decide) (va_recv hK.1 hPc (ci := 5) (q0 := 0) rfl rfl)) rfl rfl hl.1 rfl (lv_room (Nat.le_of_ble_eq_true rfl)) dX5_readPass_110 ⟨by decide, by decide⟩) hP hD hS [0, 1, 2, 3, 4, 5, 6, 7, 8, 9, 10, 11, 12] rfl (fun uu110 => wM g y ya yb yc yd ye yf yg yh yi yj yk yl ft tr lane ml cel np sl kd hg (dgP cel (ps + 1 + k) e) rs rn (upd rk rn (kL (xL cel ps e))) rq lg fk gt tkn nr ru rl rm rd) (fun _ => lz_wM.trans lz_wM.symm) (fun _ => rfl) (fun _ => ad_wM.trans ad_wM.symm) (fun r110 uu110 H locs h110 hP hD hS => ?_)
                  subst h110
                  refine n_iast (i := ((3 * rn) + k)) (x := (dgR cel (ps + 1 + k) e)) (ws1 := wM g y ya yb yc yd ye yf yg yh yi yj yk yl ft tr lane ml cel np sl kd hg (dgP cel (ps + 1 + k) e) rs rn (upd rk rn (kL (xL cel ps e))) (upd rq ((3 * rn) + k) (dgR cel (ps + 1 + k) e)) lg fk gt tkn nr ru rl rm rd) hx hb hK.1 hP hD hS 7 0 rfl rfl (by omega) (by decide) (upd rq ((3 * rn) + k) (dgR cel (ps + 1 + k) e)) rfl rfl dX5_readPass_113 (fun H locs hP hD hS => ?_)
                  refine lv_aload_n hx hb dX5_readPass_114 rfl (lv_at hl 0 rfl) ?_
                  refine va_get (D := g.1) (ci := 5) (v := .ref yg) (C := RX5) (T := TX5) (N := 23) hx hb hts (fun _ h => (List.mem_cons_of_mem _ (List.mem_append_right _ h))) hown hK.1 hP 0 rfl rfl 13 (by decide) (hts _ (List.mem_of_getElem? (i := 5) rfl)) (fun _ h9 => h9) rfl dX5_readPass_115 ?_
                  refine lv_iconst (v := (nI 3)) hx hb dX5_readPass_118 (by decide) ?_
                  refine lv_aload_n hx hb dX5_readPass_119 rfl (lv_at hl 0 rfl) ?_
                  refine va_get (D := g.1) (ci := 5) (v := .int (nI rn)) (C := RX5) (T := TX5) (N := 23) hx hb hts (fun _ h => (List.mem_cons_of_mem _ (List.mem_append_right _ h))) hown hK.1 hP 0 rfl rfl 11 (by decide) (hts _ (List.mem_of_getElem? (i := 4) rfl)) (fun _ h9 => h9) rfl dX5_readPass_120 ?_
                  refine n_imul (a := 3) (b := rn) hx hb dX5_readPass_123 ?_
                  refine lv_iload_n hx hb dX5_readPass_124 rfl (lv_at hl 3 rfl) ?_
                  refine n_iadd (a := (3 * rn)) (b := k) hx hb dX5_readPass_125 ?_
                  refine n_iald (i := ((3 * rn) + k)) (v := ((upd rq ((3 * rn) + k) (dgR cel (ps + 1 + k) e)) ((3 * rn) + k))) hx hb hK.1 hP 7 0 rfl rfl (by omega) (by decide) rfl dX5_readPass_126 ?_
                  refine ztopI (dgR cel (ps + 1 + k) e) (if_pos rfl) ?_
                  refine lv_bipush (v := (-9)) hx hb dX5_readPass_127 (by decide) ?_
                  refine lv_icmp_ne (tgt := 134) hx hb dX5_readPass_129 (by decide) (fun c129 => ?_) (fun c129 => ?_)
                  · have hd : dgC cel (ps + 1 + k) e := dgR_n9 c129
                    rw [dgP_y hd] at hP hD
                    refine n_iinc (a := k) (d := 1) (lv' := [(3, .int (nI (k + 1))), (0, .ref y), (1, .int (nI e)), (2, .int (xL cel ps e))]) hx hb dX5_readPass_134 hl (k := 3) rfl (by decide) (by decide) rfl (fun ls hl => ?_)
                    refine lv_goto (tgt := 91) hx hb dX5_readPass_137 (by decide) ?_
                    exact ih91 (k + 1) (upd rq (3 * rn + k) (dgR cel (ps + 1 + k) e)) _ _ ls (by omega) (by omega) (by have := hd.1; omega) (rp_s1 hdd hd) (rp_s2 hrq1) (rp_s3 hrq2 hd) hP hD hS (lv_sub hl [1, 2, 3, 0] rfl)
                  · have hd : ¬ dgC cel (ps + 1 + k) e := dgR_9 c129
                    rw [dgP_n hd] at hP hD
                    refine lv_iconst (v := (nI 0)) hx hb dX5_readPass_132 (by decide) ?_
                    exact zretMI (w1 := fun (uu : Nat × (Nat → Int32) × (Nat → Int32)) => wM g y ya yb yc yd ye yf yg yh yi yj yk yl ft tr lane ml cel np sl kd hg (ps + uu.1) rs (rn + uu.1 / 4) uu.2.1 uu.2.2 lg fk gt tkn nr ru rl rm rd) (1 + k, upd rk rn (kL (xL cel ps e)), upd rq ((3 * rn) + k) (dgR cel (ps + 1 + k) e)) hx hb hr hlocks hS rfl (rpQ_or (rp_d hk3 hkk hrq1 hdd hd)) (by have e1 : (1 + k) / 4 = 0 := (by omega); have e2 : ps + (1 + k) = ps + 1 + k := (by omega); simp only [e1, e2, Nat.add_zero]; exact hP) dX5_readPass_133
            exact lp91 (3 - 0 + 1) 0 rh _ _ ls (Nat.lt_succ_self _) (by omega) (by omega) (fun _ z => absurd z (Nat.not_lt_zero _)) (fun _ _ => rfl) (fun _ z => absurd z (Nat.not_lt_zero _)) hP hD hS (lv_sub hl [2, 3, 1, 0] rfl)
          · refine lv_iconst (v := (nI 0)) hx hb dX5_readPass_77 (by decide) ?_
            exact zretMI (w1 := fun (uu : Nat × (Nat → Int32) × (Nat → Int32)) => wM g y ya yb yc yd ye yf yg yh yi yj yk yl ft tr lane ml cel np sl kd hg (ps + uu.1) rs (rn + uu.1 / 4) uu.2.1 uu.2.2 lg fk gt tkn nr ru rl rm rd) (0, upd rk rn (kL (xL cel ps e)), rh) hx hb hr hlocks hS rfl (rpQ_or (rp_0 c74)) (by simp only [show 0 / 4 = 0 from rfl, Nat.add_zero]; exact hP) dX5_readPass_78
      · refine lv_iconst (v := (nI 1)) hx hb dX5_readPass_46 (by decide) ?_
        refine ztopI (kL (xL cel ps e)) (by rw [kL, if_neg c33, if_pos c43]) ?_
        refine lv_goto (tgt := 62) hx hb dX5_readPass_47 (by decide) ?_
        refine n_iast (i := rn) (x := (kL (xL cel ps e))) (ws1 := wM g y ya yb yc yd ye yf yg yh yi yj yk yl ft tr lane ml cel np sl kd hg ps rs rn (upd rk rn (kL (xL cel ps e))) rh lg fk gt tkn nr ru rl rm rd) hx hb hK.1 hP hD hS 6 0 rfl rfl (by omega) (by decide) (upd rk rn (kL (xL cel ps e))) rfl rfl dX5_readPass_62 (fun H locs hP hD hS => ?_)
        refine lv_aload_n hx hb dX5_readPass_63 rfl (lv_at hl 1 rfl) ?_
        refine va_get (D := g.1) (ci := 5) (v := .ref yf) (C := RX5) (T := TX5) (N := 23) hx hb hts (fun _ h => (List.mem_cons_of_mem _ (List.mem_append_right _ h))) hown hK.1 hP 0 rfl rfl 12 (by decide) (hts _ (List.mem_of_getElem? (i := 3) rfl)) (fun _ h9 => h9) rfl dX5_readPass_64 ?_
        refine lv_aload_n hx hb dX5_readPass_67 rfl (lv_at hl 1 rfl) ?_
        refine va_get (D := g.1) (ci := 5) (v := .int (nI rn)) (C := RX5) (T := TX5) (N := 23) hx hb hts (fun _ h => (List.mem_cons_of_mem _ (List.mem_append_right _ h))) hown hK.1 hP 0 rfl rfl 11 (by decide) (hts _ (List.mem_of_getElem? (i := 4) rfl)) (fun _ h9 => h9) rfl dX5_readPass_68 ?_
        refine n_iald (i := rn) (v := ((upd rk rn (kL (xL cel ps e))) rn)) hx hb hK.1 hP 6 0 rfl rfl (by omega) (by decide) rfl dX5_readPass_71 ?_
        refine ztopI (kL (xL cel ps e)) (if_pos rfl) ?_
        refine lv_bipush (v := (-9)) hx hb dX5_readPass_72 (by decide) ?_
        refine lv_icmp_ne (tgt := 79) hx hb dX5_readPass_74 (by decide) (fun c74 => ?_) (fun c74 => ?_)
        · have hkk : gp cel ps e 0 ∧ xL cel ps e = cf cel ps := xL_k c74
          have hp1 := hkk.1.1
          refine lv_aload_n hx hb dX5_readPass_79 rfl (lv_at hl 1 rfl) ?_
          refine lv_dup hx hb dX5_readPass_80 rfl ?_
          refine va_get (D := g.1) (ci := 5) (v := .int (nI ps)) (C := RX5) (T := TX5) (N := 23) hx hb hts (fun _ h => (List.mem_cons_of_mem _ (List.mem_append_right _ h))) hown hK.1 hP 0 rfl rfl 9 (by decide) (hts _ (List.mem_of_getElem? (i := 1) rfl)) (fun _ h9 => h9) rfl dX5_readPass_81 ?_
          refine lv_iconst (v := (nI 1)) hx hb dX5_readPass_84 (by decide) ?_
          refine n_iadd (a := ps) (b := 1) hx hb dX5_readPass_85 ?_
          refine n_put (D := g.1) (ci := 5) (v := .int (nI (ps + 1))) (ty := .int) (C := RX5) (T := TX5) (N := 23) (ws1 := wM g y ya yb yc yd ye yf yg yh yi yj yk yl ft tr lane ml cel np sl kd hg (ps + 1) rs rn (upd rk rn (kL (xL cel ps e))) rh lg fk gt tkn nr ru rl rm rd) hx hb hts (fun _ h => (List.mem_cons_of_mem _ (List.mem_append_right _ h))) tyX5 tyX5_ok nmX5 hown hK.1 hP hD hS 0 rfl rfl 9 (by decide) (hts _ (List.mem_of_getElem? (i := 1) rfl)) (fun _ h9 => h9) rfl (by decide +kernel) rfl rfl (Nat.le_of_ble_eq_true rfl) rfl dX5_readPass_86 (fun H locs hP hD hS => ?_)
          refine lv_iconst (v := (nI 0)) hx hb dX5_readPass_89 (by decide) ?_
          refine lv_istore_n (lv' := [(3, .int (nI 0)), (2, .int (xL cel ps e)), (0, .ref y), (1, .int (nI e))]) hx hb dX5_readPass_90 rfl hl (by decide) rfl (fun ls hl => ?_)
          have lp91 : ∀ (nn : Nat) (k : Nat) (rq : Nat → Int32) (H : Heap) (locs : List Loc) (ls : Array Slot), (3 - k) < nn → (k ≤ 3) → (ps + 1 + k ≤ e) → (∀ d, d < k → dgC cel (ps + 1 + d) e) → (∀ j, j < 3 * rn → rq j = rh j) → (∀ d, d < k → rq (3 * rn + d) = nI (dv (cf cel (ps + 1 + d)))) → PP g (wM g y ya yb yc yd ye yf yg yh yi yj yk yl ft tr lane ml cel np sl kd hg (ps + 1 + k) rs rn (upd rk rn (kL (xL cel ps e))) rq lg fk gt tkn nr ru rl rm rd) H → va_D (inW (wM g y ya yb yc yd ye yf yg yh yi yj yk yl ft tr lane ml cel np sl kd hg ps rs rn rk rh lg fk gt tkn nr ru rl rm rd)) (wM g y ya yb yc yd ye yf yg yh yi yj yk yl ft tr lane ml cel np sl kd hg (ps + 1 + k) rs rn (upd rk rn (kL (xL cel ps e))) rq lg fk gt tkn nr ru rl rm rd) → va_S (inW (wM g y ya yb yc yd ye yf yg yh yi yj yk yl ft tr lane ml cel np sl kd hg ps rs rn rk rh lg fk gt tkn nr ru rl rm rd)) s.heap H locs → lv_has ls 4 [(0, .ref y), (1, .int (nI e)), (2, .int (xL cel ps e)), (3, .int (nI k))] → W P l E ({ frames := 2, cells := 0, slots := 0, locals := 43 } : Room) s mt [.ref y, .int (nI e)].toArray below meth cd H locs 0 0 (MQ below (va_Qi (fun (r : Int32) (uu : Nat × (Nat → Int32) × (Nat → Int32)) => (uu.1 = 4 ∧ rpR cel ps e rn rk rh uu.1 uu.2.1 uu.2.2 ∧ r = nI 1) ∨ ((uu.1 < 4 ∧ ¬ gp cel ps e uu.1) ∧ rpR cel ps e rn rk rh uu.1 uu.2.1 uu.2.2 ∧ r = nI 0)) (fun (uu : Nat × (Nat → Int32) × (Nat → Int32)) t => PP g (wM g y ya yb yc yd ye yf yg yh yi yj yk yl ft tr lane ml cel np sl kd hg (ps + uu.1) rs (rn + uu.1 / 4) uu.2.1 uu.2.2 lg fk gt tkn nr ru rl rm rd) t.heap) (inW (wM g y ya yb yc yd ye yf yg yh yi yj yk yl ft tr lane ml cel np sl kd hg ps rs rn rk rh lg fk gt tkn nr ru rl rm rd))) [.ref y, .int (nI e)].toArray s 0 0 (inW (wM g y ya yb yc yd ye yf yg yh yi yj yk yl ft tr lane ml cel np sl kd hg ps rs rn rk rh lg fk gt tkn nr ru rl rm rd))) (F0 mt 91 ls []) := by
            intro nn
            induction nn with
            | zero => intro k rq H locs ls hmu; exact absurd hmu (Nat.not_lt_zero _)
            | succ nn ih91 =>
              intro k rq H locs ls hmu hk hpk hdd hrq1 hrq2 hP hD hS hl
              refine lv_iload_n hx hb dX5_readPass_91 rfl (lv_at hl 3 rfl) ?_
              refine lv_iconst (v := (nI 3)) hx hb dX5_readPass_92 (by decide) ?_
              refine n_icmp_ge (a := k) (b := 3) (tgt := 140) hx hb (by omega) (by omega) dX5_readPass_93 (by decide) (fun c93 => ?_) (fun c93 => ?_)
              · obtain rfl : 3 = k := by omega
                rw [show ps + 1 + 3 = ps + 4 from rfl] at hP hD
                refine lv_aload_n hx hb dX5_readPass_140 rfl (lv_at hl 0 rfl) ?_
                refine lv_dup hx hb dX5_readPass_141 rfl ?_
                refine va_get (D := g.1) (ci := 5) (v := .int (nI rn)) (C := RX5) (T := TX5) (N := 23) hx hb hts (fun _ h => (List.mem_cons_of_mem _ (List.mem_append_right _ h))) hown hK.1 hP 0 rfl rfl 11 (by decide) (hts _ (List.mem_of_getElem? (i := 4) rfl)) (fun _ h9 => h9) rfl dX5_readPass_142 ?_
                refine lv_iconst (v := (nI 1)) hx hb dX5_readPass_145 (by decide) ?_
                refine n_iadd (a := rn) (b := 1) hx hb dX5_readPass_146 ?_
                refine n_put (D := g.1) (ci := 5) (v := .int (nI (rn + 1))) (ty := .int) (C := RX5) (T := TX5) (N := 23) (ws1 := wM g y ya yb yc yd ye yf yg yh yi yj yk yl ft tr lane ml cel np sl kd hg (ps + 4) rs (rn + 1) (upd rk rn (kL (xL cel ps e))) rq lg fk gt tkn nr ru rl rm rd) hx hb hts (fun _ h => (List.mem_cons_of_mem _ (List.mem_append_right _ h))) tyX5 tyX5_ok nmX5 hown hK.1 hP hD hS 0 rfl rfl 11 (by decide) (hts _ (List.mem_of_getElem? (i := 4) rfl)) (fun _ h9 => h9) rfl (by decide +kernel) rfl rfl (Nat.le_of_ble_eq_true rfl) rfl dX5_readPass_147 (fun H locs hP hD hS => ?_)
                refine lv_iconst (v := (nI 1)) hx hb dX5_readPass_150 (by decide) ?_
                exact zretMI (w1 := fun (uu : Nat × (Nat → Int32) × (Nat → Int32)) => wM g y ya yb yc yd ye yf yg yh yi yj yk yl ft tr lane ml cel np sl kd hg (ps + uu.1) rs (rn + uu.1 / 4) uu.2.1 uu.2.2 lg fk gt tkn nr ru rl rm rd) (4, upd rk rn (kL (xL cel ps e)), rq) hx hb hr hlocks hS rfl (rpQ_or (rp_4 hkk hrq1 hrq2 hdd)) (by simp only [show 4 / 4 = 1 from rfl]; exact hP) dX5_readPass_151
              · have hk3 : k < 3 := by omega
                refine lv_aload_n hx hb dX5_readPass_96 rfl (lv_at hl 0 rfl) ?_
                refine va_get (D := g.1) (ci := 5) (v := .ref yg) (C := RX5) (T := TX5) (N := 23) hx hb hts (fun _ h => (List.mem_cons_of_mem _ (List.mem_append_right _ h))) hown hK.1 hP 0 rfl rfl 13 (by decide) (hts _ (List.mem_of_getElem? (i := 5) rfl)) (fun _ h9 => h9) rfl dX5_readPass_97 ?_
                refine lv_iconst (v := (nI 3)) hx hb dX5_readPass_100 (by decide) ?_
                refine lv_aload_n hx hb dX5_readPass_101 rfl (lv_at hl 0 rfl) ?_
                refine va_get (D := g.1) (ci := 5) (v := .int (nI rn)) (C := RX5) (T := TX5) (N := 23) hx hb hts (fun _ h => (List.mem_cons_of_mem _ (List.mem_append_right _ h))) hown hK.1 hP 0 rfl rfl 11 (by decide) (hts _ (List.mem_of_getElem? (i := 4) rfl)) (fun _ h9 => h9) rfl dX5_readPass_102 ?_
                refine n_imul (a := 3) (b := rn) hx hb dX5_readPass_105 ?_
                refine lv_iload_n hx hb dX5_readPass_106 rfl (lv_at hl 3 rfl) ?_
                refine n_iadd (a := (3 * rn)) (b := k) hx hb dX5_readPass_107 ?_
                refine lv_aload_n hx hb dX5_readPass_108 rfl (lv_at hl 0 rfl) ?_
                refine lv_iload_n hx hb dX5_readPass_109 rfl (lv_at hl 1 rfl) ?_
                have hPc : PP g (wM g y ya yb yc yd ye yf yg yh yi yj yk yl ft tr lane ml cel np sl kd hg (ps + 1 + k) rs rn (upd rk rn (kL (xL cel ps e))) rq lg fk gt tkn nr ru rl rm rd) _ := P_sub hP [0, 1, 2, 3, 4, 5, 6, 7, 8, 9, 10, 11, 12] rfl
                refine zcallM (w := wM g y ya yb yc yd ye yf yg yh yi yj yk yl ft tr lane ml cel np sl kd hg (ps + 1 + k) rs rn (upd rk rn (kL (xL cel ps e))) rq lg fk gt tkn nr ru rl rm rd) (va_runV (As := [.int (nI e)]) (rest := [.int (nI ((3 * rn) + k)), .ref yg]) (b := y) S0 (c_X5_digit l g y ya yb yc yd ye yf yg yh yi yj yk yl ft tr lane ml cel np sl kd hg (ps + 1 + k) rs rn (upd rk rn (kL (xL cel ps e))) rq lg fk gt tkn nr ru rl rm rd e he hpk) (cwV 1 hts gX5_readPass_X5_digit rfl rfl rfl (by decide +kernel) ⟨by decide, by decide⟩) (zpreVM hK hP hD [0, 1, 2, 3, 4, 5, 6, 7, 8, 9, 10, 11, 12] rfl (by decide) (va_recv hK.1 hPc (ci := 5) (q0 := 0) rfl rfl)) rfl rfl hl.1 rfl (lv_room (Nat.le_of_ble_eq_true rfl)) dX5_readPass_110 ⟨by decide, by decide⟩) hP hD hS [0, 1, 2, 3, 4, 5, 6, 7, 8, 9, 10, 11, 12] rfl (fun uu110 => wM g y ya yb yc yd ye yf yg yh yi yj yk yl ft tr lane ml cel np sl kd hg (dgP cel (ps + 1 + k) e) rs rn (upd rk rn (kL (xL cel ps e))) rq lg fk gt tkn nr ru rl rm rd) (fun _ => lz_wM.trans lz_wM.symm) (fun _ => rfl) (fun _ => ad_wM.trans ad_wM.symm) (fun r110 uu110 H locs h110 hP hD hS => ?_)
                subst h110
                refine n_iast (i := ((3 * rn) + k)) (x := (dgR cel (ps + 1 + k) e)) (ws1 := wM g y ya yb yc yd ye yf yg yh yi yj yk yl ft tr lane ml cel np sl kd hg (dgP cel (ps + 1 + k) e) rs rn (upd rk rn (kL (xL cel ps e))) (upd rq ((3 * rn) + k) (dgR cel (ps + 1 + k) e)) lg fk gt tkn nr ru rl rm rd) hx hb hK.1 hP hD hS 7 0 rfl rfl (by omega) (by decide) (upd rq ((3 * rn) + k) (dgR cel (ps + 1 + k) e)) rfl rfl dX5_readPass_113 (fun H locs hP hD hS => ?_)
                refine lv_aload_n hx hb dX5_readPass_114 rfl (lv_at hl 0 rfl) ?_
                refine va_get (D := g.1) (ci := 5) (v := .ref yg) (C := RX5) (T := TX5) (N := 23) hx hb hts (fun _ h => (List.mem_cons_of_mem _ (List.mem_append_right _ h))) hown hK.1 hP 0 rfl rfl 13 (by decide) (hts _ (List.mem_of_getElem? (i := 5) rfl)) (fun _ h9 => h9) rfl dX5_readPass_115 ?_
                refine lv_iconst (v := (nI 3)) hx hb dX5_readPass_118 (by decide) ?_
                refine lv_aload_n hx hb dX5_readPass_119 rfl (lv_at hl 0 rfl) ?_
                refine va_get (D := g.1) (ci := 5) (v := .int (nI rn)) (C := RX5) (T := TX5) (N := 23) hx hb hts (fun _ h => (List.mem_cons_of_mem _ (List.mem_append_right _ h))) hown hK.1 hP 0 rfl rfl 11 (by decide) (hts _ (List.mem_of_getElem? (i := 4) rfl)) (fun _ h9 => h9) rfl dX5_readPass_120 ?_
                refine n_imul (a := 3) (b := rn) hx hb dX5_readPass_123 ?_
                refine lv_iload_n hx hb dX5_readPass_124 rfl (lv_at hl 3 rfl) ?_
                refine n_iadd (a := (3 * rn)) (b := k) hx hb dX5_readPass_125 ?_
                refine n_iald (i := ((3 * rn) + k)) (v := ((upd rq ((3 * rn) + k) (dgR cel (ps + 1 + k) e)) ((3 * rn) + k))) hx hb hK.1 hP 7 0 rfl rfl (by omega) (by decide) rfl dX5_readPass_126 ?_
                refine ztopI (dgR cel (ps + 1 + k) e) (if_pos rfl) ?_
                refine lv_bipush (v := (-9)) hx hb dX5_readPass_127 (by decide) ?_
                refine lv_icmp_ne (tgt := 134) hx hb dX5_readPass_129 (by decide) (fun c129 => ?_) (fun c129 => ?_)
                · have hd : dgC cel (ps + 1 + k) e := dgR_n9 c129
                  rw [dgP_y hd] at hP hD
                  refine n_iinc (a := k) (d := 1) (lv' := [(3, .int (nI (k + 1))), (0, .ref y), (1, .int (nI e)), (2, .int (xL cel ps e))]) hx hb dX5_readPass_134 hl (k := 3) rfl (by decide) (by decide) rfl (fun ls hl => ?_)
                  refine lv_goto (tgt := 91) hx hb dX5_readPass_137 (by decide) ?_
                  exact ih91 (k + 1) (upd rq (3 * rn + k) (dgR cel (ps + 1 + k) e)) _ _ ls (by omega) (by omega) (by have := hd.1; omega) (rp_s1 hdd hd) (rp_s2 hrq1) (rp_s3 hrq2 hd) hP hD hS (lv_sub hl [1, 2, 3, 0] rfl)
                · have hd : ¬ dgC cel (ps + 1 + k) e := dgR_9 c129
                  rw [dgP_n hd] at hP hD
                  refine lv_iconst (v := (nI 0)) hx hb dX5_readPass_132 (by decide) ?_
                  exact zretMI (w1 := fun (uu : Nat × (Nat → Int32) × (Nat → Int32)) => wM g y ya yb yc yd ye yf yg yh yi yj yk yl ft tr lane ml cel np sl kd hg (ps + uu.1) rs (rn + uu.1 / 4) uu.2.1 uu.2.2 lg fk gt tkn nr ru rl rm rd) (1 + k, upd rk rn (kL (xL cel ps e)), upd rq ((3 * rn) + k) (dgR cel (ps + 1 + k) e)) hx hb hr hlocks hS rfl (rpQ_or (rp_d hk3 hkk hrq1 hdd hd)) (by have e1 : (1 + k) / 4 = 0 := (by omega); have e2 : ps + (1 + k) = ps + 1 + k := (by omega); simp only [e1, e2, Nat.add_zero]; exact hP) dX5_readPass_133
          exact lp91 (3 - 0 + 1) 0 rh _ _ ls (Nat.lt_succ_self _) (by omega) (by omega) (fun _ z => absurd z (Nat.not_lt_zero _)) (fun _ _ => rfl) (fun _ z => absurd z (Nat.not_lt_zero _)) hP hD hS (lv_sub hl [2, 3, 1, 0] rfl)
        · refine lv_iconst (v := (nI 0)) hx hb dX5_readPass_77 (by decide) ?_
          exact zretMI (w1 := fun (uu : Nat × (Nat → Int32) × (Nat → Int32)) => wM g y ya yb yc yd ye yf yg yh yi yj yk yl ft tr lane ml cel np sl kd hg (ps + uu.1) rs (rn + uu.1 / 4) uu.2.1 uu.2.2 lg fk gt tkn nr ru rl rm rd) (0, upd rk rn (kL (xL cel ps e)), rh) hx hb hr hlocks hS rfl (rpQ_or (rp_0 c74)) (by simp only [show 0 / 4 = 0 from rfl, Nat.add_zero]; exact hP) dX5_readPass_78
    · refine lv_iconst (v := (nI 0)) hx hb dX5_readPass_36 (by decide) ?_
      refine ztopI (kL (xL cel ps e)) (by rw [kL, if_pos c33]) ?_
      refine lv_goto (tgt := 62) hx hb dX5_readPass_37 (by decide) ?_
      refine n_iast (i := rn) (x := (kL (xL cel ps e))) (ws1 := wM g y ya yb yc yd ye yf yg yh yi yj yk yl ft tr lane ml cel np sl kd hg ps rs rn (upd rk rn (kL (xL cel ps e))) rh lg fk gt tkn nr ru rl rm rd) hx hb hK.1 hP hD hS 6 0 rfl rfl (by omega) (by decide) (upd rk rn (kL (xL cel ps e))) rfl rfl dX5_readPass_62 (fun H locs hP hD hS => ?_)
      refine lv_aload_n hx hb dX5_readPass_63 rfl (lv_at hl 1 rfl) ?_
      refine va_get (D := g.1) (ci := 5) (v := .ref yf) (C := RX5) (T := TX5) (N := 23) hx hb hts (fun _ h => (List.mem_cons_of_mem _ (List.mem_append_right _ h))) hown hK.1 hP 0 rfl rfl 12 (by decide) (hts _ (List.mem_of_getElem? (i := 3) rfl)) (fun _ h9 => h9) rfl dX5_readPass_64 ?_
      refine lv_aload_n hx hb dX5_readPass_67 rfl (lv_at hl 1 rfl) ?_
      refine va_get (D := g.1) (ci := 5) (v := .int (nI rn)) (C := RX5) (T := TX5) (N := 23) hx hb hts (fun _ h => (List.mem_cons_of_mem _ (List.mem_append_right _ h))) hown hK.1 hP 0 rfl rfl 11 (by decide) (hts _ (List.mem_of_getElem? (i := 4) rfl)) (fun _ h9 => h9) rfl dX5_readPass_68 ?_
      refine n_iald (i := rn) (v := ((upd rk rn (kL (xL cel ps e))) rn)) hx hb hK.1 hP 6 0 rfl rfl (by omega) (by decide) rfl dX5_readPass_71 ?_
      refine ztopI (kL (xL cel ps e)) (if_pos rfl) ?_
      refine lv_bipush (v := (-9)) hx hb dX5_readPass_72 (by decide) ?_
      refine lv_icmp_ne (tgt := 79) hx hb dX5_readPass_74 (by decide) (fun c74 => ?_) (fun c74 => ?_)
      · have hkk : gp cel ps e 0 ∧ xL cel ps e = cf cel ps := xL_k c74
        have hp1 := hkk.1.1
        refine lv_aload_n hx hb dX5_readPass_79 rfl (lv_at hl 1 rfl) ?_
        refine lv_dup hx hb dX5_readPass_80 rfl ?_
        refine va_get (D := g.1) (ci := 5) (v := .int (nI ps)) (C := RX5) (T := TX5) (N := 23) hx hb hts (fun _ h => (List.mem_cons_of_mem _ (List.mem_append_right _ h))) hown hK.1 hP 0 rfl rfl 9 (by decide) (hts _ (List.mem_of_getElem? (i := 1) rfl)) (fun _ h9 => h9) rfl dX5_readPass_81 ?_
        refine lv_iconst (v := (nI 1)) hx hb dX5_readPass_84 (by decide) ?_
        refine n_iadd (a := ps) (b := 1) hx hb dX5_readPass_85 ?_
        refine n_put (D := g.1) (ci := 5) (v := .int (nI (ps + 1))) (ty := .int) (C := RX5) (T := TX5) (N := 23) (ws1 := wM g y ya yb yc yd ye yf yg yh yi yj yk yl ft tr lane ml cel np sl kd hg (ps + 1) rs rn (upd rk rn (kL (xL cel ps e))) rh lg fk gt tkn nr ru rl rm rd) hx hb hts (fun _ h => (List.mem_cons_of_mem _ (List.mem_append_right _ h))) tyX5 tyX5_ok nmX5 hown hK.1 hP hD hS 0 rfl rfl 9 (by decide) (hts _ (List.mem_of_getElem? (i := 1) rfl)) (fun _ h9 => h9) rfl (by decide +kernel) rfl rfl (Nat.le_of_ble_eq_true rfl) rfl dX5_readPass_86 (fun H locs hP hD hS => ?_)
        refine lv_iconst (v := (nI 0)) hx hb dX5_readPass_89 (by decide) ?_
        refine lv_istore_n (lv' := [(3, .int (nI 0)), (2, .int (xL cel ps e)), (0, .ref y), (1, .int (nI e))]) hx hb dX5_readPass_90 rfl hl (by decide) rfl (fun ls hl => ?_)
        have lp91 : ∀ (nn : Nat) (k : Nat) (rq : Nat → Int32) (H : Heap) (locs : List Loc) (ls : Array Slot), (3 - k) < nn → (k ≤ 3) → (ps + 1 + k ≤ e) → (∀ d, d < k → dgC cel (ps + 1 + d) e) → (∀ j, j < 3 * rn → rq j = rh j) → (∀ d, d < k → rq (3 * rn + d) = nI (dv (cf cel (ps + 1 + d)))) → PP g (wM g y ya yb yc yd ye yf yg yh yi yj yk yl ft tr lane ml cel np sl kd hg (ps + 1 + k) rs rn (upd rk rn (kL (xL cel ps e))) rq lg fk gt tkn nr ru rl rm rd) H → va_D (inW (wM g y ya yb yc yd ye yf yg yh yi yj yk yl ft tr lane ml cel np sl kd hg ps rs rn rk rh lg fk gt tkn nr ru rl rm rd)) (wM g y ya yb yc yd ye yf yg yh yi yj yk yl ft tr lane ml cel np sl kd hg (ps + 1 + k) rs rn (upd rk rn (kL (xL cel ps e))) rq lg fk gt tkn nr ru rl rm rd) → va_S (inW (wM g y ya yb yc yd ye yf yg yh yi yj yk yl ft tr lane ml cel np sl kd hg ps rs rn rk rh lg fk gt tkn nr ru rl rm rd)) s.heap H locs → lv_has ls 4 [(0, .ref y), (1, .int (nI e)), (2, .int (xL cel ps e)), (3, .int (nI k))] → W P l E ({ frames := 2, cells := 0, slots := 0, locals := 43 } : Room) s mt [.ref y, .int (nI e)].toArray below meth cd H locs 0 0 (MQ below (va_Qi (fun (r : Int32) (uu : Nat × (Nat → Int32) × (Nat → Int32)) => (uu.1 = 4 ∧ rpR cel ps e rn rk rh uu.1 uu.2.1 uu.2.2 ∧ r = nI 1) ∨ ((uu.1 < 4 ∧ ¬ gp cel ps e uu.1) ∧ rpR cel ps e rn rk rh uu.1 uu.2.1 uu.2.2 ∧ r = nI 0)) (fun (uu : Nat × (Nat → Int32) × (Nat → Int32)) t => PP g (wM g y ya yb yc yd ye yf yg yh yi yj yk yl ft tr lane ml cel np sl kd hg (ps + uu.1) rs (rn + uu.1 / 4) uu.2.1 uu.2.2 lg fk gt tkn nr ru rl rm rd) t.heap) (inW (wM g y ya yb yc yd ye yf yg yh yi yj yk yl ft tr lane ml cel np sl kd hg ps rs rn rk rh lg fk gt tkn nr ru rl rm rd))) [.ref y, .int (nI e)].toArray s 0 0 (inW (wM g y ya yb yc yd ye yf yg yh yi yj yk yl ft tr lane ml cel np sl kd hg ps rs rn rk rh lg fk gt tkn nr ru rl rm rd))) (F0 mt 91 ls []) := by
          intro nn
          induction nn with
          | zero => intro k rq H locs ls hmu; exact absurd hmu (Nat.not_lt_zero _)
          | succ nn ih91 =>
            intro k rq H locs ls hmu hk hpk hdd hrq1 hrq2 hP hD hS hl
            refine lv_iload_n hx hb dX5_readPass_91 rfl (lv_at hl 3 rfl) ?_
            refine lv_iconst (v := (nI 3)) hx hb dX5_readPass_92 (by decide) ?_
            refine n_icmp_ge (a := k) (b := 3) (tgt := 140) hx hb (by omega) (by omega) dX5_readPass_93 (by decide) (fun c93 => ?_) (fun c93 => ?_)
            · obtain rfl : 3 = k := by omega
              rw [show ps + 1 + 3 = ps + 4 from rfl] at hP hD
              refine lv_aload_n hx hb dX5_readPass_140 rfl (lv_at hl 0 rfl) ?_
              refine lv_dup hx hb dX5_readPass_141 rfl ?_
              refine va_get (D := g.1) (ci := 5) (v := .int (nI rn)) (C := RX5) (T := TX5) (N := 23) hx hb hts (fun _ h => (List.mem_cons_of_mem _ (List.mem_append_right _ h))) hown hK.1 hP 0 rfl rfl 11 (by decide) (hts _ (List.mem_of_getElem? (i := 4) rfl)) (fun _ h9 => h9) rfl dX5_readPass_142 ?_
              refine lv_iconst (v := (nI 1)) hx hb dX5_readPass_145 (by decide) ?_
              refine n_iadd (a := rn) (b := 1) hx hb dX5_readPass_146 ?_
              refine n_put (D := g.1) (ci := 5) (v := .int (nI (rn + 1))) (ty := .int) (C := RX5) (T := TX5) (N := 23) (ws1 := wM g y ya yb yc yd ye yf yg yh yi yj yk yl ft tr lane ml cel np sl kd hg (ps + 4) rs (rn + 1) (upd rk rn (kL (xL cel ps e))) rq lg fk gt tkn nr ru rl rm rd) hx hb hts (fun _ h => (List.mem_cons_of_mem _ (List.mem_append_right _ h))) tyX5 tyX5_ok nmX5 hown hK.1 hP hD hS 0 rfl rfl 11 (by decide) (hts _ (List.mem_of_getElem? (i := 4) rfl)) (fun _ h9 => h9) rfl (by decide +kernel) rfl rfl (Nat.le_of_ble_eq_true rfl) rfl dX5_readPass_147 (fun H locs hP hD hS => ?_)
              refine lv_iconst (v := (nI 1)) hx hb dX5_readPass_150 (by decide) ?_
              exact zretMI (w1 := fun (uu : Nat × (Nat → Int32) × (Nat → Int32)) => wM g y ya yb yc yd ye yf yg yh yi yj yk yl ft tr lane ml cel np sl kd hg (ps + uu.1) rs (rn + uu.1 / 4) uu.2.1 uu.2.2 lg fk gt tkn nr ru rl rm rd) (4, upd rk rn (kL (xL cel ps e)), rq) hx hb hr hlocks hS rfl (rpQ_or (rp_4 hkk hrq1 hrq2 hdd)) (by simp only [show 4 / 4 = 1 from rfl]; exact hP) dX5_readPass_151
            · have hk3 : k < 3 := by omega
              refine lv_aload_n hx hb dX5_readPass_96 rfl (lv_at hl 0 rfl) ?_
              refine va_get (D := g.1) (ci := 5) (v := .ref yg) (C := RX5) (T := TX5) (N := 23) hx hb hts (fun _ h => (List.mem_cons_of_mem _ (List.mem_append_right _ h))) hown hK.1 hP 0 rfl rfl 13 (by decide) (hts _ (List.mem_of_getElem? (i := 5) rfl)) (fun _ h9 => h9) rfl dX5_readPass_97 ?_
              refine lv_iconst (v := (nI 3)) hx hb dX5_readPass_100 (by decide) ?_
              refine lv_aload_n hx hb dX5_readPass_101 rfl (lv_at hl 0 rfl) ?_
              refine va_get (D := g.1) (ci := 5) (v := .int (nI rn)) (C := RX5) (T := TX5) (N := 23) hx hb hts (fun _ h => (List.mem_cons_of_mem _ (List.mem_append_right _ h))) hown hK.1 hP 0 rfl rfl 11 (by decide) (hts _ (List.mem_of_getElem? (i := 4) rfl)) (fun _ h9 => h9) rfl dX5_readPass_102 ?_
              refine n_imul (a := 3) (b := rn) hx hb dX5_readPass_105 ?_
              refine lv_iload_n hx hb dX5_readPass_106 rfl (lv_at hl 3 rfl) ?_
              refine n_iadd (a := (3 * rn)) (b := k) hx hb dX5_readPass_107 ?_
              refine lv_aload_n hx hb dX5_readPass_108 rfl (lv_at hl 0 rfl) ?_
              refine lv_iload_n hx hb dX5_readPass_109 rfl (lv_at hl 1 rfl) ?_
              have hPc : PP g (wM g y ya yb yc yd ye yf yg yh yi yj yk yl ft tr lane ml cel np sl kd hg (ps + 1 + k) rs rn (upd rk rn (kL (xL cel ps e))) rq lg fk gt tkn nr ru rl rm rd) _ := P_sub hP [0, 1, 2, 3, 4, 5, 6, 7, 8, 9, 10, 11, 12] rfl
              refine zcallM (w := wM g y ya yb yc yd ye yf yg yh yi yj yk yl ft tr lane ml cel np sl kd hg (ps + 1 + k) rs rn (upd rk rn (kL (xL cel ps e))) rq lg fk gt tkn nr ru rl rm rd) (va_runV (As := [.int (nI e)]) (rest := [.int (nI ((3 * rn) + k)), .ref yg]) (b := y) S0 (c_X5_digit l g y ya yb yc yd ye yf yg yh yi yj yk yl ft tr lane ml cel np sl kd hg (ps + 1 + k) rs rn (upd rk rn (kL (xL cel ps e))) rq lg fk gt tkn nr ru rl rm rd e he hpk) (cwV 1 hts gX5_readPass_X5_digit rfl rfl rfl (by decide +kernel) ⟨by decide, by decide⟩) (zpreVM hK hP hD [0, 1, 2, 3, 4, 5, 6, 7, 8, 9, 10, 11, 12] rfl (by decide) (va_recv hK.1 hPc (ci := 5) (q0 := 0) rfl rfl)) rfl rfl hl.1 rfl (lv_room (Nat.le_of_ble_eq_true rfl)) dX5_readPass_110 ⟨by decide, by decide⟩) hP hD hS [0, 1, 2, 3, 4, 5, 6, 7, 8, 9, 10, 11, 12] rfl (fun uu110 => wM g y ya yb yc yd ye yf yg yh yi yj yk yl ft tr lane ml cel np sl kd hg (dgP cel (ps + 1 + k) e) rs rn (upd rk rn (kL (xL cel ps e))) rq lg fk gt tkn nr ru rl rm rd) (fun _ => lz_wM.trans lz_wM.symm) (fun _ => rfl) (fun _ => ad_wM.trans ad_wM.symm) (fun r110 uu110 H locs h110 hP hD hS => ?_)
              subst h110
              refine n_iast (i := ((3 * rn) + k)) (x := (dgR cel (ps + 1 + k) e)) (ws1 := wM g y ya yb yc yd ye yf yg yh yi yj yk yl ft tr lane ml cel np sl kd hg (dgP cel (ps + 1 + k) e) rs rn (upd rk rn (kL (xL cel ps e))) (upd rq ((3 * rn) + k) (dgR cel (ps + 1 + k) e)) lg fk gt tkn nr ru rl rm rd) hx hb hK.1 hP hD hS 7 0 rfl rfl (by omega) (by decide) (upd rq ((3 * rn) + k) (dgR cel (ps + 1 + k) e)) rfl rfl dX5_readPass_113 (fun H locs hP hD hS => ?_)
              refine lv_aload_n hx hb dX5_readPass_114 rfl (lv_at hl 0 rfl) ?_
              refine va_get (D := g.1) (ci := 5) (v := .ref yg) (C := RX5) (T := TX5) (N := 23) hx hb hts (fun _ h => (List.mem_cons_of_mem _ (List.mem_append_right _ h))) hown hK.1 hP 0 rfl rfl 13 (by decide) (hts _ (List.mem_of_getElem? (i := 5) rfl)) (fun _ h9 => h9) rfl dX5_readPass_115 ?_
              refine lv_iconst (v := (nI 3)) hx hb dX5_readPass_118 (by decide) ?_
              refine lv_aload_n hx hb dX5_readPass_119 rfl (lv_at hl 0 rfl) ?_
              refine va_get (D := g.1) (ci := 5) (v := .int (nI rn)) (C := RX5) (T := TX5) (N := 23) hx hb hts (fun _ h => (List.mem_cons_of_mem _ (List.mem_append_right _ h))) hown hK.1 hP 0 rfl rfl 11 (by decide) (hts _ (List.mem_of_getElem? (i := 4) rfl)) (fun _ h9 => h9) rfl dX5_readPass_120 ?_
              refine n_imul (a := 3) (b := rn) hx hb dX5_readPass_123 ?_
              refine lv_iload_n hx hb dX5_readPass_124 rfl (lv_at hl 3 rfl) ?_
              refine n_iadd (a := (3 * rn)) (b := k) hx hb dX5_readPass_125 ?_
              refine n_iald (i := ((3 * rn) + k)) (v := ((upd rq ((3 * rn) + k) (dgR cel (ps + 1 + k) e)) ((3 * rn) + k))) hx hb hK.1 hP 7 0 rfl rfl (by omega) (by decide) rfl dX5_readPass_126 ?_
              refine ztopI (dgR cel (ps + 1 + k) e) (if_pos rfl) ?_
              refine lv_bipush (v := (-9)) hx hb dX5_readPass_127 (by decide) ?_
              refine lv_icmp_ne (tgt := 134) hx hb dX5_readPass_129 (by decide) (fun c129 => ?_) (fun c129 => ?_)
              · have hd : dgC cel (ps + 1 + k) e := dgR_n9 c129
                rw [dgP_y hd] at hP hD
                refine n_iinc (a := k) (d := 1) (lv' := [(3, .int (nI (k + 1))), (0, .ref y), (1, .int (nI e)), (2, .int (xL cel ps e))]) hx hb dX5_readPass_134 hl (k := 3) rfl (by decide) (by decide) rfl (fun ls hl => ?_)
                refine lv_goto (tgt := 91) hx hb dX5_readPass_137 (by decide) ?_
                exact ih91 (k + 1) (upd rq (3 * rn + k) (dgR cel (ps + 1 + k) e)) _ _ ls (by omega) (by omega) (by have := hd.1; omega) (rp_s1 hdd hd) (rp_s2 hrq1) (rp_s3 hrq2 hd) hP hD hS (lv_sub hl [1, 2, 3, 0] rfl)
              · have hd : ¬ dgC cel (ps + 1 + k) e := dgR_9 c129
                rw [dgP_n hd] at hP hD
                refine lv_iconst (v := (nI 0)) hx hb dX5_readPass_132 (by decide) ?_
                exact zretMI (w1 := fun (uu : Nat × (Nat → Int32) × (Nat → Int32)) => wM g y ya yb yc yd ye yf yg yh yi yj yk yl ft tr lane ml cel np sl kd hg (ps + uu.1) rs (rn + uu.1 / 4) uu.2.1 uu.2.2 lg fk gt tkn nr ru rl rm rd) (1 + k, upd rk rn (kL (xL cel ps e)), upd rq ((3 * rn) + k) (dgR cel (ps + 1 + k) e)) hx hb hr hlocks hS rfl (rpQ_or (rp_d hk3 hkk hrq1 hdd hd)) (by have e1 : (1 + k) / 4 = 0 := (by omega); have e2 : ps + (1 + k) = ps + 1 + k := (by omega); simp only [e1, e2, Nat.add_zero]; exact hP) dX5_readPass_133
        exact lp91 (3 - 0 + 1) 0 rh _ _ ls (Nat.lt_succ_self _) (by omega) (by omega) (fun _ z => absurd z (Nat.not_lt_zero _)) (fun _ _ => rfl) (fun _ z => absurd z (Nat.not_lt_zero _)) hP hD hS (lv_sub hl [2, 3, 1, 0] rfl)
      · refine lv_iconst (v := (nI 0)) hx hb dX5_readPass_77 (by decide) ?_
        exact zretMI (w1 := fun (uu : Nat × (Nat → Int32) × (Nat → Int32)) => wM g y ya yb yc yd ye yf yg yh yi yj yk yl ft tr lane ml cel np sl kd hg (ps + uu.1) rs (rn + uu.1 / 4) uu.2.1 uu.2.2 lg fk gt tkn nr ru rl rm rd) (0, upd rk rn (kL (xL cel ps e)), rh) hx hb hr hlocks hS rfl (rpQ_or (rp_0 c74)) (by simp only [show 0 / 4 = 0 from rfl, Nat.add_zero]; exact hP) dX5_readPass_78
  · refine lv_aload_n hx hb dX5_readPass_8 rfl (lv_at hl 0 rfl) ?_
    refine va_get (D := g.1) (ci := 5) (v := .ref yc) (C := RX5) (T := TX5) (N := 23) hx hb hts (fun _ h => (List.mem_cons_of_mem _ (List.mem_append_right _ h))) hown hK.1 hP 0 rfl rfl 4 (by decide) (hts _ (List.mem_of_getElem? (i := 2) rfl)) (fun _ h9 => h9) rfl dX5_readPass_9 ?_
    refine lv_aload_n hx hb dX5_readPass_12 rfl (lv_at hl 0 rfl) ?_
    refine va_get (D := g.1) (ci := 5) (v := .int (nI ps)) (C := RX5) (T := TX5) (N := 23) hx hb hts (fun _ h => (List.mem_cons_of_mem _ (List.mem_append_right _ h))) hown hK.1 hP 0 rfl rfl 9 (by decide) (hts _ (List.mem_of_getElem? (i := 1) rfl)) (fun _ h9 => h9) rfl dX5_readPass_13 ?_
    refine n_iald (i := ps) (v := (cel (ps / 60) (ps % 60))) hx hb hK.1 hP 3 0 rfl rfl (by omega) (by decide) rfl dX5_readPass_16 ?_
    refine ztopI (xL cel ps e) (by rw [xL, if_pos (by omega)]) ?_
    refine lv_goto (tgt := 21) hx hb dX5_readPass_17 (by decide) ?_
    refine lv_istore_n (lv' := [(2, .int (xL cel ps e)), (0, .ref y), (1, .int (nI e))]) hx hb dX5_readPass_21 rfl hl (by decide) rfl (fun ls hl => ?_)
    refine lv_aload_n hx hb dX5_readPass_22 rfl (lv_at hl 1 rfl) ?_
    refine va_get (D := g.1) (ci := 5) (v := .ref yf) (C := RX5) (T := TX5) (N := 23) hx hb hts (fun _ h => (List.mem_cons_of_mem _ (List.mem_append_right _ h))) hown hK.1 hP 0 rfl rfl 12 (by decide) (hts _ (List.mem_of_getElem? (i := 3) rfl)) (fun _ h9 => h9) rfl dX5_readPass_23 ?_
    refine lv_aload_n hx hb dX5_readPass_26 rfl (lv_at hl 1 rfl) ?_
    refine va_get (D := g.1) (ci := 5) (v := .int (nI rn)) (C := RX5) (T := TX5) (N := 23) hx hb hts (fun _ h => (List.mem_cons_of_mem _ (List.mem_append_right _ h))) hown hK.1 hP 0 rfl rfl 11 (by decide) (hts _ (List.mem_of_getElem? (i := 4) rfl)) (fun _ h9 => h9) rfl dX5_readPass_27 ?_
    refine lv_iload_n hx hb dX5_readPass_30 rfl (lv_at hl 0 rfl) ?_
    refine lv_bipush (v := (nI 112)) hx hb dX5_readPass_31 (by decide) ?_
    refine lv_icmp_ne (tgt := 40) hx hb dX5_readPass_33 (by decide) (fun c33 => ?_) (fun c33 => ?_)
    · refine lv_iload_n hx hb dX5_readPass_40 rfl (lv_at hl 0 rfl) ?_
      refine lv_bipush (v := (nI 108)) hx hb dX5_readPass_41 (by decide) ?_
      refine lv_icmp_ne (tgt := 50) hx hb dX5_readPass_43 (by decide) (fun c43 => ?_) (fun c43 => ?_)
      · refine lv_iload_n hx hb dX5_readPass_50 rfl (lv_at hl 0 rfl) ?_
        refine lv_bipush (v := (nI 100)) hx hb dX5_readPass_51 (by decide) ?_
        refine lv_icmp_ne (tgt := 60) hx hb dX5_readPass_53 (by decide) (fun c53 => ?_) (fun c53 => ?_)
        · refine lv_bipush (v := (-9)) hx hb dX5_readPass_60 (by decide) ?_
          refine ztopI (kL (xL cel ps e)) (by rw [kL, if_neg c33, if_neg c43, if_neg c53]) ?_
          refine n_iast (i := rn) (x := (kL (xL cel ps e))) (ws1 := wM g y ya yb yc yd ye yf yg yh yi yj yk yl ft tr lane ml cel np sl kd hg ps rs rn (upd rk rn (kL (xL cel ps e))) rh lg fk gt tkn nr ru rl rm rd) hx hb hK.1 hP hD hS 6 0 rfl rfl (by omega) (by decide) (upd rk rn (kL (xL cel ps e))) rfl rfl dX5_readPass_62 (fun H locs hP hD hS => ?_)
          refine lv_aload_n hx hb dX5_readPass_63 rfl (lv_at hl 1 rfl) ?_
          refine va_get (D := g.1) (ci := 5) (v := .ref yf) (C := RX5) (T := TX5) (N := 23) hx hb hts (fun _ h => (List.mem_cons_of_mem _ (List.mem_append_right _ h))) hown hK.1 hP 0 rfl rfl 12 (by decide) (hts _ (List.mem_of_getElem? (i := 3) rfl)) (fun _ h9 => h9) rfl dX5_readPass_64 ?_
          refine lv_aload_n hx hb dX5_readPass_67 rfl (lv_at hl 1 rfl) ?_
          refine va_get (D := g.1) (ci := 5) (v := .int (nI rn)) (C := RX5) (T := TX5) (N := 23) hx hb hts (fun _ h => (List.mem_cons_of_mem _ (List.mem_append_right _ h))) hown hK.1 hP 0 rfl rfl 11 (by decide) (hts _ (List.mem_of_getElem? (i := 4) rfl)) (fun _ h9 => h9) rfl dX5_readPass_68 ?_
          refine n_iald (i := rn) (v := ((upd rk rn (kL (xL cel ps e))) rn)) hx hb hK.1 hP 6 0 rfl rfl (by omega) (by decide) rfl dX5_readPass_71 ?_
          refine ztopI (kL (xL cel ps e)) (if_pos rfl) ?_
          refine lv_bipush (v := (-9)) hx hb dX5_readPass_72 (by decide) ?_
          refine lv_icmp_ne (tgt := 79) hx hb dX5_readPass_74 (by decide) (fun c74 => ?_) (fun c74 => ?_)
          · have hkk : gp cel ps e 0 ∧ xL cel ps e = cf cel ps := xL_k c74
            have hp1 := hkk.1.1
            refine lv_aload_n hx hb dX5_readPass_79 rfl (lv_at hl 1 rfl) ?_
            refine lv_dup hx hb dX5_readPass_80 rfl ?_
            refine va_get (D := g.1) (ci := 5) (v := .int (nI ps)) (C := RX5) (T := TX5) (N := 23) hx hb hts (fun _ h => (List.mem_cons_of_mem _ (List.mem_append_right _ h))) hown hK.1 hP 0 rfl rfl 9 (by decide) (hts _ (List.mem_of_getElem? (i := 1) rfl)) (fun _ h9 => h9) rfl dX5_readPass_81 ?_
            refine lv_iconst (v := (nI 1)) hx hb dX5_readPass_84 (by decide) ?_
            refine n_iadd (a := ps) (b := 1) hx hb dX5_readPass_85 ?_
            refine n_put (D := g.1) (ci := 5) (v := .int (nI (ps + 1))) (ty := .int) (C := RX5) (T := TX5) (N := 23) (ws1 := wM g y ya yb yc yd ye yf yg yh yi yj yk yl ft tr lane ml cel np sl kd hg (ps + 1) rs rn (upd rk rn (kL (xL cel ps e))) rh lg fk gt tkn nr ru rl rm rd) hx hb hts (fun _ h => (List.mem_cons_of_mem _ (List.mem_append_right _ h))) tyX5 tyX5_ok nmX5 hown hK.1 hP hD hS 0 rfl rfl 9 (by decide) (hts _ (List.mem_of_getElem? (i := 1) rfl)) (fun _ h9 => h9) rfl (by decide +kernel) rfl rfl (Nat.le_of_ble_eq_true rfl) rfl dX5_readPass_86 (fun H locs hP hD hS => ?_)
            refine lv_iconst (v := (nI 0)) hx hb dX5_readPass_89 (by decide) ?_
            refine lv_istore_n (lv' := [(3, .int (nI 0)), (2, .int (xL cel ps e)), (0, .ref y), (1, .int (nI e))]) hx hb dX5_readPass_90 rfl hl (by decide) rfl (fun ls hl => ?_)
            have lp91 : ∀ (nn : Nat) (k : Nat) (rq : Nat → Int32) (H : Heap) (locs : List Loc) (ls : Array Slot), (3 - k) < nn → (k ≤ 3) → (ps + 1 + k ≤ e) → (∀ d, d < k → dgC cel (ps + 1 + d) e) → (∀ j, j < 3 * rn → rq j = rh j) → (∀ d, d < k → rq (3 * rn + d) = nI (dv (cf cel (ps + 1 + d)))) → PP g (wM g y ya yb yc yd ye yf yg yh yi yj yk yl ft tr lane ml cel np sl kd hg (ps + 1 + k) rs rn (upd rk rn (kL (xL cel ps e))) rq lg fk gt tkn nr ru rl rm rd) H → va_D (inW (wM g y ya yb yc yd ye yf yg yh yi yj yk yl ft tr lane ml cel np sl kd hg ps rs rn rk rh lg fk gt tkn nr ru rl rm rd)) (wM g y ya yb yc yd ye yf yg yh yi yj yk yl ft tr lane ml cel np sl kd hg (ps + 1 + k) rs rn (upd rk rn (kL (xL cel ps e))) rq lg fk gt tkn nr ru rl rm rd) → va_S (inW (wM g y ya yb yc yd ye yf yg yh yi yj yk yl ft tr lane ml cel np sl kd hg ps rs rn rk rh lg fk gt tkn nr ru rl rm rd)) s.heap H locs → lv_has ls 4 [(0, .ref y), (1, .int (nI e)), (2, .int (xL cel ps e)), (3, .int (nI k))] → W P l E ({ frames := 2, cells := 0, slots := 0, locals := 43 } : Room) s mt [.ref y, .int (nI e)].toArray below meth cd H locs 0 0 (MQ below (va_Qi (fun (r : Int32) (uu : Nat × (Nat → Int32) × (Nat → Int32)) => (uu.1 = 4 ∧ rpR cel ps e rn rk rh uu.1 uu.2.1 uu.2.2 ∧ r = nI 1) ∨ ((uu.1 < 4 ∧ ¬ gp cel ps e uu.1) ∧ rpR cel ps e rn rk rh uu.1 uu.2.1 uu.2.2 ∧ r = nI 0)) (fun (uu : Nat × (Nat → Int32) × (Nat → Int32)) t => PP g (wM g y ya yb yc yd ye yf yg yh yi yj yk yl ft tr lane ml cel np sl kd hg (ps + uu.1) rs (rn + uu.1 / 4) uu.2.1 uu.2.2 lg fk gt tkn nr ru rl rm rd) t.heap) (inW (wM g y ya yb yc yd ye yf yg yh yi yj yk yl ft tr lane ml cel np sl kd hg ps rs rn rk rh lg fk gt tkn nr ru rl rm rd))) [.ref y, .int (nI e)].toArray s 0 0 (inW (wM g y ya yb yc yd ye yf yg yh yi yj yk yl ft tr lane ml cel np sl kd hg ps rs rn rk rh lg fk gt tkn nr ru rl rm rd))) (F0 mt 91 ls []) := by
              intro nn
              induction nn with
              | zero => intro k rq H locs ls hmu; exact absurd hmu (Nat.not_lt_zero _)
              | succ nn ih91 =>
                intro k rq H locs ls hmu hk hpk hdd hrq1 hrq2 hP hD hS hl
                refine lv_iload_n hx hb dX5_readPass_91 rfl (lv_at hl 3 rfl) ?_
                refine lv_iconst (v := (nI 3)) hx hb dX5_readPass_92 (by decide) ?_
                refine n_icmp_ge (a := k) (b := 3) (tgt := 140) hx hb (by omega) (by omega) dX5_readPass_93 (by decide) (fun c93 => ?_) (fun c93 => ?_)
                · obtain rfl : 3 = k := by omega
                  rw [show ps + 1 + 3 = ps + 4 from rfl] at hP hD
                  refine lv_aload_n hx hb dX5_readPass_140 rfl (lv_at hl 0 rfl) ?_
                  refine lv_dup hx hb dX5_readPass_141 rfl ?_
                  refine va_get (D := g.1) (ci := 5) (v := .int (nI rn)) (C := RX5) (T := TX5) (N := 23) hx hb hts (fun _ h => (List.mem_cons_of_mem _ (List.mem_append_right _ h))) hown hK.1 hP 0 rfl rfl 11 (by decide) (hts _ (List.mem_of_getElem? (i := 4) rfl)) (fun _ h9 => h9) rfl dX5_readPass_142 ?_
                  refine lv_iconst (v := (nI 1)) hx hb dX5_readPass_145 (by decide) ?_
                  refine n_iadd (a := rn) (b := 1) hx hb dX5_readPass_146 ?_
                  refine n_put (D := g.1) (ci := 5) (v := .int (nI (rn + 1))) (ty := .int) (C := RX5) (T := TX5) (N := 23) (ws1 := wM g y ya yb yc yd ye yf yg yh yi yj yk yl ft tr lane ml cel np sl kd hg (ps + 4) rs (rn + 1) (upd rk rn (kL (xL cel ps e))) rq lg fk gt tkn nr ru rl rm rd) hx hb hts (fun _ h => (List.mem_cons_of_mem _ (List.mem_append_right _ h))) tyX5 tyX5_ok nmX5 hown hK.1 hP hD hS 0 rfl rfl 11 (by decide) (hts _ (List.mem_of_getElem? (i := 4) rfl)) (fun _ h9 => h9) rfl (by decide +kernel) rfl rfl (Nat.le_of_ble_eq_true rfl) rfl dX5_readPass_147 (fun H locs hP hD hS => ?_)
                  refine lv_iconst (v := (nI 1)) hx hb dX5_readPass_150 (by decide) ?_
                  exact zretMI (w1 := fun (uu : Nat × (Nat → Int32) × (Nat → Int32)) => wM g y ya yb yc yd ye yf yg yh yi yj yk yl ft tr lane ml cel np sl kd hg (ps + uu.1) rs (rn + uu.1 / 4) uu.2.1 uu.2.2 lg fk gt tkn nr ru rl rm rd) (4, upd rk rn (kL (xL cel ps e)), rq) hx hb hr hlocks hS rfl (rpQ_or (rp_4 hkk hrq1 hrq2 hdd)) (by simp only [show 4 / 4 = 1 from rfl]; exact hP) dX5_readPass_151
                · have hk3 : k < 3 := by omega
                  refine lv_aload_n hx hb dX5_readPass_96 rfl (lv_at hl 0 rfl) ?_
                  refine va_get (D := g.1) (ci := 5) (v := .ref yg) (C := RX5) (T := TX5) (N := 23) hx hb hts (fun _ h => (List.mem_cons_of_mem _ (List.mem_append_right _ h))) hown hK.1 hP 0 rfl rfl 13 (by decide) (hts _ (List.mem_of_getElem? (i := 5) rfl)) (fun _ h9 => h9) rfl dX5_readPass_97 ?_
                  refine lv_iconst (v := (nI 3)) hx hb dX5_readPass_100 (by decide) ?_
                  refine lv_aload_n hx hb dX5_readPass_101 rfl (lv_at hl 0 rfl) ?_
                  refine va_get (D := g.1) (ci := 5) (v := .int (nI rn)) (C := RX5) (T := TX5) (N := 23) hx hb hts (fun _ h => (List.mem_cons_of_mem _ (List.mem_append_right _ h))) hown hK.1 hP 0 rfl rfl 11 (by decide) (hts _ (List.mem_of_getElem? (i := 4) rfl)) (fun _ h9 => h9) rfl dX5_readPass_102 ?_
                  refine n_imul (a := 3) (b := rn) hx hb dX5_readPass_105 ?_
                  refine lv_iload_n hx hb dX5_readPass_106 rfl (lv_at hl 3 rfl) ?_
                  refine n_iadd (a := (3 * rn)) (b := k) hx hb dX5_readPass_107 ?_
                  refine lv_aload_n hx hb dX5_readPass_108 rfl (lv_at hl 0 rfl) ?_
                  refine lv_iload_n hx hb dX5_readPass_109 rfl (lv_at hl 1 rfl) ?_
                  have hPc : PP g (wM g y ya yb yc yd ye yf yg yh yi yj yk yl ft tr lane ml cel np sl kd hg (ps + 1 + k) rs rn (upd rk rn (kL (xL cel ps e))) rq lg fk gt tkn nr ru rl rm rd) _ := P_sub hP [0, 1, 2, 3, 4, 5, 6, 7, 8, 9, 10, 11, 12] rfl
                  refine zcallM (w := wM g y ya yb yc yd ye yf yg yh yi yj yk yl ft tr lane ml cel np sl kd hg (ps + 1 + k) rs rn (upd rk rn (kL (xL cel ps e))) rq lg fk gt tkn nr ru rl rm rd) (va_runV (As := [.int (nI e)]) (rest := [.int (nI ((3 * rn) + k)), .ref yg]) (b := y) S0 (c_X5_digit l g y ya yb yc yd ye yf yg yh yi yj yk yl ft tr lane ml cel np sl kd hg (ps + 1 + k) rs rn (upd rk rn (kL (xL cel ps e))) rq lg fk gt tkn nr ru rl rm rd e he hpk) (cwV 1 hts gX5_readPass_X5_digit rfl rfl rfl (by decide +kernel) ⟨by decide, by decide⟩) (zpreVM hK hP hD [0, 1, 2, 3, 4, 5, 6, 7, 8, 9, 10, 11, 12] rfl (by decide) (va_recv hK.1 hPc (ci := 5) (q0 := 0) rfl rfl)) rfl rfl hl.1 rfl (lv_room (Nat.le_of_ble_eq_true rfl)) dX5_readPass_110 ⟨by decide, by decide⟩) hP hD hS [0, 1, 2, 3, 4, 5, 6, 7, 8, 9, 10, 11, 12] rfl (fun uu110 => wM g y ya yb yc yd ye yf yg yh yi yj yk yl ft tr lane ml cel np sl kd hg (dgP cel (ps + 1 + k) e) rs rn (upd rk rn (kL (xL cel ps e))) rq lg fk gt tkn nr ru rl rm rd) (fun _ => lz_wM.trans lz_wM.symm) (fun _ => rfl) (fun _ => ad_wM.trans ad_wM.symm) (fun r110 uu110 H locs h110 hP hD hS => ?_)
                  subst h110
                  refine n_iast (i := ((3 * rn) + k)) (x := (dgR cel (ps + 1 + k) e)) (ws1 := wM g y ya yb yc yd ye yf yg yh yi yj yk yl ft tr lane ml cel np sl kd hg (dgP cel (ps + 1 + k) e) rs rn (upd rk rn (kL (xL cel ps e))) (upd rq ((3 * rn) + k) (dgR cel (ps + 1 + k) e)) lg fk gt tkn nr ru rl rm rd) hx hb hK.1 hP hD hS 7 0 rfl rfl (by omega) (by decide) (upd rq ((3 * rn) + k) (dgR cel (ps + 1 + k) e)) rfl rfl dX5_readPass_113 (fun H locs hP hD hS => ?_)
                  refine lv_aload_n hx hb dX5_readPass_114 rfl (lv_at hl 0 rfl) ?_
                  refine va_get (D := g.1) (ci := 5) (v := .ref yg) (C := RX5) (T := TX5) (N := 23) hx hb hts (fun _ h => (List.mem_cons_of_mem _ (List.mem_append_right _ h))) hown hK.1 hP 0 rfl rfl 13 (by decide) (hts _ (List.mem_of_getElem? (i := 5) rfl)) (fun _ h9 => h9) rfl dX5_readPass_115 ?_
                  refine lv_iconst (v := (nI 3)) hx hb dX5_readPass_118 (by decide) ?_
                  refine lv_aload_n hx hb dX5_readPass_119 rfl (lv_at hl 0 rfl) ?_
                  refine va_get (D := g.1) (ci := 5) (v := .int (nI rn)) (C := RX5) (T := TX5) (N := 23) hx hb hts (fun _ h => (List.mem_cons_of_mem _ (List.mem_append_right _ h))) hown hK.1 hP 0 rfl rfl 11 (by decide) (hts _ (List.mem_of_getElem? (i := 4) rfl)) (fun _ h9 => h9) rfl dX5_readPass_120 ?_
                  refine n_imul (a := 3) (b := rn) hx hb dX5_readPass_123 ?_
                  refine lv_iload_n hx hb dX5_readPass_124 rfl (lv_at hl 3 rfl) ?_
                  refine n_iadd (a := (3 * rn)) (b := k) hx hb dX5_readPass_125 ?_
                  refine n_iald (i := ((3 * rn) + k)) (v := ((upd rq ((3 * rn) + k) (dgR cel (ps + 1 + k) e)) ((3 * rn) + k))) hx hb hK.1 hP 7 0 rfl rfl (by omega) (by decide) rfl dX5_readPass_126 ?_
                  refine ztopI (dgR cel (ps + 1 + k) e) (if_pos rfl) ?_
                  refine lv_bipush (v := (-9)) hx hb dX5_readPass_127 (by decide) ?_
                  refine lv_icmp_ne (tgt := 134) hx hb dX5_readPass_129 (by decide) (fun c129 => ?_) (fun c129 => ?_)
                  · have hd : dgC cel (ps + 1 + k) e := dgR_n9 c129
                    rw [dgP_y hd] at hP hD
                    refine n_iinc (a := k) (d := 1) (lv' := [(3, .int (nI (k + 1))), (0, .ref y), (1, .int (nI e)), (2, .int (xL cel ps e))]) hx hb dX5_readPass_134 hl (k := 3) rfl (by decide) (by decide) rfl (fun ls hl => ?_)
                    refine lv_goto (tgt := 91) hx hb dX5_readPass_137 (by decide) ?_
                    exact ih91 (k + 1) (upd rq (3 * rn + k) (dgR cel (ps + 1 + k) e)) _ _ ls (by omega) (by omega) (by have := hd.1; omega) (rp_s1 hdd hd) (rp_s2 hrq1) (rp_s3 hrq2 hd) hP hD hS (lv_sub hl [1, 2, 3, 0] rfl)
                  · have hd : ¬ dgC cel (ps + 1 + k) e := dgR_9 c129
                    rw [dgP_n hd] at hP hD
                    refine lv_iconst (v := (nI 0)) hx hb dX5_readPass_132 (by decide) ?_
                    exact zretMI (w1 := fun (uu : Nat × (Nat → Int32) × (Nat → Int32)) => wM g y ya yb yc yd ye yf yg yh yi yj yk yl ft tr lane ml cel np sl kd hg (ps + uu.1) rs (rn + uu.1 / 4) uu.2.1 uu.2.2 lg fk gt tkn nr ru rl rm rd) (1 + k, upd rk rn (kL (xL cel ps e)), upd rq ((3 * rn) + k) (dgR cel (ps + 1 + k) e)) hx hb hr hlocks hS rfl (rpQ_or (rp_d hk3 hkk hrq1 hdd hd)) (by have e1 : (1 + k) / 4 = 0 := (by omega); have e2 : ps + (1 + k) = ps + 1 + k := (by omega); simp only [e1, e2, Nat.add_zero]; exact hP) dX5_readPass_133
            exact lp91 (3 - 0 + 1) 0 rh _ _ ls (Nat.lt_succ_self _) (by omega) (by omega) (fun _ z => absurd z (Nat.not_lt_zero _)) (fun _ _ => rfl) (fun _ z => absurd z (Nat.not_lt_zero _)) hP hD hS (lv_sub hl [2, 3, 1, 0] rfl)
          · refine lv_iconst (v := (nI 0)) hx hb dX5_readPass_77 (by decide) ?_
            exact zretMI (w1 := fun (uu : Nat × (Nat → Int32) × (Nat → Int32)) => wM g y ya yb yc yd ye yf yg yh yi yj yk yl ft tr lane ml cel np sl kd hg (ps + uu.1) rs (rn + uu.1 / 4) uu.2.1 uu.2.2 lg fk gt tkn nr ru rl rm rd) (0, upd rk rn (kL (xL cel ps e)), rh) hx hb hr hlocks hS rfl (rpQ_or (rp_0 c74)) (by simp only [show 0 / 4 = 0 from rfl, Nat.add_zero]; exact hP) dX5_readPass_78
        · refine lv_iconst (v := (nI 2)) hx hb dX5_readPass_56 (by decide) ?_
          refine ztopI (kL (xL cel ps e)) (by rw [kL, if_neg c33, if_neg c43, if_pos c53]) ?_
          refine lv_goto (tgt := 62) hx hb dX5_readPass_57 (by decide) ?_
          refine n_iast (i := rn) (x := (kL (xL cel ps e))) (ws1 := wM g y ya yb yc yd ye yf yg yh yi yj yk yl ft tr lane ml cel np sl kd hg ps rs rn (upd rk rn (kL (xL cel ps e))) rh lg fk gt tkn nr ru rl rm rd) hx hb hK.1 hP hD hS 6 0 rfl rfl (by omega) (by decide) (upd rk rn (kL (xL cel ps e))) rfl rfl dX5_readPass_62 (fun H locs hP hD hS => ?_)
          refine lv_aload_n hx hb dX5_readPass_63 rfl (lv_at hl 1 rfl) ?_
          refine va_get (D := g.1) (ci := 5) (v := .ref yf) (C := RX5) (T := TX5) (N := 23) hx hb hts (fun _ h => (List.mem_cons_of_mem _ (List.mem_append_right _ h))) hown hK.1 hP 0 rfl rfl 12 (by decide) (hts _ (List.mem_of_getElem? (i := 3) rfl)) (fun _ h9 => h9) rfl dX5_readPass_64 ?_
          refine lv_aload_n hx hb dX5_readPass_67 rfl (lv_at hl 1 rfl) ?_
          refine va_get (D := g.1) (ci := 5) (v := .int (nI rn)) (C := RX5) (T := TX5) (N := 23) hx hb hts (fun _ h => (List.mem_cons_of_mem _ (List.mem_append_right _ h))) hown hK.1 hP 0 rfl rfl 11 (by decide) (hts _ (List.mem_of_getElem? (i := 4) rfl)) (fun _ h9 => h9) rfl dX5_readPass_68 ?_
          refine n_iald (i := rn) (v := ((upd rk rn (kL (xL cel ps e))) rn)) hx hb hK.1 hP 6 0 rfl rfl (by omega) (by decide) rfl dX5_readPass_71 ?_
          refine ztopI (kL (xL cel ps e)) (if_pos rfl) ?_
          refine lv_bipush (v := (-9)) hx hb dX5_readPass_72 (by decide) ?_
          refine lv_icmp_ne (tgt := 79) hx hb dX5_readPass_74 (by decide) (fun c74 => ?_) (fun c74 => ?_)
          · have hkk : gp cel ps e 0 ∧ xL cel ps e = cf cel ps := xL_k c74
            have hp1 := hkk.1.1
            refine lv_aload_n hx hb dX5_readPass_79 rfl (lv_at hl 1 rfl) ?_
            refine lv_dup hx hb dX5_readPass_80 rfl ?_
            refine va_get (D := g.1) (ci := 5) (v := .int (nI ps)) (C := RX5) (T := TX5) (N := 23) hx hb hts (fun _ h => (List.mem_cons_of_mem _ (List.mem_append_right _ h))) hown hK.1 hP 0 rfl rfl 9 (by decide) (hts _ (List.mem_of_getElem? (i := 1) rfl)) (fun _ h9 => h9) rfl dX5_readPass_81 ?_
            refine lv_iconst (v := (nI 1)) hx hb dX5_readPass_84 (by decide) ?_
            refine n_iadd (a := ps) (b := 1) hx hb dX5_readPass_85 ?_
            refine n_put (D := g.1) (ci := 5) (v := .int (nI (ps + 1))) (ty := .int) (C := RX5) (T := TX5) (N := 23) (ws1 := wM g y ya yb yc yd ye yf yg yh yi yj yk yl ft tr lane ml cel np sl kd hg (ps + 1) rs rn (upd rk rn (kL (xL cel ps e))) rh lg fk gt tkn nr ru rl rm rd) hx hb hts (fun _ h => (List.mem_cons_of_mem _ (List.mem_append_right _ h))) tyX5 tyX5_ok nmX5 hown hK.1 hP hD hS 0 rfl rfl 9 (by decide) (hts _ (List.mem_of_getElem? (i := 1) rfl)) (fun _ h9 => h9) rfl (by decide +kernel) rfl rfl (Nat.le_of_ble_eq_true rfl) rfl dX5_readPass_86 (fun H locs hP hD hS => ?_)
            refine lv_iconst (v := (nI 0)) hx hb dX5_readPass_89 (by decide) ?_
            refine lv_istore_n (lv' := [(3, .int (nI 0)), (2, .int (xL cel ps e)), (0, .ref y), (1, .int (nI e))]) hx hb dX5_readPass_90 rfl hl (by decide) rfl (fun ls hl => ?_)
            have lp91 : ∀ (nn : Nat) (k : Nat) (rq : Nat → Int32) (H : Heap) (locs : List Loc) (ls : Array Slot), (3 - k) < nn → (k ≤ 3) → (ps + 1 + k ≤ e) → (∀ d, d < k → dgC cel (ps + 1 + d) e) → (∀ j, j < 3 * rn → rq j = rh j) → (∀ d, d < k → rq (3 * rn + d) = nI (dv (cf cel (ps + 1 + d)))) → PP g (wM g y ya yb yc yd ye yf yg yh yi yj yk yl ft tr lane ml cel np sl kd hg (ps + 1 + k) rs rn (upd rk rn (kL (xL cel ps e))) rq lg fk gt tkn nr ru rl rm rd) H → va_D (inW (wM g y ya yb yc yd ye yf yg yh yi yj yk yl ft tr lane ml cel np sl kd hg ps rs rn rk rh lg fk gt tkn nr ru rl rm rd)) (wM g y ya yb yc yd ye yf yg yh yi yj yk yl ft tr lane ml cel np sl kd hg (ps + 1 + k) rs rn (upd rk rn (kL (xL cel ps e))) rq lg fk gt tkn nr ru rl rm rd) → va_S (inW (wM g y ya yb yc yd ye yf yg yh yi yj yk yl ft tr lane ml cel np sl kd hg ps rs rn rk rh lg fk gt tkn nr ru rl rm rd)) s.heap H locs → lv_has ls 4 [(0, .ref y), (1, .int (nI e)), (2, .int (xL cel ps e)), (3, .int (nI k))] → W P l E ({ frames := 2, cells := 0, slots := 0, locals := 43 } : Room) s mt [.ref y, .int (nI e)].toArray below meth cd H locs 0 0 (MQ below (va_Qi (fun (r : Int32) (uu : Nat × (Nat → Int32) × (Nat → Int32)) => (uu.1 = 4 ∧ rpR cel ps e rn rk rh uu.1 uu.2.1 uu.2.2 ∧ r = nI 1) ∨ ((uu.1 < 4 ∧ ¬ gp cel ps e uu.1) ∧ rpR cel ps e rn rk rh uu.1 uu.2.1 uu.2.2 ∧ r = nI 0)) (fun (uu : Nat × (Nat → Int32) × (Nat → Int32)) t => PP g (wM g y ya yb yc yd ye yf yg yh yi yj yk yl ft tr lane ml cel np sl kd hg (ps + uu.1) rs (rn + uu.1 / 4) uu.2.1 uu.2.2 lg fk gt tkn nr ru rl rm rd) t.heap) (inW (wM g y ya yb yc yd ye yf yg yh yi yj yk yl ft tr lane ml cel np sl kd hg ps rs rn rk rh lg fk gt tkn nr ru rl rm rd))) [.ref y, .int (nI e)].toArray s 0 0 (inW (wM g y ya yb yc yd ye yf yg yh yi yj yk yl ft tr lane ml cel np sl kd hg ps rs rn rk rh lg fk gt tkn nr ru rl rm rd))) (F0 mt 91 ls []) := by
              intro nn
              induction nn with
              | zero => intro k rq H locs ls hmu; exact absurd hmu (Nat.not_lt_zero _)
              | succ nn ih91 =>
                intro k rq H locs ls hmu hk hpk hdd hrq1 hrq2 hP hD hS hl
                refine lv_iload_n hx hb dX5_readPass_91 rfl (lv_at hl 3 rfl) ?_
                refine lv_iconst (v := (nI 3)) hx hb dX5_readPass_92 (by decide) ?_
                refine n_icmp_ge (a := k) (b := 3) (tgt := 140) hx hb (by omega) (by omega) dX5_readPass_93 (by decide) (fun c93 => ?_) (fun c93 => ?_)
                · obtain rfl : 3 = k := by omega
                  rw [show ps + 1 + 3 = ps + 4 from rfl] at hP hD
                  refine lv_aload_n hx hb dX5_readPass_140 rfl (lv_at hl 0 rfl) ?_
                  refine lv_dup hx hb dX5_readPass_141 rfl ?_
                  refine va_get (D := g.1) (ci := 5) (v := .int (nI rn)) (C := RX5) (T := TX5) (N := 23) hx hb hts (fun _ h => (List.mem_cons_of_mem _ (List.mem_append_right _ h))) hown hK.1 hP 0 rfl rfl 11 (by decide) (hts _ (List.mem_of_getElem? (i := 4) rfl)) (fun _ h9 => h9) rfl dX5_readPass_142 ?_
                  refine lv_iconst (v := (nI 1)) hx hb dX5_readPass_145 (by decide) ?_
                  refine n_iadd (a := rn) (b := 1) hx hb dX5_readPass_146 ?_
                  refine n_put (D := g.1) (ci := 5) (v := .int (nI (rn + 1))) (ty := .int) (C := RX5) (T := TX5) (N := 23) (ws1 := wM g y ya yb yc yd ye yf yg yh yi yj yk yl ft tr lane ml cel np sl kd hg (ps + 4) rs (rn + 1) (upd rk rn (kL (xL cel ps e))) rq lg fk gt tkn nr ru rl rm rd) hx hb hts (fun _ h => (List.mem_cons_of_mem _ (List.mem_append_right _ h))) tyX5 tyX5_ok nmX5 hown hK.1 hP hD hS 0 rfl rfl 11 (by decide) (hts _ (List.mem_of_getElem? (i := 4) rfl)) (fun _ h9 => h9) rfl (by decide +kernel) rfl rfl (Nat.le_of_ble_eq_true rfl) rfl dX5_readPass_147 (fun H locs hP hD hS => ?_)
                  refine lv_iconst (v := (nI 1)) hx hb dX5_readPass_150 (by decide) ?_
                  exact zretMI (w1 := fun (uu : Nat × (Nat → Int32) × (Nat → Int32)) => wM g y ya yb yc yd ye yf yg yh yi yj yk yl ft tr lane ml cel np sl kd hg (ps + uu.1) rs (rn + uu.1 / 4) uu.2.1 uu.2.2 lg fk gt tkn nr ru rl rm rd) (4, upd rk rn (kL (xL cel ps e)), rq) hx hb hr hlocks hS rfl (rpQ_or (rp_4 hkk hrq1 hrq2 hdd)) (by simp only [show 4 / 4 = 1 from rfl]; exact hP) dX5_readPass_151
                · have hk3 : k < 3 := by omega
                  refine lv_aload_n hx hb dX5_readPass_96 rfl (lv_at hl 0 rfl) ?_
                  refine va_get (D := g.1) (ci := 5) (v := .ref yg) (C := RX5) (T := TX5) (N := 23) hx hb hts (fun _ h => (List.mem_cons_of_mem _ (List.mem_append_right _ h))) hown hK.1 hP 0 rfl rfl 13 (by decide) (hts _ (List.mem_of_getElem? (i := 5) rfl)) (fun _ h9 => h9) rfl dX5_readPass_97 ?_
                  refine lv_iconst (v := (nI 3)) hx hb dX5_readPass_100 (by decide) ?_
                  refine lv_aload_n hx hb dX5_readPass_101 rfl (lv_at hl 0 rfl) ?_
                  refine va_get (D := g.1) (ci := 5) (v := .int (nI rn)) (C := RX5) (T := TX5) (N := 23) hx hb hts (fun _ h => (List.mem_cons_of_mem _ (List.mem_append_right _ h))) hown hK.1 hP 0 rfl rfl 11 (by decide) (hts _ (List.mem_of_getElem? (i := 4) rfl)) (fun _ h9 => h9) rfl dX5_readPass_102 ?_
                  refine n_imul (a := 3) (b := rn) hx hb dX5_readPass_105 ?_
                  refine lv_iload_n hx hb dX5_readPass_106 rfl (lv_at hl 3 rfl) ?_
                  refine n_iadd (a := (3 * rn)) (b := k) hx hb dX5_readPass_107 ?_
                  refine lv_aload_n hx hb dX5_readPass_108 rfl (lv_at hl 0 rfl) ?_
                  refine lv_iload_n hx hb dX5_readPass_109 rfl (lv_at hl 1 rfl) ?_
                  have hPc : PP g (wM g y ya yb yc yd ye yf yg yh yi yj yk yl ft tr lane ml cel np sl kd hg (ps + 1 + k) rs rn (upd rk rn (kL (xL cel ps e))) rq lg fk gt tkn nr ru rl rm rd) _ := P_sub hP [0, 1, 2, 3, 4, 5, 6, 7, 8, 9, 10, 11, 12] rfl
                  refine zcallM (w := wM g y ya yb yc yd ye yf yg yh yi yj yk yl ft tr lane ml cel np sl kd hg (ps + 1 + k) rs rn (upd rk rn (kL (xL cel ps e))) rq lg fk gt tkn nr ru rl rm rd) (va_runV (As := [.int (nI e)]) (rest := [.int (nI ((3 * rn) + k)), .ref yg]) (b := y) S0 (c_X5_digit l g y ya yb yc yd ye yf yg yh yi yj yk yl ft tr lane ml cel np sl kd hg (ps + 1 + k) rs rn (upd rk rn (kL (xL cel ps e))) rq lg fk gt tkn nr ru rl rm rd e he hpk) (cwV 1 hts gX5_readPass_X5_digit rfl rfl rfl (by decide +kernel) ⟨by decide, by decide⟩) (zpreVM hK hP hD [0, 1, 2, 3, 4, 5, 6, 7, 8, 9, 10, 11, 12] rfl (by decide) (va_recv hK.1 hPc (ci := 5) (q0 := 0) rfl rfl)) rfl rfl hl.1 rfl (lv_room (Nat.le_of_ble_eq_true rfl)) dX5_readPass_110 ⟨by decide, by decide⟩) hP hD hS [0, 1, 2, 3, 4, 5, 6, 7, 8, 9, 10, 11, 12] rfl (fun uu110 => wM g y ya yb yc yd ye yf yg yh yi yj yk yl ft tr lane ml cel np sl kd hg (dgP cel (ps + 1 + k) e) rs rn (upd rk rn (kL (xL cel ps e))) rq lg fk gt tkn nr ru rl rm rd) (fun _ => lz_wM.trans lz_wM.symm) (fun _ => rfl) (fun _ => ad_wM.trans ad_wM.symm) (fun r110 uu110 H locs h110 hP hD hS => ?_)
                  subst h110
                  refine n_iast (i := ((3 * rn) + k)) (x := (dgR cel (ps + 1 + k) e)) (ws1 := wM g y ya yb yc yd ye yf yg yh yi yj yk yl ft tr lane ml cel np sl kd hg (dgP cel (ps + 1 + k) e) rs rn (upd rk rn (kL (xL cel ps e))) (upd rq ((3 * rn) + k) (dgR cel (ps + 1 + k) e)) lg fk gt tkn nr ru rl rm rd) hx hb hK.1 hP hD hS 7 0 rfl rfl (by omega) (by decide) (upd rq ((3 * rn) + k) (dgR cel (ps + 1 + k) e)) rfl rfl dX5_readPass_113 (fun H locs hP hD hS => ?_)
                  refine lv_aload_n hx hb dX5_readPass_114 rfl (lv_at hl 0 rfl) ?_
                  refine va_get (D := g.1) (ci := 5) (v := .ref yg) (C := RX5) (T := TX5) (N := 23) hx hb hts (fun _ h => (List.mem_cons_of_mem _ (List.mem_append_right _ h))) hown hK.1 hP 0 rfl rfl 13 (by decide) (hts _ (List.mem_of_getElem? (i := 5) rfl)) (fun _ h9 => h9) rfl dX5_readPass_115 ?_
                  refine lv_iconst (v := (nI 3)) hx hb dX5_readPass_118 (by decide) ?_
                  refine lv_aload_n hx hb dX5_readPass_119 rfl (lv_at hl 0 rfl) ?_
                  refine va_get (D := g.1) (ci := 5) (v := .int (nI rn)) (C := RX5) (T := TX5) (N := 23) hx hb hts (fun _ h => (List.mem_cons_of_mem _ (List.mem_append_right _ h))) hown hK.1 hP 0 rfl rfl 11 (by decide) (hts _ (List.mem_of_getElem? (i := 4) rfl)) (fun _ h9 => h9) rfl dX5_readPass_120 ?_
                  refine n_imul (a := 3) (b := rn) hx hb dX5_readPass_123 ?_
                  refine lv_iload_n hx hb dX5_readPass_124 rfl (lv_at hl 3 rfl) ?_
                  refine n_iadd (a := (3 * rn)) (b := k) hx hb dX5_readPass_125 ?_
                  refine n_iald (i := ((3 * rn) + k)) (v := ((upd rq ((3 * rn) + k) (dgR cel (ps + 1 + k) e)) ((3 * rn) + k))) hx hb hK.1 hP 7 0 rfl rfl (by omega) (by decide) rfl dX5_readPass_126 ?_
                  refine ztopI (dgR cel (ps + 1 + k) e) (if_pos rfl) ?_
                  refine lv_bipush (v := (-9)) hx hb dX5_readPass_127 (by decide) ?_
                  refine lv_icmp_ne (tgt := 134) hx hb dX5_readPass_129 (by decide) (fun c129 => ?_) (fun c129 => ?_)
                  · have hd : dgC cel (ps + 1 + k) e := dgR_n9 c129
                    rw [dgP_y hd] at hP hD
                    refine n_iinc (a := k) (d := 1) (lv' := [(3, .int (nI (k + 1))), (0, .ref y), (1, .int (nI e)), (2, .int (xL cel ps e))]) hx hb dX5_readPass_134 hl (k := 3) rfl (by decide) (by decide) rfl (fun ls hl => ?_)
                    refine lv_goto (tgt := 91) hx hb dX5_readPass_137 (by decide) ?_
                    exact ih91 (k + 1) (upd rq (3 * rn + k) (dgR cel (ps + 1 + k) e)) _ _ ls (by omega) (by omega) (by have := hd.1; omega) (rp_s1 hdd hd) (rp_s2 hrq1) (rp_s3 hrq2 hd) hP hD hS (lv_sub hl [1, 2, 3, 0] rfl)
                  · have hd : ¬ dgC cel (ps + 1 + k) e := dgR_9 c129
                    rw [dgP_n hd] at hP hD
                    refine lv_iconst (v := (nI 0)) hx hb dX5_readPass_132 (by decide) ?_
                    exact zretMI (w1 := fun (uu : Nat × (Nat → Int32) × (Nat → Int32)) => wM g y ya yb yc yd ye yf yg yh yi yj yk yl ft tr lane ml cel np sl kd hg (ps + uu.1) rs (rn + uu.1 / 4) uu.2.1 uu.2.2 lg fk gt tkn nr ru rl rm rd) (1 + k, upd rk rn (kL (xL cel ps e)), upd rq ((3 * rn) + k) (dgR cel (ps + 1 + k) e)) hx hb hr hlocks hS rfl (rpQ_or (rp_d hk3 hkk hrq1 hdd hd)) (by have e1 : (1 + k) / 4 = 0 := (by omega); have e2 : ps + (1 + k) = ps + 1 + k := (by omega); simp only [e1, e2, Nat.add_zero]; exact hP) dX5_readPass_133
            exact lp91 (3 - 0 + 1) 0 rh _ _ ls (Nat.lt_succ_self _) (by omega) (by omega) (fun _ z => absurd z (Nat.not_lt_zero _)) (fun _ _ => rfl) (fun _ z => absurd z (Nat.not_lt_zero _)) hP hD hS (lv_sub hl [2, 3, 1, 0] rfl)
          · refine lv_iconst (v := (nI 0)) hx hb dX5_readPass_77 (by decide) ?_
            exact zretMI (w1 := fun (uu : Nat × (Nat → Int32) × (Nat → Int32)) => wM g y ya yb yc yd ye yf yg yh yi yj yk yl ft tr lane ml cel np sl kd hg (ps + uu.1) rs (rn + uu.1 / 4) uu.2.1 uu.2.2 lg fk gt tkn nr ru rl rm rd) (0, upd rk rn (kL (xL cel ps e)), rh) hx hb hr hlocks hS rfl (rpQ_or (rp_0 c74)) (by simp only [show 0 / 4 = 0 from rfl, Nat.add_zero]; exact hP) dX5_readPass_78
      · refine lv_iconst (v := (nI 1)) hx hb dX5_readPass_46 (by decide) ?_
        refine ztopI (kL (xL cel ps e)) (by rw [kL, if_neg c33, if_pos c43]) ?_
        refine lv_goto (tgt := 62) hx hb dX5_readPass_47 (by decide) ?_
        refine n_iast (i := rn) (x := (kL (xL cel ps e))) (ws1 := wM g y ya yb yc yd ye yf yg yh yi yj yk yl ft tr lane ml cel np sl kd hg ps rs rn (upd rk rn (kL (xL cel ps e))) rh lg fk gt tkn nr ru rl rm rd) hx hb hK.1 hP hD hS 6 0 rfl rfl (by omega) (by decide) (upd rk rn (kL (xL cel ps e))) rfl rfl dX5_readPass_62 (fun H locs hP hD hS => ?_)
        refine lv_aload_n hx hb dX5_readPass_63 rfl (lv_at hl 1 rfl) ?_
        refine va_get (D := g.1) (ci := 5) (v := .ref yf) (C := RX5) (T := TX5) (N := 23) hx hb hts (fun _ h => (List.mem_cons_of_mem _ (List.mem_append_right _ h))) hown hK.1 hP 0 rfl rfl 12 (by decide) (hts _ (List.mem_of_getElem? (i := 3) rfl)) (fun _ h9 => h9) rfl dX5_readPass_64 ?_
        refine lv_aload_n hx hb dX5_readPass_67 rfl (lv_at hl 1 rfl) ?_
        refine va_get (D := g.1) (ci := 5) (v := .int (nI rn)) (C := RX5) (T := TX5) (N := 23) hx hb hts (fun _ h => (List.mem_cons_of_mem _ (List.mem_append_right _ h))) hown hK.1 hP 0 rfl rfl 11 (by decide) (hts _ (List.mem_of_getElem? (i := 4) rfl)) (fun _ h9 => h9) rfl dX5_readPass_68 ?_
        refine n_iald (i := rn) (v := ((upd rk rn (kL (xL cel ps e))) rn)) hx hb hK.1 hP 6 0 rfl rfl (by omega) (by decide) rfl dX5_readPass_71 ?_
        refine ztopI (kL (xL cel ps e)) (if_pos rfl) ?_
        refine lv_bipush (v := (-9)) hx hb dX5_readPass_72 (by decide) ?_
        refine lv_icmp_ne (tgt := 79) hx hb dX5_readPass_74 (by decide) (fun c74 => ?_) (fun c74 => ?_)
        · have hkk : gp cel ps e 0 ∧ xL cel ps e = cf cel ps := xL_k c74
          have hp1 := hkk.1.1
          refine lv_aload_n hx hb dX5_readPass_79 rfl (lv_at hl 1 rfl) ?_
          refine lv_dup hx hb dX5_readPass_80 rfl ?_
          refine va_get (D := g.1) (ci := 5) (v := .int (nI ps)) (C := RX5) (T := TX5) (N := 23) hx hb hts (fun _ h => (List.mem_cons_of_mem _ (List.mem_append_right _ h))) hown hK.1 hP 0 rfl rfl 9 (by decide) (hts _ (List.mem_of_getElem? (i := 1) rfl)) (fun _ h9 => h9) rfl dX5_readPass_81 ?_
          refine lv_iconst (v := (nI 1)) hx hb dX5_readPass_84 (by decide) ?_
          refine n_iadd (a := ps) (b := 1) hx hb dX5_readPass_85 ?_
          refine n_put (D := g.1) (ci := 5) (v := .int (nI (ps + 1))) (ty := .int) (C := RX5) (T := TX5) (N := 23) (ws1 := wM g y ya yb yc yd ye yf yg yh yi yj yk yl ft tr lane ml cel np sl kd hg (ps + 1) rs rn (upd rk rn (kL (xL cel ps e))) rh lg fk gt tkn nr ru rl rm rd) hx hb hts (fun _ h => (List.mem_cons_of_mem _ (List.mem_append_right _ h))) tyX5 tyX5_ok nmX5 hown hK.1 hP hD hS 0 rfl rfl 9 (by decide) (hts _ (List.mem_of_getElem? (i := 1) rfl)) (fun _ h9 => h9) rfl (by decide +kernel) rfl rfl (Nat.le_of_ble_eq_true rfl) rfl dX5_readPass_86 (fun H locs hP hD hS => ?_)
          refine lv_iconst (v := (nI 0)) hx hb dX5_readPass_89 (by decide) ?_
          refine lv_istore_n (lv' := [(3, .int (nI 0)), (2, .int (xL cel ps e)), (0, .ref y), (1, .int (nI e))]) hx hb dX5_readPass_90 rfl hl (by decide) rfl (fun ls hl => ?_)
          have lp91 : ∀ (nn : Nat) (k : Nat) (rq : Nat → Int32) (H : Heap) (locs : List Loc) (ls : Array Slot), (3 - k) < nn → (k ≤ 3) → (ps + 1 + k ≤ e) → (∀ d, d < k → dgC cel (ps + 1 + d) e) → (∀ j, j < 3 * rn → rq j = rh j) → (∀ d, d < k → rq (3 * rn + d) = nI (dv (cf cel (ps + 1 + d)))) → PP g (wM g y ya yb yc yd ye yf yg yh yi yj yk yl ft tr lane ml cel np sl kd hg (ps + 1 + k) rs rn (upd rk rn (kL (xL cel ps e))) rq lg fk gt tkn nr ru rl rm rd) H → va_D (inW (wM g y ya yb yc yd ye yf yg yh yi yj yk yl ft tr lane ml cel np sl kd hg ps rs rn rk rh lg fk gt tkn nr ru rl rm rd)) (wM g y ya yb yc yd ye yf yg yh yi yj yk yl ft tr lane ml cel np sl kd hg (ps + 1 + k) rs rn (upd rk rn (kL (xL cel ps e))) rq lg fk gt tkn nr ru rl rm rd) → va_S (inW (wM g y ya yb yc yd ye yf yg yh yi yj yk yl ft tr lane ml cel np sl kd hg ps rs rn rk rh lg fk gt tkn nr ru rl rm rd)) s.heap H locs → lv_has ls 4 [(0, .ref y), (1, .int (nI e)), (2, .int (xL cel ps e)), (3, .int (nI k))] → W P l E ({ frames := 2, cells := 0, slots := 0, locals := 43 } : Room) s mt [.ref y, .int (nI e)].toArray below meth cd H locs 0 0 (MQ below (va_Qi (fun (r : Int32) (uu : Nat × (Nat → Int32) × (Nat → Int32)) => (uu.1 = 4 ∧ rpR cel ps e rn rk rh uu.1 uu.2.1 uu.2.2 ∧ r = nI 1) ∨ ((uu.1 < 4 ∧ ¬ gp cel ps e uu.1) ∧ rpR cel ps e rn rk rh uu.1 uu.2.1 uu.2.2 ∧ r = nI 0)) (fun (uu : Nat × (Nat → Int32) × (Nat → Int32)) t => PP g (wM g y ya yb yc yd ye yf yg yh yi yj yk yl ft tr lane ml cel np sl kd hg (ps + uu.1) rs (rn + uu.1 / 4) uu.2.1 uu.2.2 lg fk gt tkn nr ru rl rm rd) t.heap) (inW (wM g y ya yb yc yd ye yf yg yh yi yj yk yl ft tr lane ml cel np sl kd hg ps rs rn rk rh lg fk gt tkn nr ru rl rm rd))) [.ref y, .int (nI e)].toArray s 0 0 (inW (wM g y ya yb yc yd ye yf yg yh yi yj yk yl ft tr lane ml cel np sl kd hg ps rs rn rk rh lg fk gt tkn nr ru rl rm rd))) (F0 mt 91 ls []) := by
            intro nn
            induction nn with
            | zero => intro k rq H locs ls hmu; exact absurd hmu (Nat.not_lt_zero _)
            | succ nn ih91 =>
              intro k rq H locs ls hmu hk hpk hdd hrq1 hrq2 hP hD hS hl
              refine lv_iload_n hx hb dX5_readPass_91 rfl (lv_at hl 3 rfl) ?_
              refine lv_iconst (v := (nI 3)) hx hb dX5_readPass_92 (by decide) ?_
              refine n_icmp_ge (a := k) (b := 3) (tgt := 140) hx hb (by omega) (by omega) dX5_readPass_93 (by decide) (fun c93 => ?_) (fun c93 => ?_)
              · obtain rfl : 3 = k := by omega
                rw [show ps + 1 + 3 = ps + 4 from rfl] at hP hD
                refine lv_aload_n hx hb dX5_readPass_140 rfl (lv_at hl 0 rfl) ?_
                refine lv_dup hx hb dX5_readPass_141 rfl ?_
                refine va_get (D := g.1) (ci := 5) (v := .int (nI rn)) (C := RX5) (T := TX5) (N := 23) hx hb hts (fun _ h => (List.mem_cons_of_mem _ (List.mem_append_right _ h))) hown hK.1 hP 0 rfl rfl 11 (by decide) (hts _ (List.mem_of_getElem? (i := 4) rfl)) (fun _ h9 => h9) rfl dX5_readPass_142 ?_
                refine lv_iconst (v := (nI 1)) hx hb dX5_readPass_145 (by decide) ?_
                refine n_iadd (a := rn) (b := 1) hx hb dX5_readPass_146 ?_
                refine n_put (D := g.1) (ci := 5) (v := .int (nI (rn + 1))) (ty := .int) (C := RX5) (T := TX5) (N := 23) (ws1 := wM g y ya yb yc yd ye yf yg yh yi yj yk yl ft tr lane ml cel np sl kd hg (ps + 4) rs (rn + 1) (upd rk rn (kL (xL cel ps e))) rq lg fk gt tkn nr ru rl rm rd) hx hb hts (fun _ h => (List.mem_cons_of_mem _ (List.mem_append_right _ h))) tyX5 tyX5_ok nmX5 hown hK.1 hP hD hS 0 rfl rfl 11 (by decide) (hts _ (List.mem_of_getElem? (i := 4) rfl)) (fun _ h9 => h9) rfl (by decide +kernel) rfl rfl (Nat.le_of_ble_eq_true rfl) rfl dX5_readPass_147 (fun H locs hP hD hS => ?_)
                refine lv_iconst (v := (nI 1)) hx hb dX5_readPass_150 (by decide) ?_
                exact zretMI (w1 := fun (uu : Nat × (Nat → Int32) × (Nat → Int32)) => wM g y ya yb yc yd ye yf yg yh yi yj yk yl ft tr lane ml cel np sl kd hg (ps + uu.1) rs (rn + uu.1 / 4) uu.2.1 uu.2.2 lg fk gt tkn nr ru rl rm rd) (4, upd rk rn (kL (xL cel ps e)), rq) hx hb hr hlocks hS rfl (rpQ_or (rp_4 hkk hrq1 hrq2 hdd)) (by simp only [show 4 / 4 = 1 from rfl]; exact hP) dX5_readPass_151
              · have hk3 : k < 3 := by omega
                refine lv_aload_n hx hb dX5_readPass_96 rfl (lv_at hl 0 rfl) ?_
                refine va_get (D := g.1) (ci := 5) (v := .ref yg) (C := RX5) (T := TX5) (N := 23) hx hb hts (fun _ h => (List.mem_cons_of_mem _ (List.mem_append_right _ h))) hown hK.1 hP 0 rfl rfl 13 (by decide) (hts _ (List.mem_of_getElem? (i := 5) rfl)) (fun _ h9 => h9) rfl dX5_readPass_97 ?_
                refine lv_iconst (v := (nI 3)) hx hb dX5_readPass_100 (by decide) ?_
                refine lv_aload_n hx hb dX5_readPass_101 rfl (lv_at hl 0 rfl) ?_
                refine va_get (D := g.1) (ci := 5) (v := .int (nI rn)) (C := RX5) (T := TX5) (N := 23) hx hb hts (fun _ h => (List.mem_cons_of_mem _ (List.mem_append_right _ h))) hown hK.1 hP 0 rfl rfl 11 (by decide) (hts _ (List.mem_of_getElem? (i := 4) rfl)) (fun _ h9 => h9) rfl dX5_readPass_102 ?_
                refine n_imul (a := 3) (b := rn) hx hb dX5_readPass_105 ?_
                refine lv_iload_n hx hb dX5_readPass_106 rfl (lv_at hl 3 rfl) ?_
                refine n_iadd (a := (3 * rn)) (b := k) hx hb dX5_readPass_107 ?_
                refine lv_aload_n hx hb dX5_readPass_108 rfl (lv_at hl 0 rfl) ?_
                refine lv_iload_n hx hb dX5_readPass_109 rfl (lv_at hl 1 rfl) ?_
                have hPc : PP g (wM g y ya yb yc yd ye yf yg yh yi yj yk yl ft tr lane ml cel np sl kd hg (ps + 1 + k) rs rn (upd rk rn (kL (xL cel ps e))) rq lg fk gt tkn nr ru rl rm rd) _ := P_sub hP [0, 1, 2, 3, 4, 5, 6, 7, 8, 9, 10, 11, 12] rfl
                refine zcallM (w := wM g y ya yb yc yd ye yf yg yh yi yj yk yl ft tr lane ml cel np sl kd hg (ps + 1 + k) rs rn (upd rk rn (kL (xL cel ps e))) rq lg fk gt tkn nr ru rl rm rd) (va_runV (As := [.int (nI e)]) (rest := [.int (nI ((3 * rn) + k)), .ref yg]) (b := y) S0 (c_X5_digit l g y ya yb yc yd ye yf yg yh yi yj yk yl ft tr lane ml cel np sl kd hg (ps + 1 + k) rs rn (upd rk rn (kL (xL cel ps e))) rq lg fk gt tkn nr ru rl rm rd e he hpk) (cwV 1 hts gX5_readPass_X5_digit rfl rfl rfl (by decide +kernel) ⟨by decide, by decide⟩) (zpreVM hK hP hD [0, 1, 2, 3, 4, 5, 6, 7, 8, 9, 10, 11, 12] rfl (by decide) (va_recv hK.1 hPc (ci := 5) (q0 := 0) rfl rfl)) rfl rfl hl.1 rfl (lv_room (Nat.le_of_ble_eq_true rfl)) dX5_readPass_110 ⟨by decide, by decide⟩) hP hD hS [0, 1, 2, 3, 4, 5, 6, 7, 8, 9, 10, 11, 12] rfl (fun uu110 => wM g y ya yb yc yd ye yf yg yh yi yj yk yl ft tr lane ml cel np sl kd hg (dgP cel (ps + 1 + k) e) rs rn (upd rk rn (kL (xL cel ps e))) rq lg fk gt tkn nr ru rl rm rd) (fun _ => lz_wM.trans lz_wM.symm) (fun _ => rfl) (fun _ => ad_wM.trans ad_wM.symm) (fun r110 uu110 H locs h110 hP hD hS => ?_)
                subst h110
                refine n_iast (i := ((3 * rn) + k)) (x := (dgR cel (ps + 1 + k) e)) (ws1 := wM g y ya yb yc yd ye yf yg yh yi yj yk yl ft tr lane ml cel np sl kd hg (dgP cel (ps + 1 + k) e) rs rn (upd rk rn (kL (xL cel ps e))) (upd rq ((3 * rn) + k) (dgR cel (ps + 1 + k) e)) lg fk gt tkn nr ru rl rm rd) hx hb hK.1 hP hD hS 7 0 rfl rfl (by omega) (by decide) (upd rq ((3 * rn) + k) (dgR cel (ps + 1 + k) e)) rfl rfl dX5_readPass_113 (fun H locs hP hD hS => ?_)
                refine lv_aload_n hx hb dX5_readPass_114 rfl (lv_at hl 0 rfl) ?_
                refine va_get (D := g.1) (ci := 5) (v := .ref yg) (C := RX5) (T := TX5) (N := 23) hx hb hts (fun _ h => (List.mem_cons_of_mem _ (List.mem_append_right _ h))) hown hK.1 hP 0 rfl rfl 13 (by decide) (hts _ (List.mem_of_getElem? (i := 5) rfl)) (fun _ h9 => h9) rfl dX5_readPass_115 ?_
                refine lv_iconst (v := (nI 3)) hx hb dX5_readPass_118 (by decide) ?_
                refine lv_aload_n hx hb dX5_readPass_119 rfl (lv_at hl 0 rfl) ?_
                refine va_get (D := g.1) (ci := 5) (v := .int (nI rn)) (C := RX5) (T := TX5) (N := 23) hx hb hts (fun _ h => (List.mem_cons_of_mem _ (List.mem_append_right _ h))) hown hK.1 hP 0 rfl rfl 11 (by decide) (hts _ (List.mem_of_getElem? (i := 4) rfl)) (fun _ h9 => h9) rfl dX5_readPass_120 ?_
                refine n_imul (a := 3) (b := rn) hx hb dX5_readPass_123 ?_
                refine lv_iload_n hx hb dX5_readPass_124 rfl (lv_at hl 3 rfl) ?_
                refine n_iadd (a := (3 * rn)) (b := k) hx hb dX5_readPass_125 ?_
                refine n_iald (i := ((3 * rn) + k)) (v := ((upd rq ((3 * rn) + k) (dgR cel (ps + 1 + k) e)) ((3 * rn) + k))) hx hb hK.1 hP 7 0 rfl rfl (by omega) (by decide) rfl dX5_readPass_126 ?_
                refine ztopI (dgR cel (ps + 1 + k) e) (if_pos rfl) ?_
                refine lv_bipush (v := (-9)) hx hb dX5_readPass_127 (by decide) ?_
                refine lv_icmp_ne (tgt := 134) hx hb dX5_readPass_129 (by decide) (fun c129 => ?_) (fun c129 => ?_)
                · have hd : dgC cel (ps + 1 + k) e := dgR_n9 c129
                  rw [dgP_y hd] at hP hD
                  refine n_iinc (a := k) (d := 1) (lv' := [(3, .int (nI (k + 1))), (0, .ref y), (1, .int (nI e)), (2, .int (xL cel ps e))]) hx hb dX5_readPass_134 hl (k := 3) rfl (by decide) (by decide) rfl (fun ls hl => ?_)
                  refine lv_goto (tgt := 91) hx hb dX5_readPass_137 (by decide) ?_
                  exact ih91 (k + 1) (upd rq (3 * rn + k) (dgR cel (ps + 1 + k) e)) _ _ ls (by omega) (by omega) (by have := hd.1; omega) (rp_s1 hdd hd) (rp_s2 hrq1) (rp_s3 hrq2 hd) hP hD hS (lv_sub hl [1, 2, 3, 0] rfl)
                · have hd : ¬ dgC cel (ps + 1 + k) e := dgR_9 c129
                  rw [dgP_n hd] at hP hD
                  refine lv_iconst (v := (nI 0)) hx hb dX5_readPass_132 (by decide) ?_
                  exact zretMI (w1 := fun (uu : Nat × (Nat → Int32) × (Nat → Int32)) => wM g y ya yb yc yd ye yf yg yh yi yj yk yl ft tr lane ml cel np sl kd hg (ps + uu.1) rs (rn + uu.1 / 4) uu.2.1 uu.2.2 lg fk gt tkn nr ru rl rm rd) (1 + k, upd rk rn (kL (xL cel ps e)), upd rq ((3 * rn) + k) (dgR cel (ps + 1 + k) e)) hx hb hr hlocks hS rfl (rpQ_or (rp_d hk3 hkk hrq1 hdd hd)) (by have e1 : (1 + k) / 4 = 0 := (by omega); have e2 : ps + (1 + k) = ps + 1 + k := (by omega); simp only [e1, e2, Nat.add_zero]; exact hP) dX5_readPass_133
          exact lp91 (3 - 0 + 1) 0 rh _ _ ls (Nat.lt_succ_self _) (by omega) (by omega) (fun _ z => absurd z (Nat.not_lt_zero _)) (fun _ _ => rfl) (fun _ z => absurd z (Nat.not_lt_zero _)) hP hD hS (lv_sub hl [2, 3, 1, 0] rfl)
        · refine lv_iconst (v := (nI 0)) hx hb dX5_readPass_77 (by decide) ?_
          exact zretMI (w1 := fun (uu : Nat × (Nat → Int32) × (Nat → Int32)) => wM g y ya yb yc yd ye yf yg yh yi yj yk yl ft tr lane ml cel np sl kd hg (ps + uu.1) rs (rn + uu.1 / 4) uu.2.1 uu.2.2 lg fk gt tkn nr ru rl rm rd) (0, upd rk rn (kL (xL cel ps e)), rh) hx hb hr hlocks hS rfl (rpQ_or (rp_0 c74)) (by simp only [show 0 / 4 = 0 from rfl, Nat.add_zero]; exact hP) dX5_readPass_78
    · refine lv_iconst (v := (nI 0)) hx hb dX5_readPass_36 (by decide) ?_
      refine ztopI (kL (xL cel ps e)) (by rw [kL, if_pos c33]) ?_
      refine lv_goto (tgt := 62) hx hb dX5_readPass_37 (by decide) ?_
      refine n_iast (i := rn) (x := (kL (xL cel ps e))) (ws1 := wM g y ya yb yc yd ye yf yg yh yi yj yk yl ft tr lane ml cel np sl kd hg ps rs rn (upd rk rn (kL (xL cel ps e))) rh lg fk gt tkn nr ru rl rm rd) hx hb hK.1 hP hD hS 6 0 rfl rfl (by omega) (by decide) (upd rk rn (kL (xL cel ps e))) rfl rfl dX5_readPass_62 (fun H locs hP hD hS => ?_)
      refine lv_aload_n hx hb dX5_readPass_63 rfl (lv_at hl 1 rfl) ?_
      refine va_get (D := g.1) (ci := 5) (v := .ref yf) (C := RX5) (T := TX5) (N := 23) hx hb hts (fun _ h => (List.mem_cons_of_mem _ (List.mem_append_right _ h))) hown hK.1 hP 0 rfl rfl 12 (by decide) (hts _ (List.mem_of_getElem? (i := 3) rfl)) (fun _ h9 => h9) rfl dX5_readPass_64 ?_
      refine lv_aload_n hx hb dX5_readPass_67 rfl (lv_at hl 1 rfl) ?_
      refine va_get (D := g.1) (ci := 5) (v := .int (nI rn)) (C := RX5) (T := TX5) (N := 23) hx hb hts (fun _ h => (List.mem_cons_of_mem _ (List.mem_append_right _ h))) hown hK.1 hP 0 rfl rfl 11 (by decide) (hts _ (List.mem_of_getElem? (i := 4) rfl)) (fun _ h9 => h9) rfl dX5_readPass_68 ?_
      refine n_iald (i := rn) (v := ((upd rk rn (kL (xL cel ps e))) rn)) hx hb hK.1 hP 6 0 rfl rfl (by omega) (by decide) rfl dX5_readPass_71 ?_
      refine ztopI (kL (xL cel ps e)) (if_pos rfl) ?_
      refine lv_bipush (v := (-9)) hx hb dX5_readPass_72 (by decide) ?_
      refine lv_icmp_ne (tgt := 79) hx hb dX5_readPass_74 (by decide) (fun c74 => ?_) (fun c74 => ?_)
      · have hkk : gp cel ps e 0 ∧ xL cel ps e = cf cel ps := xL_k c74
        have hp1 := hkk.1.1
        refine lv_aload_n hx hb dX5_readPass_79 rfl (lv_at hl 1 rfl) ?_
        refine lv_dup hx hb dX5_readPass_80 rfl ?_
        refine va_get (D := g.1) (ci := 5) (v := .int (nI ps)) (C := RX5) (T := TX5) (N := 23) hx hb hts (fun _ h => (List.mem_cons_of_mem _ (List.mem_append_right _ h))) hown hK.1 hP 0 rfl rfl 9 (by decide) (hts _ (List.mem_of_getElem? (i := 1) rfl)) (fun _ h9 => h9) rfl dX5_readPass_81 ?_
        refine lv_iconst (v := (nI 1)) hx hb dX5_readPass_84 (by decide) ?_
        refine n_iadd (a := ps) (b := 1) hx hb dX5_readPass_85 ?_
        refine n_put (D := g.1) (ci := 5) (v := .int (nI (ps + 1))) (ty := .int) (C := RX5) (T := TX5) (N := 23) (ws1 := wM g y ya yb yc yd ye yf yg yh yi yj yk yl ft tr lane ml cel np sl kd hg (ps + 1) rs rn (upd rk rn (kL (xL cel ps e))) rh lg fk gt tkn nr ru rl rm rd) hx hb hts (fun _ h => (List.mem_cons_of_mem _ (List.mem_append_right _ h))) tyX5 tyX5_ok nmX5 hown hK.1 hP hD hS 0 rfl rfl 9 (by decide) (hts _ (List.mem_of_getElem? (i := 1) rfl)) (fun _ h9 => h9) rfl (by decide +kernel) rfl rfl (Nat.le_of_ble_eq_true rfl) rfl dX5_readPass_86 (fun H locs hP hD hS => ?_)
        refine lv_iconst (v := (nI 0)) hx hb dX5_readPass_89 (by decide) ?_
        refine lv_istore_n (lv' := [(3, .int (nI 0)), (2, .int (xL cel ps e)), (0, .ref y), (1, .int (nI e))]) hx hb dX5_readPass_90 rfl hl (by decide) rfl (fun ls hl => ?_)
        have lp91 : ∀ (nn : Nat) (k : Nat) (rq : Nat → Int32) (H : Heap) (locs : List Loc) (ls : Array Slot), (3 - k) < nn → (k ≤ 3) → (ps + 1 + k ≤ e) → (∀ d, d < k → dgC cel (ps + 1 + d) e) → (∀ j, j < 3 * rn → rq j = rh j) → (∀ d, d < k → rq (3 * rn + d) = nI (dv (cf cel (ps + 1 + d)))) → PP g (wM g y ya yb yc yd ye yf yg yh yi yj yk yl ft tr lane ml cel np sl kd hg (ps + 1 + k) rs rn (upd rk rn (kL (xL cel ps e))) rq lg fk gt tkn nr ru rl rm rd) H → va_D (inW (wM g y ya yb yc yd ye yf yg yh yi yj yk yl ft tr lane ml cel np sl kd hg ps rs rn rk rh lg fk gt tkn nr ru rl rm rd)) (wM g y ya yb yc yd ye yf yg yh yi yj yk yl ft tr lane ml cel np sl kd hg (ps + 1 + k) rs rn (upd rk rn (kL (xL cel ps e))) rq lg fk gt tkn nr ru rl rm rd) → va_S (inW (wM g y ya yb yc yd ye yf yg yh yi yj yk yl ft tr lane ml cel np sl kd hg ps rs rn rk rh lg fk gt tkn nr ru rl rm rd)) s.heap H locs → lv_has ls 4 [(0, .ref y), (1, .int (nI e)), (2, .int (xL cel ps e)), (3, .int (nI k))] → W P l E ({ frames := 2, cells := 0, slots := 0, locals := 43 } : Room) s mt [.ref y, .int (nI e)].toArray below meth cd H locs 0 0 (MQ below (va_Qi (fun (r : Int32) (uu : Nat × (Nat → Int32) × (Nat → Int32)) => (uu.1 = 4 ∧ rpR cel ps e rn rk rh uu.1 uu.2.1 uu.2.2 ∧ r = nI 1) ∨ ((uu.1 < 4 ∧ ¬ gp cel ps e uu.1) ∧ rpR cel ps e rn rk rh uu.1 uu.2.1 uu.2.2 ∧ r = nI 0)) (fun (uu : Nat × (Nat → Int32) × (Nat → Int32)) t => PP g (wM g y ya yb yc yd ye yf yg yh yi yj yk yl ft tr lane ml cel np sl kd hg (ps + uu.1) rs (rn + uu.1 / 4) uu.2.1 uu.2.2 lg fk gt tkn nr ru rl rm rd) t.heap) (inW (wM g y ya yb yc yd ye yf yg yh yi yj yk yl ft tr lane ml cel np sl kd hg ps rs rn rk rh lg fk gt tkn nr ru rl rm rd))) [.ref y, .int (nI e)].toArray s 0 0 (inW (wM g y ya yb yc yd ye yf yg yh yi yj yk yl ft tr lane ml cel np sl kd hg ps rs rn rk rh lg fk gt tkn nr ru rl rm rd))) (F0 mt 91 ls []) := by
          intro nn
          induction nn with
          | zero => intro k rq H locs ls hmu; exact absurd hmu (Nat.not_lt_zero _)
          | succ nn ih91 =>
            intro k rq H locs ls hmu hk hpk hdd hrq1 hrq2 hP hD hS hl
            refine lv_iload_n hx hb dX5_readPass_91 rfl (lv_at hl 3 rfl) ?_
            refine lv_iconst (v := (nI 3)) hx hb dX5_readPass_92 (by decide) ?_
            refine n_icmp_ge (a := k) (b := 3) (tgt := 140) hx hb (by omega) (by omega) dX5_readPass_93 (by decide) (fun c93 => ?_) (fun c93 => ?_)
            · obtain rfl : 3 = k := by omega
              rw [show ps + 1 + 3 = ps + 4 from rfl] at hP hD
              refine lv_aload_n hx hb dX5_readPass_140 rfl (lv_at hl 0 rfl) ?_
              refine lv_dup hx hb dX5_readPass_141 rfl ?_
              refine va_get (D := g.1) (ci := 5) (v := .int (nI rn)) (C := RX5) (T := TX5) (N := 23) hx hb hts (fun _ h => (List.mem_cons_of_mem _ (List.mem_append_right _ h))) hown hK.1 hP 0 rfl rfl 11 (by decide) (hts _ (List.mem_of_getElem? (i := 4) rfl)) (fun _ h9 => h9) rfl dX5_readPass_142 ?_
              refine lv_iconst (v := (nI 1)) hx hb dX5_readPass_145 (by decide) ?_
              refine n_iadd (a := rn) (b := 1) hx hb dX5_readPass_146 ?_
              refine n_put (D := g.1) (ci := 5) (v := .int (nI (rn + 1))) (ty := .int) (C := RX5) (T := TX5) (N := 23) (ws1 := wM g y ya yb yc yd ye yf yg yh yi yj yk yl ft tr lane ml cel np sl kd hg (ps + 4) rs (rn + 1) (upd rk rn (kL (xL cel ps e))) rq lg fk gt tkn nr ru rl rm rd) hx hb hts (fun _ h => (List.mem_cons_of_mem _ (List.mem_append_right _ h))) tyX5 tyX5_ok nmX5 hown hK.1 hP hD hS 0 rfl rfl 11 (by decide) (hts _ (List.mem_of_getElem? (i := 4) rfl)) (fun _ h9 => h9) rfl (by decide +kernel) rfl rfl (Nat.le_of_ble_eq_true rfl) rfl dX5_readPass_147 (fun H locs hP hD hS => ?_)
              refine lv_iconst (v := (nI 1)) hx hb dX5_readPass_150 (by decide) ?_
              exact zretMI (w1 := fun (uu : Nat × (Nat → Int32) × (Nat → Int32)) => wM g y ya yb yc yd ye yf yg yh yi yj yk yl ft tr lane ml cel np sl kd hg (ps + uu.1) rs (rn + uu.1 / 4) uu.2.1 uu.2.2 lg fk gt tkn nr ru rl rm rd) (4, upd rk rn (kL (xL cel ps e)), rq) hx hb hr hlocks hS rfl (rpQ_or (rp_4 hkk hrq1 hrq2 hdd)) (by simp only [show 4 / 4 = 1 from rfl]; exact hP) dX5_readPass_151
            · have hk3 : k < 3 := by omega
              refine lv_aload_n hx hb dX5_readPass_96 rfl (lv_at hl 0 rfl) ?_
              refine va_get (D := g.1) (ci := 5) (v := .ref yg) (C := RX5) (T := TX5) (N := 23) hx hb hts (fun _ h => (List.mem_cons_of_mem _ (List.mem_append_right _ h))) hown hK.1 hP 0 rfl rfl 13 (by decide) (hts _ (List.mem_of_getElem? (i := 5) rfl)) (fun _ h9 => h9) rfl dX5_readPass_97 ?_
              refine lv_iconst (v := (nI 3)) hx hb dX5_readPass_100 (by decide) ?_
              refine lv_aload_n hx hb dX5_readPass_101 rfl (lv_at hl 0 rfl) ?_
              refine va_get (D := g.1) (ci := 5) (v := .int (nI rn)) (C := RX5) (T := TX5) (N := 23) hx hb hts (fun _ h => (List.mem_cons_of_mem _ (List.mem_append_right _ h))) hown hK.1 hP 0 rfl rfl 11 (by decide) (hts _ (List.mem_of_getElem? (i := 4) rfl)) (fun _ h9 => h9) rfl dX5_readPass_102 ?_
              refine n_imul (a := 3) (b := rn) hx hb dX5_readPass_105 ?_
              refine lv_iload_n hx hb dX5_readPass_106 rfl (lv_at hl 3 rfl) ?_
              refine n_iadd (a := (3 * rn)) (b := k) hx hb dX5_readPass_107 ?_
              refine lv_aload_n hx hb dX5_readPass_108 rfl (lv_at hl 0 rfl) ?_
              refine lv_iload_n hx hb dX5_readPass_109 rfl (lv_at hl 1 rfl) ?_
              have hPc : PP g (wM g y ya yb yc yd ye yf yg yh yi yj yk yl ft tr lane ml cel np sl kd hg (ps + 1 + k) rs rn (upd rk rn (kL (xL cel ps e))) rq lg fk gt tkn nr ru rl rm rd) _ := P_sub hP [0, 1, 2, 3, 4, 5, 6, 7, 8, 9, 10, 11, 12] rfl
              refine zcallM (w := wM g y ya yb yc yd ye yf yg yh yi yj yk yl ft tr lane ml cel np sl kd hg (ps + 1 + k) rs rn (upd rk rn (kL (xL cel ps e))) rq lg fk gt tkn nr ru rl rm rd) (va_runV (As := [.int (nI e)]) (rest := [.int (nI ((3 * rn) + k)), .ref yg]) (b := y) S0 (c_X5_digit l g y ya yb yc yd ye yf yg yh yi yj yk yl ft tr lane ml cel np sl kd hg (ps + 1 + k) rs rn (upd rk rn (kL (xL cel ps e))) rq lg fk gt tkn nr ru rl rm rd e he hpk) (cwV 1 hts gX5_readPass_X5_digit rfl rfl rfl (by decide +kernel) ⟨by decide, by decide⟩) (zpreVM hK hP hD [0, 1, 2, 3, 4, 5, 6, 7, 8, 9, 10, 11, 12] rfl (by decide) (va_recv hK.1 hPc (ci := 5) (q0 := 0) rfl rfl)) rfl rfl hl.1 rfl (lv_room (Nat.le_of_ble_eq_true rfl)) dX5_readPass_110 ⟨by decide, by decide⟩) hP hD hS [0, 1, 2, 3, 4, 5, 6, 7, 8, 9, 10, 11, 12] rfl (fun uu110 => wM g y ya yb yc yd ye yf yg yh yi yj yk yl ft tr lane ml cel np sl kd hg (dgP cel (ps + 1 + k) e) rs rn (upd rk rn (kL (xL cel ps e))) rq lg fk gt tkn nr ru rl rm rd) (fun _ => lz_wM.trans lz_wM.symm) (fun _ => rfl) (fun _ => ad_wM.trans ad_wM.symm) (fun r110 uu110 H locs h110 hP hD hS => ?_)
              subst h110
              refine n_iast (i := ((3 * rn) + k)) (x := (dgR cel (ps + 1 + k) e)) (ws1 := wM g y ya yb yc yd ye yf yg yh yi yj yk yl ft tr lane ml cel np sl kd hg (dgP cel (ps + 1 + k) e) rs rn (upd rk rn (kL (xL cel ps e))) (upd rq ((3 * rn) + k) (dgR cel (ps + 1 + k) e)) lg fk gt tkn nr ru rl rm rd) hx hb hK.1 hP hD hS 7 0 rfl rfl (by omega) (by decide) (upd rq ((3 * rn) + k) (dgR cel (ps + 1 + k) e)) rfl rfl dX5_readPass_113 (fun H locs hP hD hS => ?_)
              refine lv_aload_n hx hb dX5_readPass_114 rfl (lv_at hl 0 rfl) ?_
              refine va_get (D := g.1) (ci := 5) (v := .ref yg) (C := RX5) (T := TX5) (N := 23) hx hb hts (fun _ h => (List.mem_cons_of_mem _ (List.mem_append_right _ h))) hown hK.1 hP 0 rfl rfl 13 (by decide) (hts _ (List.mem_of_getElem? (i := 5) rfl)) (fun _ h9 => h9) rfl dX5_readPass_115 ?_
              refine lv_iconst (v := (nI 3)) hx hb dX5_readPass_118 (by decide) ?_
              refine lv_aload_n hx hb dX5_readPass_119 rfl (lv_at hl 0 rfl) ?_
              refine va_get (D := g.1) (ci := 5) (v := .int (nI rn)) (C := RX5) (T := TX5) (N := 23) hx hb hts (fun _ h => (List.mem_cons_of_mem _ (List.mem_append_right _ h))) hown hK.1 hP 0 rfl rfl 11 (by decide) (hts _ (List.mem_of_getElem? (i := 4) rfl)) (fun _ h9 => h9) rfl dX5_readPass_120 ?_
              refine n_imul (a := 3) (b := rn) hx hb dX5_readPass_123 ?_
              refine lv_iload_n hx hb dX5_readPass_124 rfl (lv_at hl 3 rfl) ?_
              refine n_iadd (a := (3 * rn)) (b := k) hx hb dX5_readPass_125 ?_
              refine n_iald (i := ((3 * rn) + k)) (v := ((upd rq ((3 * rn) + k) (dgR cel (ps + 1 + k) e)) ((3 * rn) + k))) hx hb hK.1 hP 7 0 rfl rfl (by omega) (by decide) rfl dX5_readPass_126 ?_
              refine ztopI (dgR cel (ps + 1 + k) e) (if_pos rfl) ?_
              refine lv_bipush (v := (-9)) hx hb dX5_readPass_127 (by decide) ?_
              refine lv_icmp_ne (tgt := 134) hx hb dX5_readPass_129 (by decide) (fun c129 => ?_) (fun c129 => ?_)
              · have hd : dgC cel (ps + 1 + k) e := dgR_n9 c129
                rw [dgP_y hd] at hP hD
                refine n_iinc (a := k) (d := 1) (lv' := [(3, .int (nI (k + 1))), (0, .ref y), (1, .int (nI e)), (2, .int (xL cel ps e))]) hx hb dX5_readPass_134 hl (k := 3) rfl (by decide) (by decide) rfl (fun ls hl => ?_)
                refine lv_goto (tgt := 91) hx hb dX5_readPass_137 (by decide) ?_
                exact ih91 (k + 1) (upd rq (3 * rn + k) (dgR cel (ps + 1 + k) e)) _ _ ls (by omega) (by omega) (by have := hd.1; omega) (rp_s1 hdd hd) (rp_s2 hrq1) (rp_s3 hrq2 hd) hP hD hS (lv_sub hl [1, 2, 3, 0] rfl)
              · have hd : ¬ dgC cel (ps + 1 + k) e := dgR_9 c129
                rw [dgP_n hd] at hP hD
                refine lv_iconst (v := (nI 0)) hx hb dX5_readPass_132 (by decide) ?_
                exact zretMI (w1 := fun (uu : Nat × (Nat → Int32) × (Nat → Int32)) => wM g y ya yb yc yd ye yf yg yh yi yj yk yl ft tr lane ml cel np sl kd hg (ps + uu.1) rs (rn + uu.1 / 4) uu.2.1 uu.2.2 lg fk gt tkn nr ru rl rm rd) (1 + k, upd rk rn (kL (xL cel ps e)), upd rq ((3 * rn) + k) (dgR cel (ps + 1 + k) e)) hx hb hr hlocks hS rfl (rpQ_or (rp_d hk3 hkk hrq1 hdd hd)) (by have e1 : (1 + k) / 4 = 0 := (by omega); have e2 : ps + (1 + k) = ps + 1 + k := (by omega); simp only [e1, e2, Nat.add_zero]; exact hP) dX5_readPass_133
        exact lp91 (3 - 0 + 1) 0 rh _ _ ls (Nat.lt_succ_self _) (by omega) (by omega) (fun _ z => absurd z (Nat.not_lt_zero _)) (fun _ _ => rfl) (fun _ z => absurd z (Nat.not_lt_zero _)) hP hD hS (lv_sub hl [2, 3, 1, 0] rfl)
      · refine lv_iconst (v := (nI 0)) hx hb dX5_readPass_77 (by decide) ?_
        exact zretMI (w1 := fun (uu : Nat × (Nat → Int32) × (Nat → Int32)) => wM g y ya yb yc yd ye yf yg yh yi yj yk yl ft tr lane ml cel np sl kd hg (ps + uu.1) rs (rn + uu.1 / 4) uu.2.1 uu.2.2 lg fk gt tkn nr ru rl rm rd) (0, upd rk rn (kL (xL cel ps e)), rh) hx hb hr hlocks hS rfl (rpQ_or (rp_0 c74)) (by simp only [show 0 / 4 = 0 from rfl, Nat.add_zero]; exact hP) dX5_readPass_78
