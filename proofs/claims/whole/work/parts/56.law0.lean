/-! the law: rows for two worlds side by side -/
abbrev isX : List Nat := List.range' 0 22
abbrev isM : List Nat := List.range' 22 13
theorem map_mid : ∀ (a pre b : va_W), (List.range' pre.length a.length).map (fun i => (pre ++ (a ++ b))[i]?) = a.map some
  | [], pre, b => rfl
  | q :: a, pre, b => by
    have h := map_mid a (pre ++ [q]) b
    have e : pre ++ ((q :: a) ++ b) = (pre ++ [q]) ++ (a ++ b) := by simp
    have e2 : (pre ++ [q]).length = pre.length + 1 := by simp
    rw [e2] at h
    rw [e]
    show ((pre ++ [q]) ++ (a ++ b))[pre.length]? :: (List.range' (pre.length + 1) a.length).map _ = some q :: a.map some
    rw [h]
    congr 1
    simp
theorem setAll_mid : ∀ (a a' pre b : va_W), a'.length = a.length → setAll (pre ++ (a ++ b)) (List.range' pre.length a.length) a' = pre ++ (a' ++ b)
  | [], [], pre, b, _ => rfl
  | [], q' :: a', pre, b, h => by cases h
  | q :: a, [], pre, b, h => by cases h
  | q :: a, q' :: a', pre, b, h => by
    have h1 := setAll_mid a a' (pre ++ [q']) b (by simpa using h)
    have e2 : (pre ++ [q']).length = pre.length + 1 := by simp
    rw [e2] at h1
    show setAll ((pre ++ (q :: (a ++ b))).set pre.length q') (List.range' (pre.length + 1) a.length) a' = pre ++ (q' :: (a' ++ b))
    have e3 : (pre ++ (q :: (a ++ b))).set pre.length q' = (pre ++ [q']) ++ (a ++ b) := by simp
    rw [e3, h1]
    simp
theorem cW_l {a b : va_W} (h : a.length = 22) : isX.map (fun i => (a ++ b)[i]?) = a.map some := by
  have := map_mid a [] b
  rw [h] at this
  exact this
theorem cW_r {a b : va_W} (h : a.length = 22) (hb : b.length = 13) : isM.map (fun i => (a ++ b)[i]?) = b.map some := by
  have := map_mid b a []
  rw [h, hb, List.append_nil] at this
  exact this
theorem sW_l {a a' b : va_W} (h : a.length = 22) (h' : a'.length = 22) : setAll (a ++ b) isX a' = a' ++ b := by
  have := setAll_mid a a' [] b (by rw [h, h'])
  rw [h] at this
  exact this
theorem sW_r {a b b' : va_W} (h : a.length = 22) (hb : b.length = 13) (hb' : b'.length = 13) : setAll (a ++ b) isM b' = a ++ b' := by
  have := setAll_mid b b' a [] (by rw [hb, hb'])
  rw [h, hb, List.append_nil, List.append_nil] at this
  exact this
theorem adW_l {a a' b : va_W} (h : a'.map (fun x => x.1) = a.map (fun x => x.1)) : (a' ++ b).map (fun x => x.1) = (a ++ b).map (fun x => x.1) := by
  rw [List.map_append, List.map_append, h]
theorem adW_r {a b b' : va_W} (h : b'.map (fun x => x.1) = b.map (fun x => x.1)) : (a ++ b').map (fun x => x.1) = (a ++ b).map (fun x => x.1) := by
  rw [List.map_append, List.map_append, h]
theorem ndX : va_nd isX = true := by decide
theorem ndM : va_nd isM = true := by decide
theorem P_l {g : Gx} {a b : va_W} {H : Heap} (hP : PP g (a ++ b) H) (h : a.length = 22) : PP g a H := P_sub hP isX (cW_l h)
theorem P_r {g : Gx} {a b : va_W} {H : Heap} (hP : PP g (a ++ b) H) (h : a.length = 22) (hb : b.length = 13) : PP g b H := P_sub hP isM (cW_r h hb)
section LawRows
variable {P : Program} {l : Launch} {E : Env} {R : Room} {s : State} {m : MethodId} {args : Array Value} {below : List Frame} {meth : Method} {c : Code} {H : Heap} {locs : List Loc} {cells slots : Nat} {Q : State → Prop}
variable {cc : ByteArray} {pc : Nat} {ls : Array Slot} {rest : List Value} {A : Nat → Prop} {H0 : Heap}
theorem n_sld (hexec : P.tables.exec = Jvm.exec) (hb : c.code = cc) {b L : Nat} {xs : Nat → Int32} (hX : va_X b L xs s H0) (hbl : b < H0.size) (hbA : ¬ A b) (hS : va_S A H0 H locs) {k : Nat} (hk : k < L) (hL : L < 2 ^ 31) (hdg : decode cc pc = .ok (.iaload, 1))
    (kk : W P l E R s m args below meth c H locs cells slots Q (F0 m (pc + 1) ls (.int (xs k) :: rest))) : W P l E R s m args below meth c H locs cells slots Q (F0 m pc ls (.int (nI k) :: .ref b :: rest)) := va_sld hexec hb hX hbl hbA hS (vp_in_nI hk hL) hdg (by rw [nI_clamp (Nat.lt_trans hk hL)]; exact kk)
end LawRows
/-- what stands between two calls: both sides have the same state -/
def LawI (g : Gx) (s : State) (x y : Nat) (H : Heap) (locs : List Loc) : Prop := ∃ (sh : Nat) (co : Nat) (ck : Nat) (ch : Nat) (cl : Nat) (vo : Nat) (vpa : Nat) (vma : Nat) (re : Nat) (rua : Nat) (rla : Nat) (rma : Nat) (rda : Nat) (sad : Nat → Nat) (cad : Nat → Nat) (ya : Nat) (yb : Nat) (yc : Nat) (yd : Nat) (ye : Nat) (yf : Nat) (yg : Nat) (yh : Nat) (yi : Nat) (yj : Nat) (yk : Nat) (yl : Nat) (tr : Int32) (ft : Nat) (np : Nat) (sl : Nat) (kd : Nat → Nat) (hg : Nat → Nat) (nr : Nat) (ru : Nat → Nat) (rl : Nat → Nat) (rm : Nat → Nat) (rd : Nat → Nat) (lane : Nat → Nat) (ml : Nat → Nat) (cel : Nat → Nat → Int32) (lk : Nat → Nat) (vn : Nat) (vp : Nat → Int32) (vm : Nat → Int32) (ps : Nat) (rs : Int32) (rn : Nat) (rk : Nat → Int32) (rh : Nat → Int32) (lg : Int32) (fk : Int32) (gt : Int32) (tkn : Nat → Int32), Gd np sl kd hg nr ru rl rm rd lane ml ∧ PP g (wX g x sh co ck ch cl vo vpa vma re rua rla rma rda sad cad tr ft np sl kd hg lk vn vp vm nr ru rl rm rd lane ml cel ++ wM g y ya yb yc yd ye yf yg yh yi yj yk yl ft tr lane ml cel np sl kd hg ps rs rn rk rh lg fk gt tkn nr ru rl rm rd) H ∧ va_D (fun q : Nat => s.heap.size ≤ q) (wX g x sh co ck ch cl vo vpa vma re rua rla rma rda sad cad tr ft np sl kd hg lk vn vp vm nr ru rl rm rd lane ml cel ++ wM g y ya yb yc yd ye yf yg yh yi yj yk yl ft tr lane ml cel np sl kd hg ps rs rn rk rh lg fk gt tkn nr ru rl rm rd) ∧ va_S (fun q : Nat => s.heap.size ≤ q) s.heap H locs
/-- what stands all along -/
def LawC (P : Program) (s : State) (mt : MethodId) (cd : Code) (b L : Nat) (xs : Nat → Int32) (g : Gx) : Prop := P.tables.exec = Jvm.exec ∧ cd.code = cL_law ∧ CallFix P mt cd cL_law 4 s [Value.ref b].toArray wsL_law RL ∧ va_X b L xs s s.heap ∧ b < s.heap.size ∧ KK g s ∧ L ≤ 3584
theorem lw_less {L i : Nat} (hL : L ≤ 3584) (h : ¬ nI L - nI 7 < nI i) : i + 7 ≤ L ∨ 2 ^ 31 ≤ i := by
  rcases Nat.lt_or_ge i (2 ^ 31) with hi | hi
  · refine Or.inl ?_
    rcases Nat.lt_or_ge L 7 with c | c
    · exfalso
      apply h
      have h1 := pk_sneg (a := L) (b := 7) (by decide) c
      have h2 := nI_pos' hi
      rw [Int32.lt_iff_toInt_lt] at h1 ⊢
      rw [Int32.le_iff_toInt_le] at h2
      omega
    · rw [pk_sub c] at h
      have hz : ¬ L - 7 < i := fun z => h ((nI_ltI (by omega) hi).mpr z)
      omega
  · exact Or.inr hi
theorem and31 (v : Int32) : ∃ j, j < 32 ∧ v &&& nI 31 = nI j := by
  refine ⟨v.toBitVec.toNat % 32, Nat.mod_lt _ (by decide), ?_⟩
  apply Int32.toBitVec_inj.mp
  show v.toBitVec &&& 31#32 = BitVec.ofNat 32 (v.toBitVec.toNat % 32)
  apply BitVec.eq_of_toNat_eq
  rw [BitVec.toNat_and, BitVec.toNat_ofNat]
  show v.toBitVec.toNat &&& 31 = v.toBitVec.toNat % 32 % 2 ^ 32
  have e := Nat.and_two_pow_sub_one_eq_mod v.toBitVec.toNat 5
  rw [show (2 : Nat) ^ 5 - 1 = 31 from rfl, show (2 : Nat) ^ 5 = 32 from rfl] at e
  rw [e]
  omega
/-! what a call leaves is within its bounds again -/
theorem va_up_le {f : Nat → Nat} {k v c : Nat} (h : ∀ j, f j ≤ c) (hv : v ≤ c) : ∀ j, va_up f k v j ≤ c := fun j => by
  unfold va_up
  by_cases z : j = k
  · rw [if_pos z]; exact hv
  · rw [if_neg z]; exact h j
theorem tN_is {n : Nat} (hn : n < 2 ^ 31) {v : Int32} (h : isP n v) : tN v < n := (tN_of hn h).2
section Kept
variable {np sl : Nat} {kd hg : Nat → Nat} {nr : Nat} {ru rl rm rd lane ml : Nat → Nat} {cel : Nat → Nat → Int32}
theorem Gd_trim (h : Gd np sl kd hg nr ru rl rm rd lane ml) (p k v : Int32) : Gd np sl kd (st_trim np hg p k v) nr ru rl rm rd lane ml := by
  obtain ⟨h1, h2, h3, h4, h5⟩ := h
  refine ⟨h1, h2, h3, ?_, h5⟩
  unfold st_trim
  by_cases c1 : isP np p
  · rw [if_pos c1]
    by_cases c2 : isP 3 k ∧ isP 10 v
    · rw [if_pos c2]
      exact va_up_le h4 (Nat.le_of_lt_succ (tN_is (by decide) c2.2))
    · rw [if_neg c2]; exact h4
  · rw [if_neg c1]; exact h4
theorem Gd_slack (h : Gd np sl kd hg nr ru rl rm rd lane ml) (v : Int32) : Gd np (st_slack np sl v) kd hg nr ru rl rm rd lane ml := by
  obtain ⟨h1, h2, h5⟩ := h
  refine ⟨h1, ?_, h5⟩
  unfold st_slack
  by_cases c1 : isP 10 v
  · rw [if_pos c1]
    by_cases c2 : 0 < np
    · rw [if_pos c2]; exact Nat.le_of_lt_succ (tN_is (by decide) c1)
    · rw [if_neg c2]; exact h2
  · rw [if_neg c1]; exact h2
theorem Gd_back (h : Gd np sl kd hg nr ru rl rm rd lane ml) (k : Int32) : Gd np sl kd hg (st_back nr k) ru rl rm rd lane ml := by
  obtain ⟨h1, h2, h3, h4, h5, h6, h7, h8, h9⟩ := h
  have hle : st_back nr k ≤ nr := by
    unfold st_back
    by_cases c1 : isP (nr + 1) k
    · rw [if_pos c1]; omega
    · rw [if_neg c1]; exact Nat.le_refl _
  exact ⟨h1, h2, h3, h4, by omega, fun j hj => h6 j (by omega), fun j hj => h7 j (by omega), fun j hj => h8 j (by omega), h9⟩
theorem Gd_reading (h : Gd np sl kd hg nr ru rl rm rd lane ml) (p q m : Int32) {dd : Nat} (hd : dd ≤ 1) : Gd np sl kd hg (st_nr np nr p q m) (st_r np nr p q m ru (tN p)) (st_r np nr p q m rl (tN q)) (st_r np nr p q m rm (tN m)) (st_r np nr p q m rd dd) lane ml := by
  obtain ⟨h1, h2, h3, h4, h5, h6, h7, h8, h9, h10⟩ := h
  unfold st_nr st_r
  by_cases c : c_reading np nr p q m
  · simp only [if_pos c]
    obtain ⟨a1, a2, a3, a4⟩ := c
    have up : ∀ (f : Nat → Nat) (v : Nat) (p : Nat → Prop), (∀ j, j < nr → p (f j)) → p v → ∀ j, j < nr + 1 → p (va_up f nr v j) := fun f v p hf hv j hj => by
      unfold va_up
      by_cases z : j = nr
      · rw [if_pos z]; exact hv
      · rw [if_neg z]; exact hf j (by omega)
    exact ⟨h1, h2, h3, h4, by omega, up _ _ (fun z => z < np) h6 (tN_is (by omega) a1), up _ _ (fun z => z < np) h7 (tN_is (by omega) a2), up _ _ (fun z => z ≤ 9) h8 (Nat.le_of_lt_succ (tN_is (by decide) a3)), va_up_le h9 hd, h10⟩
  · simp only [if_neg c]
    exact ⟨h1, h2, h3, h4, h5, h6, h7, h8, h9, h10⟩
theorem Gd_sheet (h : Gd np sl kd hg nr ru rl rm rd lane ml) (k z n : Int32) : Gd np sl kd hg nr ru rl rm rd (st_lane lane k z n) (st_ml ml k z n) := by
  obtain ⟨h1, h2, h3, h4, h5, h6, h7, h8, h9, h10, h11⟩ := h
  unfold st_lane st_ml
  by_cases c : c_sheet k z n
  · simp only [if_pos c]
    exact ⟨h1, h2, h3, h4, h5, h6, h7, h8, h9, va_up_le h10 (Nat.le_of_lt (tN_is (by decide) c.2.1)), va_up_le h11 (Nat.le_of_lt_succ (tN_is (by decide) c.2.2))⟩
  · simp only [if_neg c]
    exact ⟨h1, h2, h3, h4, h5, h6, h7, h8, h9, h10, h11⟩
theorem Gd_lose (h : Gd np sl kd hg nr ru rl rm rd lane ml) (k : Int32) : Gd np sl kd hg nr ru rl rm rd (st_lose lane k) ml := by
  obtain ⟨h1, h2, h3, h4, h5, h6, h7, h8, h9, h10, h11⟩ := h
  refine ⟨h1, h2, h3, h4, h5, h6, h7, h8, h9, ?_, h11⟩
  unfold st_lose
  by_cases c : isP 4 k
  · rw [if_pos c]; exact va_up_le h10 (Nat.le_refl _)
  · rw [if_neg c]; exact h10
theorem Gd_coast (h : Gd np sl kd hg nr ru rl rm rd lane ml) (k z i n : Int32) : Gd (sc_np lane ml cel k z i n np) (sc_sl lane ml cel k z i n sl) (sc_kd lane ml cel k z i n kd) (sc_hg lane ml cel k z i n hg) (sc_nr lane ml cel k z i n nr) ru rl rm rd lane ml := by
  obtain ⟨h1, h2, h3, h4, h5, h6, h7, h8, h9, h10, h11⟩ := h
  unfold sc_np sc_sl sc_kd sc_hg sc_nr
  by_cases c : c_coast lane ml cel k z i n
  · simp only [if_pos c]
    obtain ⟨c1, c2, c3⟩ := c
    rw [ft_coast, if_pos c1] at c2
    obtain ⟨a, b, rfl, rfl, hab⟩ := (isB_iff (h11 _)).mp (fT_0 c2).2
    have hm := h11 (tN k)
    rw [tN_nI (u := b) (by omega)] at c3 ⊢
    have ok := fwc_9 (by omega) c3
    have ok2 := ok.2
    refine ⟨by omega, (dg_dv (okT_sl ok)).2, fun j => ?_, fun j => ?_, Nat.zero_le _, fun j hj => absurd hj (Nat.not_lt_zero j), fun j hj => absurd hj (Nat.not_lt_zero j), fun j hj => absurd hj (Nat.not_lt_zero j), h9, h10, h11⟩
    · unfold fil
      by_cases y : j < (b - 2) / 5
      · rw [if_pos y]; exact kl_le _
      · rw [if_neg y]; exact h3 j
    · unfold fil
      by_cases y : j < 3 * ((b - 2) / 5)
      · rw [if_pos y]
        exact (dg_dv (okT_h ok (p := j / 3) (k := j % 3) (by omega) (Nat.mod_lt _ (by decide)))).2
      · rw [if_neg y]; exact h4 j
  · simp only [if_neg c]
    exact ⟨h1, h2, h3, h4, h5, h6, h7, h8, h9, h10, h11⟩
end Kept
