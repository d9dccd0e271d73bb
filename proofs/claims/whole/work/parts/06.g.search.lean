def gI (cs : List Int) (mo : Int) (pr k : Nat) : Int := gnS cs mo pr ((shL cs mo pr).getD k 0)
def cI (cs : List Int) (mo : Int) (pr k : Nat) : Nat := pc14 (pcS cs mo pr ((shL cs mo pr).getD k 0)).2
def bst (cs : List Int) (mo : Int) (pr : Nat) : Nat → Nat
  | 0 => 0
  | i + 1 => if i ≠ 0 ∧ (gI cs mo pr (bst cs mo pr i) < gI cs mo pr i ∨ (gI cs mo pr i = gI cs mo pr (bst cs mo pr i) ∧ cI cs mo pr (bst cs mo pr i) < cI cs mo pr i)) then i else bst cs mo pr i
def bestS (cs : List Int) (mo : Int) (pr : Nat) : Int := if (shL cs mo pr).length = 0 then -4 else bst cs mo pr (shL cs mo pr).length
def covS (cs : List Int) (mo : Int) (pr : Nat) : Nat := (shL cs mo pr).foldl (fun c s => c ||| (pcS cs mo pr s).2) 0
def plcL (cs : List Int) (mo : Int) (pr set : Nat) : List Nat := (List.range 897).filter (fun k => lgS cs mo pr k &&& set == set)
theorem bst_lt {cs : List Int} {mo : Int} {pr : Nat} : ∀ i, 0 < i → bst cs mo pr i < i := by
  intro i
  induction i with
  | zero => intro h; omega
  | succ i ih =>
    intro _
    unfold bst
    split
    · omega
    · rcases Nat.eq_zero_or_pos i with q | q
      · subst q; exact Nat.zero_lt_one
      · have := ih q; omega
theorem lgS_lt (cs : List Int) (mo : Int) (pr k : Nat) : lgS cs mo pr k < 16384 := bs_lt _ 14
theorem sh_lt {cs : List Int} {mo : Int} {pr i : Nat} (hi : i < (shL cs mo pr).length) : (shL cs mo pr).getD i 0 < 16384 := by
  have k4 : (shL cs mo pr).getD i 0 = (shL cs mo pr)[i] := by simp [List.getD, hi]
  have hm : (shL cs mo pr).getD i 0 ∈ shL cs mo pr := by rw [k4]; exact List.getElem_mem hi
  obtain ⟨k, -, -, h⟩ := shG_mem hm
  rw [h]; exact lgS_lt _ _ _ _
theorem mtS_lt {cs : List Int} {mo : Int} {pr i k : Nat} (hl : cs.length ≤ 14) : mtS cs mo pr i k < 14 := metF_lt (fun z _ => by rcases nuS_rng cs pr cs.length z with q | q <;> omega)
theorem pcG_fold_lt {mt : Nat → Nat → Int} {set : Nat} (h : ∀ i k, i < 14 → set.testBit i = true → mt i k < 14) (L : List Nat) : ∀ a : Nat × Nat, a.2 < 16384 → (L.foldl (fun a k => (a.1 + 1, cvG mt set k 14 a.2)) a).2 < 16384 ∧ (L.foldl (fun a k => (a.1 + 1, cvG mt set k 14 a.2)) a).1 = a.1 + L.length := by
  induction L with
  | nil => intro a ha; exact ⟨ha, rfl⟩
  | cons x L ih =>
    intro a ha
    have := ih (a.1 + 1, cvG mt set x 14 a.2) (cvG_lt (fun i hi hs => h i x hi hs) 14 a.2 (Nat.le_refl _) ha)
    simp only [List.foldl_cons, List.length_cons]
    refine ⟨this.1, ?_⟩
    rw [this.2]
    show a.1 + 1 + L.length = _
    omega
theorem pcS_lt {cs : List Int} {mo : Int} {pr : Nat} (hl : cs.length ≤ 14) (set : Nat) : (pcS cs mo pr set).2 < 16384 ∧ (pcS cs mo pr set).1 ≤ 897 := by
  have h := pcG_fold_lt (mt := mtS cs mo pr) (set := set) (fun i k _ _ => mtS_lt hl) ((wdL cs mo pr).filter (fun k => lgS cs mo pr k &&& set == set)) (0, 0) (by decide)
  refine ⟨h.1, ?_⟩
  have h2 : (pcS cs mo pr set).1 = 0 + ((wdL cs mo pr).filter (fun k => lgS cs mo pr k &&& set == set)).length := h.2
  have h3 := List.length_filter_le (fun k => lgS cs mo pr k &&& set == set) (wdL cs mo pr)
  have h4 := filt_len (fun k => two (lgS cs mo pr k)) 897
  have h5 : (wdL cs mo pr).length ≤ 897 := h4
  omega
theorem gnS_rng {cs : List Int} {mo : Int} {pr : Nat} (hl : cs.length ≤ 14) (set : Nat) : -1000 ≤ gnS cs mo pr set ∧ gnS cs mo pr set ≤ 100 := by
  have h1 := pcS_lt (mo := mo) (pr := pr) hl set
  have h2 := pc_le (pcS cs mo pr set).2
  have h3 := pc_le set
  unfold gnS
  omega
abbrev mX5_largestOf : xC := mkC yX5_largestOf cX5_largestOf 3 (some .int) 2 200 0 0
set_option maxHeartbeats 4000000 in
set_option maxRecDepth 100000 in
theorem tX5_largestOf {n : Nat} {w : xW} {q : Nat} {cs : List Int} {mo : Int} {pr : Nat} (hs : SeAt w q cs mo pr) {d e : Int} (hde : -1000 ≤ d ∧ d ≤ 1000 ∧ -1000 ≤ e ∧ e ≤ 1000) : Ctr mX5_largestOf [xr q, xi d, xi e] n w (pI (fun v w2 => w2 = w ∧ v = if -19 ≤ d ∧ d ≤ 19 ∧ -11 ≤ e ∧ e ≤ 11 then (lgS cs mo pr ((d + 19) * 23 + e + 11).toNat : Int) else 0)) := by
  refine Ctr.of ykX5_largestOf rfl (Nat.le_of_ble_eq_true rfl) okI (fun hin hW => ?_)
  obtain ⟨tf, pf, nu, lb, wi, ss, sp, sv, h_q, h_T, h_P, h_N, h_A, h_W, h_S, h_U, h_V, hlb, hb, htf, hnu, hlg, hsh⟩ := hs
  show Ex _ _ 0 0 n w 0 [some (xr q), some (xi d), some (xi e)] []
  refine ex_iload_n (pc := 0) dX5_largestOf_0 rfl ?_
  refine ex_iload_n (pc := 1) dX5_largestOf_1 rfl ?_
  refine ex_callSZ (as := [_, _]) (pc := 2) dX5_largestOf_2 (tX5_isHeld) lk_X5_96 ykX5_isHeld zkX5_isHeld rfl rfl (Nat.le_of_ble_eq_true rfl) ⟨by decide, by decide⟩ ⟨Nat.le_refl _, Nat.le_refl _⟩ (fun i2 w1 r2 p2 => ?_)
  obtain ⟨e2, p2⟩ := p2
  rw [e2]
  refine ex_if_eq (pc := 5) dX5_largestOf_5 (tgt := 21) (by decide) (fun c5 => ?_) (fun c5 => ?_)
  · refine ex_iconst (pc := 21) dX5_largestOf_21 (by decide) ?_
    exact ex_iret (pc := 22) dX5_largestOf_22 ⟨rfl, by rw [if_neg (by omega)]⟩ rfl (Nat.le_refl _)
  · refine ex_aload_n (pc := 8) dX5_largestOf_8 rfl ?_
    refine ex_getfield (pc := 9) dX5_largestOf_9 fk_X5_21 h_q (by rfl) ?_
    refine ex_iload_n (pc := 12) dX5_largestOf_12 rfl ?_
    refine ex_iload_n (pc := 13) dX5_largestOf_13 rfl ?_
    refine ex_callSI (as := [_, _]) (pc := 14) dX5_largestOf_14 (tX5_shiftOf (by omega)) lk_X5_99 ykX5_shiftOf zkX5_shiftOf rfl rfl (Nat.le_of_ble_eq_true rfl) ⟨by decide, by decide⟩ ⟨Nat.le_refl _, Nat.le_refl _⟩ (fun i14 w1 r14 p14 => ?_)
    obtain ⟨e14, p14⟩ := p14
    rw [e14]
    have hk9 : i14.toNat < 897 := by omega
    refine ex_iaload (pc := 17) dX5_largestOf_17 h_A (by omega) (by omega) ?_
    refine ex_goto (pc := 18) dX5_largestOf_18 (tgt := 22) (by decide) ?_
    rw [hlg _ hk9, p14]
    exact ex_iret (pc := 22) dX5_largestOf_22 ⟨rfl, by rw [if_pos (by omega)]⟩ rfl (Nat.le_refl _)

abbrev mX5_gainOf : xC := mkC yX5_gainOf cX5_gainOf 2 (some .int) 2 200 0 0
set_option maxHeartbeats 4000000 in
set_option maxRecDepth 100000 in
theorem tX5_gainOf {n : Nat} {w : xW} {q : Nat} {cs : List Int} {mo : Int} {pr : Nat} (hs : SeAt w q cs mo pr) (hl : cs.length ≤ 14) {k : Int} : Ctr mX5_gainOf [xr q, xi k] n w (pI (fun v w2 => w2 = w ∧ v = if 0 ≤ k ∧ k < (shL cs mo pr).length then gnS cs mo pr ((shL cs mo pr).getD k.toNat 0) else -10000)) := by
  refine Ctr.of ykX5_gainOf rfl (Nat.le_of_ble_eq_true rfl) okI (fun hin hW => ?_)
  obtain ⟨tf, pf, nu, lb, wi, ss, sp, sv, h_q, h_T, h_P, h_N, h_A, h_W, h_S, h_U, h_V, hlb, hb, htf, hnu, hlg, hsh⟩ := hs
  have hshl : (shL cs mo pr).length ≤ 448 := by
    have := shG_len (lb := lgS cs mo pr) (f := fun k => two (lgS cs mo pr k)) (x := ((List.range 897).filter (fun k => two (lgS cs mo pr k))).length)
    rw [List.take_length] at this
    exact this
  show Ex _ _ 0 0 n w 0 [some (xr q), some (xi k)] []
  refine ex_iload_n (pc := 0) dX5_gainOf_0 rfl ?_
  refine ex_if_lt (pc := 1) dX5_gainOf_1 (tgt := 12) (by decide) (fun c1 => ?_) (fun c1 => ?_)
  · refine ex_sipush (pc := 12) dX5_gainOf_12 (by decide) ?_
    exact ex_iret (pc := 15) dX5_gainOf_15 ⟨rfl, by rw [if_neg (by omega)]⟩ rfl (Nat.le_refl _)
  · refine ex_iload_n (pc := 4) dX5_gainOf_4 rfl ?_
    refine ex_aload_n (pc := 5) dX5_gainOf_5 rfl ?_
    refine ex_getfield (pc := 6) dX5_gainOf_6 fk_X5_109 h_q (by rfl) ?_
    refine ex_icmp_lt (pc := 9) dX5_gainOf_9 (tgt := 16) (by decide) (fun c9 => ?_) (fun c9 => ?_)
    · refine ex_aload_n (pc := 16) dX5_gainOf_16 rfl ?_
      refine ex_getfield (pc := 17) dX5_gainOf_17 fk_X5_33 h_q (by rfl) ?_
      refine ex_iload_n (pc := 20) dX5_gainOf_20 rfl ?_
      refine ex_iaload (pc := 21) dX5_gainOf_21 h_V (by omega) (by omega) ?_
      have h9 := hsh k.toNat (by omega)
      have h8 := sh_lt (cs := cs) (mo := mo) (pr := pr) (i := k.toNat) (by omega)
      have h7 := pcS_lt (mo := mo) (pr := pr) hl ((shL cs mo pr).getD k.toNat 0)
      have h6 := pc_le (pcS cs mo pr ((shL cs mo pr).getD k.toNat 0)).2
      have h5 := pc_le ((shL cs mo pr).getD k.toNat 0)
      rw [h9.2.2]
      refine ex_callSI (as := [_]) (pc := 22) dX5_gainOf_22 (tJ6_bitCount_0f7a4 h7.1) lk_X5_132 ykJ6_bitCount_0f7a4 zkJ6_bitCount_0f7a4 rfl rfl (Nat.le_of_ble_eq_true rfl) ⟨by decide, by decide⟩ ⟨Nat.le_refl _, Nat.le_refl _⟩ (fun i22 w1 r22 p22 => ?_)
      obtain ⟨e22, p22⟩ := p22
      rw [e22]
      refine ex_aload_n (pc := 25) dX5_gainOf_25 rfl ?_
      refine ex_getfield (pc := 26) dX5_gainOf_26 fk_X5_27 h_q (by rfl) ?_
      refine ex_iload_n (pc := 29) dX5_gainOf_29 rfl ?_
      refine ex_iaload (pc := 30) dX5_gainOf_30 h_S (by omega) (by omega) ?_
      rw [h9.1]
      refine ex_callSI (as := [_]) (pc := 31) dX5_gainOf_31 (tJ6_bitCount_0f7a4 h8) lk_X5_132 ykJ6_bitCount_0f7a4 zkJ6_bitCount_0f7a4 rfl rfl (Nat.le_of_ble_eq_true rfl) ⟨by decide, by decide⟩ ⟨Nat.le_refl _, Nat.le_refl _⟩ (fun i31 w1 r31 p31 => ?_)
      obtain ⟨e31, p31⟩ := p31
      rw [e31]
      refine ex_isub (pc := 34) dX5_gainOf_34 (by unfold inI; omega) ?_
      refine ex_aload_n (pc := 35) dX5_gainOf_35 rfl ?_
      refine ex_getfield (pc := 36) dX5_gainOf_36 fk_X5_30 h_q (by rfl) ?_
      refine ex_iload_n (pc := 39) dX5_gainOf_39 rfl ?_
      refine ex_iaload (pc := 40) dX5_gainOf_40 h_U (by omega) (by omega) ?_
      rw [h9.2.1]
      refine ex_isub (pc := 41) dX5_gainOf_41 (by unfold inI; omega) ?_
      refine ex_iconst (pc := 42) dX5_gainOf_42 (by decide) ?_
      refine ex_iadd (pc := 43) dX5_gainOf_43 (by unfold inI; omega) ?_
      exact ex_iret (pc := 44) dX5_gainOf_44 ⟨rfl, by rw [if_pos (by omega)]; unfold gnS; omega⟩ rfl (Nat.le_refl _)
    · refine ex_sipush (pc := 12) dX5_gainOf_12 (by decide) ?_
      exact ex_iret (pc := 15) dX5_gainOf_15 ⟨rfl, by rw [if_neg (by omega)]⟩ rfl (Nat.le_refl _)

theorem sh448 (cs : List Int) (mo : Int) (pr : Nat) : (shL cs mo pr).length ≤ 448 := by
  have := shG_len (lb := lgS cs mo pr) (f := fun k => two (lgS cs mo pr k)) (x := ((List.range 897).filter (fun k => two (lgS cs mo pr k))).length)
  rw [List.take_length] at this
  exact this
abbrev mX5_isBetter : xC := mkC yX5_isBetter cX5_isBetter 5 (some .boolean) 3 300 0 0
set_option maxHeartbeats 4000000 in
set_option maxRecDepth 100000 in
theorem tX5_isBetter {n : Nat} {w : xW} {q : Nat} {cs : List Int} {mo : Int} {pr : Nat} (hs : SeAt w q cs mo pr) (hl : cs.length ≤ 14) {a b : Nat} (ha : a < (shL cs mo pr).length) (hb9 : b < (shL cs mo pr).length) : Ctr mX5_isBetter [xr q, xi a, xi b] n w (pZ (fun v w2 => w2 = w ∧ (v = 1 ↔ (gI cs mo pr b < gI cs mo pr a ∨ (gI cs mo pr a = gI cs mo pr b ∧ cI cs mo pr b < cI cs mo pr a))))) := by
  refine Ctr.of ykX5_isBetter rfl (Nat.le_of_ble_eq_true rfl) okZ (fun hin hW => ?_)
  have hs0 := hs
  have h448 := sh448 cs mo pr
  obtain ⟨tf, pf, nu, lb, wi, ss, sp, sv, h_q, h_T, h_P, h_N, h_A, h_W, h_S, h_U, h_V, hlb, hb, htf, hnu, hlg, hsh⟩ := hs
  show Ex _ _ 0 0 n w 0 [some (xr q), some (xi a), some (xi b), none, none] []
  refine ex_aload_n (pc := 0) dX5_isBetter_0 rfl ?_
  refine ex_iload_n (pc := 1) dX5_isBetter_1 rfl ?_
  refine ex_callVI (as := [_]) (pc := 2) dX5_isBetter_2 (tX5_gainOf hs0 hl) lk_X5_140 ykX5_gainOf vkX5_gainOf h_q rfl rfl rfl (Nat.le_of_ble_eq_true rfl) ⟨by decide, by decide⟩ ⟨Nat.le_refl _, Nat.le_refl _⟩ (fun i2 w1 r2 p2 => ?_)
  obtain ⟨e2, p2⟩ := p2
  rw [e2]
  rw [if_pos (by omega)] at p2
  refine ex_istore_n (L2 := [_, _, _, _, _]) (pc := 5) dX5_isBetter_5 rfl (Nat.le_of_ble_eq_true rfl) rfl ?_
  refine ex_aload_n (pc := 6) dX5_isBetter_6 rfl ?_
  refine ex_iload_n (pc := 7) dX5_isBetter_7 rfl ?_
  refine ex_callVI (as := [_]) (pc := 8) dX5_isBetter_8 (tX5_gainOf hs0 hl) lk_X5_140 ykX5_gainOf vkX5_gainOf h_q rfl rfl rfl (Nat.le_of_ble_eq_true rfl) ⟨by decide, by decide⟩ ⟨Nat.le_refl _, Nat.le_refl _⟩ (fun i8 w1 r8 p8 => ?_)
  obtain ⟨e8, p8⟩ := p8
  rw [e8]
  rw [if_pos (by omega)] at p8
  have hka : ((a : Int)).toNat = a := by omega
  have hkb : ((b : Int)).toNat = b := by omega
  rw [hka] at p2
  rw [hkb] at p8
  refine ex_istore (L2 := [_, _, _, _, _]) (pc := 11) dX5_isBetter_11 rfl (Nat.le_of_ble_eq_true rfl) rfl ?_
  refine ex_iload_n (pc := 13) dX5_isBetter_13 rfl ?_
  refine ex_iload (pc := 14) dX5_isBetter_14 rfl ?_
  refine ex_icmp_eq (pc := 16) dX5_isBetter_16 (tgt := 31) (by decide) (fun c16 => ?_) (fun c16 => ?_)
  · refine ex_aload_n (pc := 31) dX5_isBetter_31 rfl ?_
    refine ex_getfield (pc := 32) dX5_isBetter_32 fk_X5_33 h_q (by rfl) ?_
    refine ex_iload_n (pc := 35) dX5_isBetter_35 rfl ?_
    refine ex_iaload (pc := 36) dX5_isBetter_36 h_V (by omega) (by omega) ?_
    rw [hka, (hsh a (by omega)).2.2]
    refine ex_callSI (as := [_]) (pc := 37) dX5_isBetter_37 (tJ6_bitCount_0f7a4 (pcS_lt hl _).1) lk_X5_132 ykJ6_bitCount_0f7a4 zkJ6_bitCount_0f7a4 rfl rfl (Nat.le_of_ble_eq_true rfl) ⟨by decide, by decide⟩ ⟨Nat.le_refl _, Nat.le_refl _⟩ (fun i37 w1 r37 p37 => ?_)
    obtain ⟨e37, p37⟩ := p37
    rw [e37]
    refine ex_aload_n (pc := 40) dX5_isBetter_40 rfl ?_
    refine ex_getfield (pc := 41) dX5_isBetter_41 fk_X5_33 h_q (by rfl) ?_
    refine ex_iload_n (pc := 44) dX5_isBetter_44 rfl ?_
    refine ex_iaload (pc := 45) dX5_isBetter_45 h_V (by omega) (by omega) ?_
    rw [hkb, (hsh b (by omega)).2.2]
    refine ex_callSI (as := [_]) (pc := 46) dX5_isBetter_46 (tJ6_bitCount_0f7a4 (pcS_lt hl _).1) lk_X5_132 ykJ6_bitCount_0f7a4 zkJ6_bitCount_0f7a4 rfl rfl (Nat.le_of_ble_eq_true rfl) ⟨by decide, by decide⟩ ⟨Nat.le_refl _, Nat.le_refl _⟩ (fun i46 w1 r46 p46 => ?_)
    obtain ⟨e46, p46⟩ := p46
    rw [e46]
    refine ex_icmp_le (pc := 49) dX5_isBetter_49 (tgt := 56) (by decide) (fun c49 => ?_) (fun c49 => ?_)
    · refine ex_iconst (pc := 56) dX5_isBetter_56 (by decide) ?_
      exact ex_zret (pc := 57) dX5_isBetter_57 ⟨by omega, rfl, by unfold gI cI; rw [← p2, ← p8]; omega⟩ rfl (Nat.le_refl _)
    · refine ex_iconst (pc := 52) dX5_isBetter_52 (by decide) ?_
      refine ex_goto (pc := 53) dX5_isBetter_53 (tgt := 57) (by decide) ?_
      exact ex_zret (pc := 57) dX5_isBetter_57 ⟨by omega, rfl, by unfold gI cI; rw [← p2, ← p8]; omega⟩ rfl (Nat.le_refl _)
  · refine ex_iload_n (pc := 19) dX5_isBetter_19 rfl ?_
    refine ex_iload (pc := 20) dX5_isBetter_20 rfl ?_
    refine ex_icmp_le (pc := 22) dX5_isBetter_22 (tgt := 29) (by decide) (fun c22 => ?_) (fun c22 => ?_)
    · refine ex_iconst (pc := 29) dX5_isBetter_29 (by decide) ?_
      exact ex_zret (pc := 30) dX5_isBetter_30 ⟨by omega, rfl, by unfold gI; rw [← p2, ← p8]; omega⟩ rfl (Nat.le_refl _)
    · refine ex_iconst (pc := 25) dX5_isBetter_25 (by decide) ?_
      refine ex_goto (pc := 26) dX5_isBetter_26 (tgt := 30) (by decide) ?_
      exact ex_zret (pc := 30) dX5_isBetter_30 ⟨by omega, rfl, by unfold gI; rw [← p2, ← p8]; omega⟩ rfl (Nat.le_refl _)

abbrev mX5_bestShape : xC := mkC yX5_bestShape cX5_bestShape 3 (some .int) 4 400 0 0
set_option maxHeartbeats 4000000 in
set_option maxRecDepth 100000 in
theorem tX5_bestShape {n : Nat} {w : xW} {q : Nat} {cs : List Int} {mo : Int} {pr : Nat} (hs : SeAt w q cs mo pr) (hl : cs.length ≤ 14) : Ctr mX5_bestShape [xr q] n w (pI (fun v w2 => w2 = w ∧ v = bestS cs mo pr)) := by
  refine Ctr.of ykX5_bestShape rfl (Nat.le_of_ble_eq_true rfl) okI (fun hin hW => ?_)
  have hs0 := hs
  have h448 := sh448 cs mo pr
  obtain ⟨tf, pf, nu, lb, wi, ss, sp, sv, h_q, h_T, h_P, h_N, h_A, h_W, h_S, h_U, h_V, hlb, hb, htf, hnu, hlg, hsh⟩ := hs
  show Ex _ _ 0 0 n w 0 [some (xr q), none, none] []
  have loop : ∀ (d k b : Nat), 1 ≤ k → k ≤ (shL cs mo pr).length → (shL cs mo pr).length + 1 ≤ k + d → b < k → b = bst cs mo pr k → Ex mX5_bestShape (pI (fun v w2 => w2 = w ∧ v = bestS cs mo pr)) 0 0 n w 16 [some (xr q), some (xi b), some (xi k)] [] := by
    intro d
    induction d with
    | zero => intro k b h0 h1 h2; omega
    | succ d ih =>
      intro k b h0 h1 h2 hb7 hb8
      refine ex_iload_n (pc := 16) dX5_bestShape_16 rfl ?_
      refine ex_aload_n (pc := 17) dX5_bestShape_17 rfl ?_
      refine ex_getfield (pc := 18) dX5_bestShape_18 fk_X5_109 h_q (by rfl) ?_
      refine ex_icmp_ge (pc := 21) dX5_bestShape_21 (tgt := 41) (by decide) (fun c21 => ?_) (fun c21 => ?_)
      · refine ex_iload_n (pc := 41) dX5_bestShape_41 rfl ?_
        have hkl : k = (shL cs mo pr).length := by omega
        exact ex_iret (pc := 42) dX5_bestShape_42 ⟨rfl, by unfold bestS; rw [if_neg (by omega), ← hkl, ← hb8]⟩ rfl (Nat.le_refl _)
      · refine ex_aload_n (pc := 24) dX5_bestShape_24 rfl ?_
        refine ex_iload_n (pc := 25) dX5_bestShape_25 rfl ?_
        refine ex_iload_n (pc := 26) dX5_bestShape_26 rfl ?_
        refine ex_callVZ (as := [_, _]) (pc := 27) dX5_bestShape_27 (tX5_isBetter hs0 hl (a := k) (b := b) (by omega) (by omega)) lk_X5_137 ykX5_isBetter vkX5_isBetter h_q rfl rfl rfl (Nat.le_of_ble_eq_true rfl) ⟨by decide, by decide⟩ ⟨Nat.le_refl _, Nat.le_refl _⟩ (fun i27 w1 r27 p27 => ?_)
        obtain ⟨e27, p27⟩ := p27
        rw [e27]
        refine ex_if_eq (pc := 30) dX5_bestShape_30 (tgt := 35) (by decide) (fun c30 => ?_) (fun c30 => ?_)
        · refine ex_iinc (L2 := [_, _, _]) (pc := 35) dX5_bestShape_35 rfl rfl (Nat.le_of_ble_eq_true rfl) (by unfold inI; omega) rfl ?_
          refine ex_goto (pc := 38) dX5_bestShape_38 (tgt := 16) (by decide) ?_
          have e9 : bst cs mo pr (k + 1) = b := by rw [hb8]; show (if _ then _ else _) = _; rw [if_neg (by rw [← hb8]; intro z; have := p27.mpr z.2; omega)]
          exact ih (k + 1) b (by omega) (by omega) (by omega) (by omega) e9.symm
        · refine ex_iload_n (pc := 33) dX5_bestShape_33 rfl ?_
          refine ex_istore_n (L2 := [_, _, _]) (pc := 34) dX5_bestShape_34 rfl (Nat.le_of_ble_eq_true rfl) rfl ?_
          refine ex_iinc (L2 := [_, _, _]) (pc := 35) dX5_bestShape_35 rfl rfl (Nat.le_of_ble_eq_true rfl) (by unfold inI; omega) rfl ?_
          refine ex_goto (pc := 38) dX5_bestShape_38 (tgt := 16) (by decide) ?_
          have e9 : bst cs mo pr (k + 1) = k := by show (if _ then _ else _) = _; rw [if_pos ⟨by omega, by rw [← hb8]; exact p27.mp (by omega)⟩]
          exact ih (k + 1) k (by omega) (by omega) (by omega) (by omega) e9.symm
  refine ex_aload_n (pc := 0) dX5_bestShape_0 rfl ?_
  refine ex_getfield (pc := 1) dX5_bestShape_1 fk_X5_109 h_q (by rfl) ?_
  refine ex_if_le (pc := 4) dX5_bestShape_4 (tgt := 11) (by decide) (fun c4 => ?_) (fun c4 => ?_)
  · refine ex_bipush (pc := 11) dX5_bestShape_11 (by decide) ?_
    refine ex_istore_n (L2 := [_, _, _]) (pc := 13) dX5_bestShape_13 rfl (Nat.le_of_ble_eq_true rfl) rfl ?_
    refine ex_iconst (pc := 14) dX5_bestShape_14 (by decide) ?_
    refine ex_istore_n (L2 := [_, _, _]) (pc := 15) dX5_bestShape_15 rfl (Nat.le_of_ble_eq_true rfl) rfl ?_
    refine ex_iload_n (pc := 16) dX5_bestShape_16 rfl ?_
    refine ex_aload_n (pc := 17) dX5_bestShape_17 rfl ?_
    refine ex_getfield (pc := 18) dX5_bestShape_18 fk_X5_109 h_q (by rfl) ?_
    refine ex_icmp_ge (pc := 21) dX5_bestShape_21 (tgt := 41) (by decide) (fun c21 => ?_) (fun c21 => by exfalso; omega)
    refine ex_iload_n (pc := 41) dX5_bestShape_41 rfl ?_
    exact ex_iret (pc := 42) dX5_bestShape_42 ⟨rfl, by unfold bestS; rw [if_pos (by omega)]⟩ rfl (Nat.le_refl _)
  · refine ex_iconst (pc := 7) dX5_bestShape_7 (by decide) ?_
    refine ex_goto (pc := 8) dX5_bestShape_8 (tgt := 13) (by decide) ?_
    refine ex_istore_n (L2 := [_, _, _]) (pc := 13) dX5_bestShape_13 rfl (Nat.le_of_ble_eq_true rfl) rfl ?_
    refine ex_iconst (pc := 14) dX5_bestShape_14 (by decide) ?_
    refine ex_istore_n (L2 := [_, _, _]) (pc := 15) dX5_bestShape_15 rfl (Nat.le_of_ble_eq_true rfl) rfl ?_
    exact loop ((shL cs mo pr).length + 1) 1 0 (by omega) (by omega) (by omega) (by omega) rfl

abbrev mX5_covered : xC := mkC yX5_covered cX5_covered 3 (some .int) 1 100 0 0
set_option maxHeartbeats 4000000 in
set_option maxRecDepth 100000 in
theorem tX5_covered {n : Nat} {w : xW} {q : Nat} {cs : List Int} {mo : Int} {pr : Nat} (hs : SeAt w q cs mo pr) (hl : cs.length ≤ 14) : Ctr mX5_covered [xr q] n w (pI (fun v w2 => w2 = w ∧ v = (covS cs mo pr : Int))) := by
  refine Ctr.of ykX5_covered rfl (Nat.le_of_ble_eq_true rfl) okI (fun hin hW => ?_)
  have h448 := sh448 cs mo pr
  obtain ⟨tf, pf, nu, lb, wi, ss, sp, sv, h_q, h_T, h_P, h_N, h_A, h_W, h_S, h_U, h_V, hlb, hb, htf, hnu, hlg, hsh⟩ := hs
  show Ex _ _ 0 0 n w 0 [some (xr q), none, none] []
  have loop : ∀ (d k c : Nat), k ≤ (shL cs mo pr).length → (shL cs mo pr).length + 1 ≤ k + d → c < 16384 → c = ((shL cs mo pr).take k).foldl (fun c s => c ||| (pcS cs mo pr s).2) 0 → Ex mX5_covered (pI (fun v w2 => w2 = w ∧ v = (covS cs mo pr : Int))) 0 0 n w 4 [some (xr q), some (xi c), some (xi k)] [] := by
    intro d
    induction d with
    | zero => intro k c h1 h2; omega
    | succ d ih =>
      intro k c h1 h2 hc he
      refine ex_iload_n (pc := 4) dX5_covered_4 rfl ?_
      refine ex_aload_n (pc := 5) dX5_covered_5 rfl ?_
      refine ex_getfield (pc := 6) dX5_covered_6 fk_X5_109 h_q (by rfl) ?_
      refine ex_icmp_ge (pc := 9) dX5_covered_9 (tgt := 27) (by decide) (fun c9 => ?_) (fun c9 => ?_)
      · refine ex_iload_n (pc := 27) dX5_covered_27 rfl ?_
        have hkl : k = (shL cs mo pr).length := by omega
        rw [hkl, List.take_length] at he
        exact ex_iret (pc := 28) dX5_covered_28 ⟨rfl, by rw [he]; rfl⟩ rfl (Nat.le_refl _)
      · refine ex_iload_n (pc := 12) dX5_covered_12 rfl ?_
        refine ex_aload_n (pc := 13) dX5_covered_13 rfl ?_
        refine ex_getfield (pc := 14) dX5_covered_14 fk_X5_33 h_q (by rfl) ?_
        refine ex_iload_n (pc := 17) dX5_covered_17 rfl ?_
        refine ex_iaload (pc := 18) dX5_covered_18 h_V (by omega) (by omega) ?_
        have hkk : k < (shL cs mo pr).length := by omega
        have hk1 : ((k : Int)).toNat = k := by omega
        rw [hk1, (hsh k hkk).2.2]
        refine ex_ior (pc := 19) dX5_covered_19 ?_
        refine ex_eq (xor_n (by omega) (by have := (pcS_lt (mo := mo) (pr := pr) hl ((shL cs mo pr).getD k 0)).1; omega)) ?_
        refine ex_istore_n (L2 := [_, _, _]) (pc := 20) dX5_covered_20 rfl (Nat.le_of_ble_eq_true rfl) rfl ?_
        refine ex_iinc (L2 := [_, _, _]) (pc := 21) dX5_covered_21 rfl rfl (Nat.le_of_ble_eq_true rfl) (by unfold inI; omega) rfl ?_
        refine ex_goto (pc := 24) dX5_covered_24 (tgt := 4) (by decide) ?_
        exact ih (k + 1) _ (by omega) (by omega) (Nat.or_lt_two_pow (n := 14) hc (pcS_lt hl _).1) (by rw [fold_step hkk, ← he]; congr 3; simp [List.getD, hkk])
  refine ex_iconst (pc := 0) dX5_covered_0 (by decide) ?_
  refine ex_istore_n (L2 := [_, _, _]) (pc := 1) dX5_covered_1 rfl (Nat.le_of_ble_eq_true rfl) rfl ?_
  refine ex_iconst (pc := 2) dX5_covered_2 (by decide) ?_
  refine ex_istore_n (L2 := [_, _, _]) (pc := 3) dX5_covered_3 rfl (Nat.le_of_ble_eq_true rfl) rfl ?_
  exact loop ((shL cs mo pr).length + 1) 0 0 (by omega) (by omega) (by omega) rfl

abbrev mX5_placesOf : xC := mkC yX5_placesOf cX5_placesOf 4 (some .int) 1 100 0 0
set_option maxHeartbeats 4000000 in
set_option maxRecDepth 100000 in
theorem tX5_placesOf {n : Nat} {w : xW} {q : Nat} {cs : List Int} {mo : Int} {pr : Nat} (hs : SeAt w q cs mo pr) {set : Nat} : Ctr mX5_placesOf [xr q, xi set] n w (pI (fun v w2 => w2 = w ∧ v = ((plcL cs mo pr set).length : Int))) := by
  refine Ctr.of ykX5_placesOf rfl (Nat.le_of_ble_eq_true rfl) okI (fun hin hW => ?_)
  obtain ⟨tf, pf, nu, lb, wi, ss, sp, sv, h_q, h_T, h_P, h_N, h_A, h_W, h_S, h_U, h_V, hlb, hb, htf, hnu, hlg, hsh⟩ := hs
  show Ex _ _ 0 0 n w 0 [some (xr q), some (xi set), none, none] []
  have loop : ∀ (d k c : Nat), k ≤ 897 → 898 ≤ k + d → c ≤ k → c = ((List.range k).filter (fun k => lgS cs mo pr k &&& set == set)).length → Ex mX5_placesOf (pI (fun v w2 => w2 = w ∧ v = ((plcL cs mo pr set).length : Int))) 0 0 n w 4 [some (xr q), some (xi set), some (xi c), some (xi k)] [] := by
    intro d
    induction d with
    | zero => intro k c h1 h2; omega
    | succ d ih =>
      intro k c h1 h2 hc he
      refine ex_iload_n (pc := 4) dX5_placesOf_4 rfl ?_
      refine ex_sipush (pc := 5) dX5_placesOf_5 (by decide) ?_
      refine ex_icmp_ge (pc := 8) dX5_placesOf_8 (tgt := 32) (by decide) (fun c8 => ?_) (fun c8 => ?_)
      · refine ex_iload_n (pc := 32) dX5_placesOf_32 rfl ?_
        have hkl : k = 897 := by omega
        exact ex_iret (pc := 33) dX5_placesOf_33 ⟨rfl, by rw [he, hkl]; rfl⟩ rfl (Nat.le_refl _)
      · refine ex_aload_n (pc := 11) dX5_placesOf_11 rfl ?_
        refine ex_getfield (pc := 12) dX5_placesOf_12 fk_X5_21 h_q (by rfl) ?_
        refine ex_iload_n (pc := 15) dX5_placesOf_15 rfl ?_
        refine ex_iaload (pc := 16) dX5_placesOf_16 h_A (by omega) (by omega) ?_
        have hk1 : ((k : Int)).toNat = k := by omega
        rw [hk1]
        refine ex_iload_n (pc := 17) dX5_placesOf_17 rfl ?_
        refine ex_iand (pc := 18) dX5_placesOf_18 ?_
        refine ex_eq (xand_n (by have := hlb k; omega)) ?_
        refine ex_iload_n (pc := 19) dX5_placesOf_19 rfl ?_
        refine ex_icmp_ne (pc := 20) dX5_placesOf_20 (tgt := 26) (by decide) (fun c20 => ?_) (fun c20 => ?_)
        · refine ex_iinc (L2 := [_, _, _, _]) (pc := 26) dX5_placesOf_26 rfl rfl (Nat.le_of_ble_eq_true rfl) (by unfold inI; omega) rfl ?_
          refine ex_goto (pc := 29) dX5_placesOf_29 (tgt := 4) (by decide) ?_
          exact ih (k + 1) c (by omega) (by omega) (by omega) (by rw [filt_s, if_neg (by rw [beq_iff_eq, ← hlg k (by omega)]; omega), List.append_nil]; exact he)
        · refine ex_iinc (L2 := [_, _, _, _]) (pc := 23) dX5_placesOf_23 rfl rfl (Nat.le_of_ble_eq_true rfl) (by unfold inI; omega) rfl ?_
          refine ex_iinc (L2 := [_, _, _, _]) (pc := 26) dX5_placesOf_26 rfl rfl (Nat.le_of_ble_eq_true rfl) (by unfold inI; omega) rfl ?_
          refine ex_goto (pc := 29) dX5_placesOf_29 (tgt := 4) (by decide) ?_
          exact ih (k + 1) (c + 1) (by omega) (by omega) (by omega) (by rw [filt_s, if_pos (by rw [beq_iff_eq, ← hlg k (by omega)]; omega), List.length_append, ← he]; rfl)
  refine ex_iconst (pc := 0) dX5_placesOf_0 (by decide) ?_
  refine ex_istore_n (L2 := [_, _, _, _]) (pc := 1) dX5_placesOf_1 rfl (Nat.le_of_ble_eq_true rfl) rfl ?_
  refine ex_iconst (pc := 2) dX5_placesOf_2 (by decide) ?_
  refine ex_istore_n (L2 := [_, _, _, _]) (pc := 3) dX5_placesOf_3 rfl (Nat.le_of_ble_eq_true rfl) rfl ?_
  exact loop 898 0 0 (by omega) (by omega) (by omega) rfl

abbrev mX5_placeOf : xC := mkC yX5_placeOf cX5_placeOf 5 (some .int) 2 200 0 0
def plcI (cs : List Int) (mo : Int) (pr set j : Nat) : Int := match (plcL cs mo pr set)[j]? with
  | some k => 100 * (dK k + 50) + eK k + 50
  | none => -4
theorem filt_pre {f : Nat → Bool} {k m : Nat} (h : k ≤ m) : ∃ t, (List.range m).filter f = (List.range k).filter f ++ t := by
  obtain ⟨d, rfl⟩ := Nat.exists_eq_add_of_le h
  rw [List.range_add, List.filter_append]
  exact ⟨_, rfl⟩
set_option maxHeartbeats 4000000 in
set_option maxRecDepth 100000 in
theorem tX5_placeOf {n : Nat} {w : xW} {q : Nat} {cs : List Int} {mo : Int} {pr : Nat} (hs : SeAt w q cs mo pr) {set j : Nat} : Ctr mX5_placeOf [xr q, xi set, xi j] n w (pI (fun v w2 => w2 = w ∧ v = plcI cs mo pr set j)) := by
  refine Ctr.of ykX5_placeOf rfl (Nat.le_of_ble_eq_true rfl) okI (fun hin hW => ?_)
  obtain ⟨tf, pf, nu, lb, wi, ss, sp, sv, h_q, h_T, h_P, h_N, h_A, h_W, h_S, h_U, h_V, hlb, hb, htf, hnu, hlg, hsh⟩ := hs
  show Ex _ _ 0 0 n w 0 [some (xr q), some (xi set), some (xi j), none, none] []
  have loop : ∀ (d k c : Nat), k ≤ 897 → 898 ≤ k + d → c ≤ k → c ≤ j → c = ((List.range k).filter (fun k => lgS cs mo pr k &&& set == set)).length → Ex mX5_placeOf (pI (fun v w2 => w2 = w ∧ v = plcI cs mo pr set j)) 0 0 n w 5 [some (xr q), some (xi set), some (xi j), some (xi c), some (xi k)] [] := by
    intro d
    induction d with
    | zero => intro k c h1 h2; omega
    | succ d ih =>
      intro k c h1 h2 hc hcj he
      refine ex_iload (pc := 5) dX5_placeOf_5 rfl ?_
      refine ex_sipush (pc := 7) dX5_placeOf_7 (by decide) ?_
      refine ex_icmp_ge (pc := 10) dX5_placeOf_10 (tgt := 61) (by decide) (fun c10 => ?_) (fun c10 => ?_)
      · refine ex_bipush (pc := 61) dX5_placeOf_61 (by decide) ?_
        have hkl : k = 897 := by omega
        have hget : (plcL cs mo pr set)[j]? = none := List.getElem?_eq_none (by unfold plcL; rw [← hkl, ← he]; omega)
        exact ex_iret (pc := 63) dX5_placeOf_63 ⟨rfl, by unfold plcI; rw [hget]⟩ rfl (Nat.le_refl _)
      · refine ex_aload_n (pc := 13) dX5_placeOf_13 rfl ?_
        refine ex_getfield (pc := 14) dX5_placeOf_14 fk_X5_21 h_q (by rfl) ?_
        refine ex_iload (pc := 17) dX5_placeOf_17 rfl ?_
        refine ex_iaload (pc := 19) dX5_placeOf_19 h_A (by omega) (by omega) ?_
        have hk1 : ((k : Int)).toNat = k := by omega
        rw [hk1]
        refine ex_iload_n (pc := 20) dX5_placeOf_20 rfl ?_
        refine ex_iand (pc := 21) dX5_placeOf_21 ?_
        refine ex_eq (xand_n (by have := hlb k; omega)) ?_
        refine ex_iload_n (pc := 22) dX5_placeOf_22 rfl ?_
        refine ex_icmp_ne (pc := 23) dX5_placeOf_23 (tgt := 55) (by decide) (fun c23 => ?_) (fun c23 => ?_)
        · refine ex_iinc (L2 := [_, _, _, _, _]) (pc := 55) dX5_placeOf_55 rfl rfl (Nat.le_of_ble_eq_true rfl) (by unfold inI; omega) rfl ?_
          refine ex_goto (pc := 58) dX5_placeOf_58 (tgt := 5) (by decide) ?_
          exact ih (k + 1) c (by omega) (by omega) (by omega) (by omega) (by rw [filt_s, if_neg (by rw [beq_iff_eq, ← hlg k (by omega)]; omega), List.append_nil]; exact he)
        · refine ex_iload_n (pc := 26) dX5_placeOf_26 rfl ?_
          refine ex_iload_n (pc := 27) dX5_placeOf_27 rfl ?_
          refine ex_icmp_ne (pc := 28) dX5_placeOf_28 (tgt := 52) (by decide) (fun c28 => ?_) (fun c28 => ?_)
          · refine ex_iinc (L2 := [_, _, _, _, _]) (pc := 52) dX5_placeOf_52 rfl rfl (Nat.le_of_ble_eq_true rfl) (by unfold inI; omega) rfl ?_
            refine ex_iinc (L2 := [_, _, _, _, _]) (pc := 55) dX5_placeOf_55 rfl rfl (Nat.le_of_ble_eq_true rfl) (by unfold inI; omega) rfl ?_
            refine ex_goto (pc := 58) dX5_placeOf_58 (tgt := 5) (by decide) ?_
            exact ih (k + 1) (c + 1) (by omega) (by omega) (by omega) (by omega) (by rw [filt_s, if_pos (by rw [beq_iff_eq, ← hlg k (by omega)]; omega), List.length_append, ← he]; rfl)
          · refine ex_bipush (pc := 31) dX5_placeOf_31 (by decide) ?_
            refine ex_iload (pc := 33) dX5_placeOf_33 rfl ?_
            refine ex_callSI (as := [_]) (pc := 35) dX5_placeOf_35 (tX5_timePart (by omega)) lk_X5_119 ykX5_timePart zkX5_timePart rfl rfl (Nat.le_of_ble_eq_true rfl) ⟨by decide, by decide⟩ ⟨Nat.le_refl _, Nat.le_refl _⟩ (fun i35 w1 r35 p35 => ?_)
            obtain ⟨e35, p35⟩ := p35
            rw [e35]
            refine ex_bipush (pc := 38) dX5_placeOf_38 (by decide) ?_
            refine ex_iadd (pc := 40) dX5_placeOf_40 (by unfold inI; omega) ?_
            refine ex_imul (pc := 41) dX5_placeOf_41 (by unfold inI; omega) ?_
            refine ex_iload (pc := 42) dX5_placeOf_42 rfl ?_
            refine ex_callSI (as := [_]) (pc := 44) dX5_placeOf_44 (tX5_pitchPart (by omega)) lk_X5_122 ykX5_pitchPart zkX5_pitchPart rfl rfl (Nat.le_of_ble_eq_true rfl) ⟨by decide, by decide⟩ ⟨Nat.le_refl _, Nat.le_refl _⟩ (fun i44 w1 r44 p44 => ?_)
            obtain ⟨e44, p44⟩ := p44
            rw [e44]
            refine ex_iadd (pc := 47) dX5_placeOf_47 (by unfold inI; omega) ?_
            refine ex_bipush (pc := 48) dX5_placeOf_48 (by decide) ?_
            refine ex_iadd (pc := 50) dX5_placeOf_50 (by unfold inI; omega) ?_
            obtain ⟨t9, ht9⟩ := filt_pre (f := fun k => lgS cs mo pr k &&& set == set) (show k + 1 ≤ 897 by omega)
            have hget : (plcL cs mo pr set)[j]? = some k := by
              unfold plcL
              rw [ht9, filt_s, if_pos (by rw [beq_iff_eq, ← hlg k (by omega)]; omega), List.append_assoc, List.getElem?_append_right (by omega), show j - ((List.range k).filter (fun k => lgS cs mo pr k &&& set == set)).length = 0 by omega]
              rfl
            exact ex_iret (pc := 51) dX5_placeOf_51 ⟨rfl, by unfold plcI; rw [hget]; show _ = 100 * (dK k + 50) + eK k + 50; unfold dK eK; omega⟩ rfl (Nat.le_refl _)
  refine ex_iconst (pc := 0) dX5_placeOf_0 (by decide) ?_
  refine ex_istore_n (L2 := [_, _, _, _, _]) (pc := 1) dX5_placeOf_1 rfl (Nat.le_of_ble_eq_true rfl) rfl ?_
  refine ex_iconst (pc := 2) dX5_placeOf_2 (by decide) ?_
  refine ex_istore (L2 := [_, _, _, _, _]) (pc := 3) dX5_placeOf_3 rfl (Nat.le_of_ble_eq_true rfl) rfl ?_
  exact loop 898 0 0 (by omega) (by omega) (by omega) (by omega) rfl

