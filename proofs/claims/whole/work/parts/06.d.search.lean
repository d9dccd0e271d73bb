abbrev mX5_findWideShifts : xC := mkC yX5_findWideShifts cX5_findWideShifts 2 none 2 200 0 0
theorem two_iff {a : Nat} : two a = true ↔ (a &&& (a - 1)) ≠ 0 := by simp [two]
theorem filt_len (f : Nat → Bool) (k : Nat) : ((List.range k).filter f).length ≤ k := by
  have := List.length_filter_le f (List.range k)
  rwa [List.length_range] at this
theorem filt_s {f : Nat → Bool} {k : Nat} : (List.range (k + 1)).filter f = (List.range k).filter f ++ (if f k then [k] else []) := by
  rw [List.range_succ, List.filter_append]
  congr 1
  cases h : f k <;> simp [List.filter, h]
theorem cvG_s {mt : Nat → Nat → Int} {set k i c : Nat} : cvG mt set k (i + 1) c = if set.testBit i && decide (0 ≤ mt i k) then cvG mt set k i c ||| 2 ^ (mt i k).toNat else cvG mt set k i c := rfl
theorem getD_app1 {L : List Nat} {x i : Nat} (h : i < L.length) : (L ++ [x]).getD i 0 = L.getD i 0 := by simp [List.getD, List.getElem?_append_left h]
theorem getD_app2 {L : List Nat} {x : Nat} : (L ++ [x]).getD L.length 0 = x := by simp [List.getD]
set_option maxHeartbeats 4000000 in
set_option maxRecDepth 100000 in
theorem tX5_findWideShifts {n : Nat} {W : xW} {q : Nat} {wc mo pr sc : Int}  {lb : Nat → Nat} {wi : Nat → Int} (h_q : W q = seO q wc mo pr sc) (h_A : W (q + 4) = xA 897 (fun i => (lb i : Int))) (h_W : W (q + 5) = xA 897 wi) (hlb : ∀ k, lb k < 16384) : Ctr mX5_findWideShifts [xr q] n W (pV (fun w2 => ∃ wi2 : Nat → Int, w2 q = seO q ((List.range 897).filter (fun k => two (lb k))).length mo pr sc ∧ w2 (q + 5) = xA 897 wi2 ∧ (∀ i, i < ((List.range 897).filter (fun k => two (lb k))).length → wi2 i = ((((List.range 897).filter (fun k => two (lb k))).getD i 0 : Nat) : Int)) ∧ ∀ z, z ≠ q → z ≠ q + 5 → w2 z = W z)) := by
  refine Ctr.of ykX5_findWideShifts rfl (Nat.le_of_ble_eq_true rfl) okV (fun hin hW => ?_)
  show Ex _ _ 0 0 n W 0 [some (xr q), none] []
  have loop : ∀ (d k : Nat), k ≤ 897 → 898 ≤ k + d → ∀ (w : xW) (wi : Nat → Int), w q = seO q ((List.range k).filter (fun k => two (lb k))).length mo pr sc → w (q + 5) = xA 897 wi → w (q + 4) = xA 897 (fun i => (lb i : Int)) → (∀ i, i < ((List.range k).filter (fun k => two (lb k))).length → wi i = ((((List.range k).filter (fun k => two (lb k))).getD i 0 : Nat) : Int)) → (∀ z, z ≠ q → z ≠ q + 5 → w z = W z) → Ex mX5_findWideShifts (pV (fun w2 => ∃ wi2 : Nat → Int, w2 q = seO q ((List.range 897).filter (fun k => two (lb k))).length mo pr sc ∧ w2 (q + 5) = xA 897 wi2 ∧ (∀ i, i < ((List.range 897).filter (fun k => two (lb k))).length → wi2 i = ((((List.range 897).filter (fun k => two (lb k))).getD i 0 : Nat) : Int)) ∧ ∀ z, z ≠ q → z ≠ q + 5 → w2 z = W z)) 0 0 n w 7 [some (xr q), some (xi k)] [] := by
    intro d
    induction d with
    | zero => intro k h1 h2; omega
    | succ d ih =>
      intro k h1 h2 w wi h_q h_W h_A hwi hfr
      refine ex_iload_n (pc := 7) dX5_findWideShifts_7 rfl ?_
      refine ex_sipush (pc := 8) dX5_findWideShifts_8 (by decide) ?_
      refine ex_icmp_ge (pc := 11) dX5_findWideShifts_11 (tgt := 52) (by decide) (fun c11 => ?_) (fun c11 => ?_)
      · exact ex_vret (pc := 52) dX5_findWideShifts_52 ⟨wi, by rw [show 897 = k by omega]; exact h_q, h_W, by rw [show 897 = k by omega]; exact hwi, hfr⟩ rfl (Nat.le_refl _)
      · refine ex_aload_n (pc := 14) dX5_findWideShifts_14 rfl ?_
        refine ex_getfield (pc := 15) dX5_findWideShifts_15 fk_X5_21 h_q (by rfl) ?_
        refine ex_iload_n (pc := 18) dX5_findWideShifts_18 rfl ?_
        refine ex_iaload (pc := 19) dX5_findWideShifts_19 h_A (by omega) (by omega) ?_
        have hk1 : ((k : Int)).toNat = k := by omega
        rw [hk1]
        refine ex_callSZ (as := [_]) (pc := 20) dX5_findWideShifts_20 (tX5_hasTwo (a := lb k) (by have := hlb k; omega)) lk_X5_105 ykX5_hasTwo zkX5_hasTwo rfl rfl (Nat.le_of_ble_eq_true rfl) ⟨by decide, by decide⟩ ⟨Nat.le_refl _, Nat.le_refl _⟩ (fun i20 w1 r20 p20 => ?_)
        obtain ⟨e20, p20⟩ := p20
        subst e20
        refine ex_if_eq (pc := 23) dX5_findWideShifts_23 (tgt := 46) (by decide) (fun c23 => ?_) (fun c23 => ?_)
        · refine ex_iinc (L2 := [_, _]) (pc := 46) dX5_findWideShifts_46 rfl rfl (Nat.le_of_ble_eq_true rfl) (by unfold inI; omega) rfl ?_
          refine ex_goto (pc := 49) dX5_findWideShifts_49 (tgt := 7) (by decide) ?_
          have e9 : (List.range (k + 1)).filter (fun k => two (lb k)) = (List.range k).filter (fun k => two (lb k)) := by
            rw [filt_s, if_neg (by rw [two_iff]; intro z; have := p20.mpr z; omega), List.append_nil]
          exact ih (k + 1) (by omega) (by omega) _ wi (by rw [e9]; exact h_q) h_W h_A (by rw [e9]; exact hwi) hfr
        · have e8 := filt_len (fun k => two (lb k)) k
          refine ex_aload_n (pc := 26) dX5_findWideShifts_26 rfl ?_
          refine ex_getfield (pc := 27) dX5_findWideShifts_27 fk_X5_24 h_q (by rfl) ?_
          refine ex_aload_n (pc := 30) dX5_findWideShifts_30 rfl ?_
          refine ex_getfield (pc := 31) dX5_findWideShifts_31 fk_X5_102 h_q (by rfl) ?_
          refine ex_iload_n (pc := 34) dX5_findWideShifts_34 rfl ?_
          refine ex_iastore (pc := 35) dX5_findWideShifts_35 h_W (by omega) (by omega) ?_
          refine ex_up (fun w1 e_w1 => ?_)
          have h1_q := ((congrFun e_w1 q).trans (up_n (by first | assumption | decide | omega))).trans h_q
          have h1_A := ((congrFun e_w1 (q + 4)).trans (up_n (by first | assumption | decide | omega))).trans h_A
          have h1_W := (congrFun e_w1 (q + 5)).trans up_s
          refine ex_aload_n (pc := 36) dX5_findWideShifts_36 rfl ?_
          refine ex_dup (pc := 37) dX5_findWideShifts_37 rfl ?_
          refine ex_getfield (pc := 38) dX5_findWideShifts_38 fk_X5_102 h1_q (by rfl) ?_
          refine ex_iconst (pc := 41) dX5_findWideShifts_41 (by decide) ?_
          refine ex_iadd (pc := 42) dX5_findWideShifts_42 (by unfold inI; omega) ?_
          refine ex_putA (pc := 43) dX5_findWideShifts_43 fk_X5_102 (ty := tyX5 5) (fun _ _ _ h9 => by cases h9; exact ⟨tyX5_ok 5 (by decide), rfl⟩) h1_q (Nat.le_of_ble_eq_true rfl) (fun _ => rfl) (fun _ => rfl) ?_
          refine ex_up (fun w2 e_w2 => ?_)
          have h2_q := (congrFun e_w2 q).trans up_s
          have h2_A := ((congrFun e_w2 (q + 4)).trans (up_n (by first | assumption | decide | omega))).trans h1_A
          have h2_W := ((congrFun e_w2 (q + 5)).trans (up_n (by first | assumption | decide | omega))).trans h1_W
          refine ex_iinc (L2 := [_, _]) (pc := 46) dX5_findWideShifts_46 rfl rfl (Nat.le_of_ble_eq_true rfl) (by unfold inI; omega) rfl ?_
          refine ex_goto (pc := 49) dX5_findWideShifts_49 (tgt := 7) (by decide) ?_
          have e9 : (List.range (k + 1)).filter (fun k => two (lb k)) = (List.range k).filter (fun k => two (lb k)) ++ [k] := by
            rw [filt_s, if_pos (by rw [two_iff]; exact p20.mp (by omega))]
          have e8 := filt_len (fun k => two (lb k)) k
          have e7 : (((List.range k).filter (fun k => two (lb k))).length : Int).toNat = ((List.range k).filter (fun k => two (lb k))).length := by omega
          exact ih (k + 1) (by omega) (by omega) w2 (va_up wi ((List.range k).filter (fun k => two (lb k))).length k) (by rw [e9, List.length_append]; exact h2_q) (by rw [h2_W, e7]) h2_A (by
            intro i hi
            rw [e9] at hi ⊢
            rw [List.length_append] at hi
            by_cases y : i < ((List.range k).filter (fun k => two (lb k))).length
            · rw [getD_app1 y, up_n (by omega)]; exact hwi i y
            · have y2 : i = ((List.range k).filter (fun k => two (lb k))).length := by simp at hi; omega
              rw [y2, getD_app2, up_s]) (fun z h1 h2 => by rw [e_w2, up_n h1, e_w1, up_n h2]; exact hfr z h1 h2)
  refine ex_aload_n (pc := 0) dX5_findWideShifts_0 rfl ?_
  refine ex_iconst (pc := 1) dX5_findWideShifts_1 (by decide) ?_
  refine ex_putA (pc := 2) dX5_findWideShifts_2 fk_X5_102 (ty := tyX5 5) (fun _ _ _ h9 => by cases h9; exact ⟨tyX5_ok 5 (by decide), rfl⟩) h_q (Nat.le_of_ble_eq_true rfl) (fun _ => rfl) (fun _ => rfl) ?_
  refine ex_up (fun w1 e_w1 => ?_)
  have h1_q := (congrFun e_w1 q).trans up_s
  have h1_A := ((congrFun e_w1 (q + 4)).trans (up_n (by first | assumption | decide | omega))).trans h_A
  have h1_W := ((congrFun e_w1 (q + 5)).trans (up_n (by first | assumption | decide | omega))).trans h_W
  refine ex_iconst (pc := 5) dX5_findWideShifts_5 (by decide) ?_
  refine ex_istore_n (L2 := [_, _]) (pc := 6) dX5_findWideShifts_6 rfl (Nat.le_of_ble_eq_true rfl) rfl ?_
  exact loop 898 0 (by omega) (by omega) w1 wi h1_q h1_W h1_A (fun i hi => absurd hi (Nat.not_lt_zero _)) (fun z e1 e2 => by rw [e_w1, up_n e1])

abbrev mX5_isShape : xC := mkC yX5_isShape cX5_isShape 3 (some .boolean) 1 100 0 0
set_option maxHeartbeats 4000000 in
set_option maxRecDepth 100000 in
theorem tX5_isShape {n : Nat} {w : xW} {q : Nat} {wc mo pr : Int} {N : Nat}  {ss : Nat → Int} (h_q : w q = seO q wc mo pr N) (h_S : w (q + 6) = xA 448 ss) (hN : N ≤ 448) {c : Int} : Ctr mX5_isShape [xr q, xi c] n w (pZ (fun v w2 => w2 = w ∧ (v = 1 ↔ ∃ k : Nat, k < N ∧ ss k = c))) := by
  refine Ctr.of ykX5_isShape rfl (Nat.le_of_ble_eq_true rfl) okZ (fun hin hW => ?_)
  show Ex _ _ 0 0 n w 0 [some (xr q), some (xi c), none] []
  have loop : ∀ (d k : Nat), k ≤ N → N + 1 ≤ k + d → (∀ z, z < k → ss z ≠ c) → Ex mX5_isShape (pZ (fun v w2 => w2 = w ∧ (v = 1 ↔ ∃ k : Nat, k < N ∧ ss k = c))) 0 0 n w 2 [some (xr q), some (xi c), some (xi k)] [] := by
    intro d
    induction d with
    | zero => intro k h1 h2; omega
    | succ d ih =>
      intro k h1 h2 hq0
      refine ex_iload_n (pc := 2) dX5_isShape_2 rfl ?_
      refine ex_aload_n (pc := 3) dX5_isShape_3 rfl ?_
      refine ex_getfield (pc := 4) dX5_isShape_4 fk_X5_109 h_q (by rfl) ?_
      refine ex_icmp_ge (pc := 7) dX5_isShape_7 (tgt := 28) (by decide) (fun c7 => ?_) (fun c7 => ?_)
      · refine ex_iconst (pc := 28) dX5_isShape_28 (by decide) ?_
        exact ex_zret (pc := 29) dX5_isShape_29 ⟨Or.inl rfl, rfl, fun z => by omega, fun ⟨z, z1, z2⟩ => absurd z2 (hq0 z (by omega))⟩ rfl (Nat.le_refl _)
      · refine ex_aload_n (pc := 10) dX5_isShape_10 rfl ?_
        refine ex_getfield (pc := 11) dX5_isShape_11 fk_X5_27 h_q (by rfl) ?_
        refine ex_iload_n (pc := 14) dX5_isShape_14 rfl ?_
        have hk1 : ((k : Int)).toNat = k := by omega
        refine ex_iaload (pc := 15) dX5_isShape_15 h_S (by omega) (by omega) ?_
        refine ex_iload_n (pc := 16) dX5_isShape_16 rfl ?_
        refine ex_icmp_ne (pc := 17) dX5_isShape_17 (tgt := 22) (by decide) (fun c17 => ?_) (fun c17 => ?_)
        · refine ex_iinc (L2 := [_, _, _]) (pc := 22) dX5_isShape_22 rfl rfl (Nat.le_of_ble_eq_true rfl) (by unfold inI; omega) rfl ?_
          refine ex_goto (pc := 25) dX5_isShape_25 (tgt := 2) (by decide) ?_
          exact ih (k + 1) (by omega) (by omega) (lt_s hq0 (by rw [← hk1]; exact c17))
        · refine ex_iconst (pc := 20) dX5_isShape_20 (by decide) ?_
          exact ex_zret (pc := 21) dX5_isShape_21 ⟨Or.inr rfl, rfl, fun _ => ⟨k, by omega, by rw [← hk1]; exact c17⟩, fun _ => rfl⟩ rfl (Nat.le_refl _)
  refine ex_iconst (pc := 0) dX5_isShape_0 (by decide) ?_
  refine ex_istore_n (L2 := [_, _, _]) (pc := 1) dX5_isShape_1 rfl (Nat.le_of_ble_eq_true rfl) rfl ?_
  exact loop (N + 1) 0 (by omega) (by omega) (fun z hz => absurd hz (Nat.not_lt_zero _))

abbrev mX5_measureShape : xC := mkC yX5_measureShape cX5_measureShape 9 none 3 300 0 0
set_option maxHeartbeats 4000000 in
set_option maxRecDepth 100000 in
theorem tX5_measureShape {n : Nat} {w : xW} {q : Nat} {mo pr sc : Int} {L : List Nat}  {tf : Nat → Int} {pf : Nat → Int} {nu : Nat → Int} {lb : Nat → Nat} {wi : Nat → Int} {ss : Nat → Int} {sp : Nat → Int} {sv : Nat → Int} (h_q : w q = seO q L.length mo pr sc) (h_T : w (q + 1) = xA 14 tf) (h_P : w (q + 2) = xA 14 pf) (h_N : w (q + 3) = xA 240 nu) (h_A : w (q + 4) = xA 897 (fun i => (lb i : Int))) (h_W : w (q + 5) = xA 897 wi) (h_S : w (q + 6) = xA 448 ss) (h_U : w (q + 7) = xA 448 sp) (h_V : w (q + 8) = xA 448 sv) {sN : Nat} {mt : Nat → Nat → Int} (hmtd : ∀ i k, mt i k = metF tf pf nu mo i (dK k) (eK k)) (hmt : ∀ i k, i < 14 → sN.testBit i = true → mt i k < 14) (hL : ∀ k ∈ L, k < 897) (hLl : L.length ≤ 897) (hwi : ∀ i, i < L.length → wi i = ((L.getD i 0 : Nat) : Int)) (hlb : ∀ k, lb k < 16384) (hb : ∀ k, k < 14 → -300 ≤ tf k ∧ tf k ≤ 300 ∧ -300 ≤ pf k ∧ pf k ≤ 300) {j : Nat} (hj : j < 448) (hset : ss j = (sN : Int)) (hsN : sN < 16384) : Ctr mX5_measureShape [xr q, xi j] n w (pV (fun w2 => w2 = va_up (va_up w (q + 7) (xA 448 (va_up sp j ((pcG lb mt L sN).1 : Nat)))) (q + 8) (xA 448 (va_up sv j ((pcG lb mt L sN).2 : Nat))))) := by
  refine Ctr.of ykX5_measureShape rfl (Nat.le_of_ble_eq_true rfl) okV (fun hin hW => ?_)
  show Ex _ _ 0 0 n w 0 [some (xr q), some (xi j), none, none, none, none, none, none, none] []
  have loop : ∀ (d x : Nat), x ≤ L.length → L.length + 1 ≤ x + d → ∀ (p9 c : Nat) (x6 x7 x8 : Option xV), c < 16384 → p9 ≤ x → (p9, c) = (((L.take x).filter (fun k => lb k &&& sN == sN)).foldl (fun a k => (a.1 + 1, cvG mt sN k 14 a.2)) (0, 0)) → Ex mX5_measureShape (pV (fun w2 => w2 = va_up (va_up w (q + 7) (xA 448 (va_up sp j ((pcG lb mt L sN).1 : Nat)))) (q + 8) (xA 448 (va_up sv j ((pcG lb mt L sN).2 : Nat))))) 0 0 n w 15 [some (xr q), some (xi j), some (xi sN), some (xi p9), some (xi c), some (xi x), x6, x7, x8] [] := by
    intro d
    induction d with
    | zero => intro x h1 h2; omega
    | succ d ih =>
      intro x h1 h2 p9 c x6 x7 x8 hc hp9 hpc
      refine ex_iload (pc := 15) dX5_measureShape_15 rfl ?_
      refine ex_aload_n (pc := 17) dX5_measureShape_17 rfl ?_
      refine ex_getfield (pc := 18) dX5_measureShape_18 fk_X5_102 h_q (by rfl) ?_
      refine ex_icmp_ge (pc := 21) dX5_measureShape_21 (tgt := 120) (by decide) (fun c21 => ?_) (fun c21 => ?_)
      · have hxl : x = L.length := by omega
        rw [hxl, List.take_length] at hpc
        have hpc2 : (p9, c) = pcG lb mt L sN := hpc
        have hkj : ((j : Int)).toNat = j := by omega
        refine ex_aload_n (pc := 120) dX5_measureShape_120 rfl ?_
        refine ex_getfield (pc := 121) dX5_measureShape_121 fk_X5_30 h_q (by rfl) ?_
        refine ex_iload_n (pc := 124) dX5_measureShape_124 rfl ?_
        refine ex_iload_n (pc := 125) dX5_measureShape_125 rfl ?_
        refine ex_iastore (pc := 126) dX5_measureShape_126 h_U (by omega) (by omega) ?_
        refine ex_up (fun w1 e_w1 => ?_)
        have h1_q := ((congrFun e_w1 q).trans (up_n (by first | assumption | decide | omega))).trans h_q
        have h1_T := ((congrFun e_w1 (q + 1)).trans (up_n (by first | assumption | decide | omega))).trans h_T
        have h1_P := ((congrFun e_w1 (q + 2)).trans (up_n (by first | assumption | decide | omega))).trans h_P
        have h1_N := ((congrFun e_w1 (q + 3)).trans (up_n (by first | assumption | decide | omega))).trans h_N
        have h1_A := ((congrFun e_w1 (q + 4)).trans (up_n (by first | assumption | decide | omega))).trans h_A
        have h1_W := ((congrFun e_w1 (q + 5)).trans (up_n (by first | assumption | decide | omega))).trans h_W
        have h1_S := ((congrFun e_w1 (q + 6)).trans (up_n (by first | assumption | decide | omega))).trans h_S
        have h1_U := (congrFun e_w1 (q + 7)).trans up_s
        have h1_V := ((congrFun e_w1 (q + 8)).trans (up_n (by first | assumption | decide | omega))).trans h_V
        refine ex_aload_n (pc := 127) dX5_measureShape_127 rfl ?_
        refine ex_getfield (pc := 128) dX5_measureShape_128 fk_X5_33 h1_q (by rfl) ?_
        refine ex_iload_n (pc := 131) dX5_measureShape_131 rfl ?_
        refine ex_iload (pc := 132) dX5_measureShape_132 rfl ?_
        refine ex_iastore (pc := 134) dX5_measureShape_134 h1_V (by omega) (by omega) ?_
        refine ex_up (fun w2 e_w2 => ?_)
        have h2_q := ((congrFun e_w2 q).trans (up_n (by first | assumption | decide | omega))).trans h1_q
        have h2_T := ((congrFun e_w2 (q + 1)).trans (up_n (by first | assumption | decide | omega))).trans h1_T
        have h2_P := ((congrFun e_w2 (q + 2)).trans (up_n (by first | assumption | decide | omega))).trans h1_P
        have h2_N := ((congrFun e_w2 (q + 3)).trans (up_n (by first | assumption | decide | omega))).trans h1_N
        have h2_A := ((congrFun e_w2 (q + 4)).trans (up_n (by first | assumption | decide | omega))).trans h1_A
        have h2_W := ((congrFun e_w2 (q + 5)).trans (up_n (by first | assumption | decide | omega))).trans h1_W
        have h2_S := ((congrFun e_w2 (q + 6)).trans (up_n (by first | assumption | decide | omega))).trans h1_S
        have h2_U := ((congrFun e_w2 (q + 7)).trans (up_n (by first | assumption | decide | omega))).trans h1_U
        have h2_V := (congrFun e_w2 (q + 8)).trans up_s
        exact ex_vret (pc := 135) dX5_measureShape_135 (by rw [e_w2, e_w1, ← hpc2, hkj]) rfl (Nat.le_refl _)
      · refine ex_aload_n (pc := 24) dX5_measureShape_24 rfl ?_
        refine ex_getfield (pc := 25) dX5_measureShape_25 fk_X5_24 h_q (by rfl) ?_
        refine ex_iload (pc := 28) dX5_measureShape_28 rfl ?_
        refine ex_iaload (pc := 30) dX5_measureShape_30 h_W (by omega) (by omega) ?_
        have hki : ((x : Int)).toNat = x := by omega
        rw [hki]
        have hx : x < L.length := by omega
        have hwx := hwi x hx
        rw [hwx]
        obtain ⟨s, hs⟩ : ∃ s, L[x] = s := ⟨_, rfl⟩
        have hgd : L.getD x 0 = s := by rw [← hs]; simp [List.getD, hx]
        rw [hgd]
        have hs897 : s < 897 := by rw [← hs]; exact hL L[x] (List.getElem_mem hx)
        refine ex_istore (L2 := [_, _, _, _, _, _, _, _, _]) (pc := 31) dX5_measureShape_31 rfl (Nat.le_of_ble_eq_true rfl) rfl ?_
        refine ex_aload_n (pc := 33) dX5_measureShape_33 rfl ?_
        refine ex_getfield (pc := 34) dX5_measureShape_34 fk_X5_21 h_q (by rfl) ?_
        refine ex_iload (pc := 37) dX5_measureShape_37 rfl ?_
        refine ex_iaload (pc := 39) dX5_measureShape_39 h_A (by omega) (by omega) ?_
        have hks : ((s : Int)).toNat = s := by omega
        rw [hks]
        refine ex_iload_n (pc := 40) dX5_measureShape_40 rfl ?_
        refine ex_iand (pc := 41) dX5_measureShape_41 ?_
        refine ex_eq (xand_n (by have := hlb s; omega)) ?_
        refine ex_iload_n (pc := 42) dX5_measureShape_42 rfl ?_
        refine ex_icmp_eq (pc := 43) dX5_measureShape_43 (tgt := 49) (by decide) (fun c43 => ?_) (fun c43 => ?_)
        · have hsub : lb s &&& sN = sN := by omega
          refine ex_iinc (L2 := [_, _, _, _, _, _, _, _, _]) (pc := 49) dX5_measureShape_49 rfl rfl (Nat.le_of_ble_eq_true rfl) (by unfold inI; omega) rfl ?_
          have inner : ∀ (d2 b : Nat), b ≤ 14 → 15 ≤ b + d2 → ∀ (c2 : Nat) (x8 : Option xV), c2 < 16384 → c2 = cvG mt sN s b c → Ex mX5_measureShape (pV (fun w2 => w2 = va_up (va_up w (q + 7) (xA 448 (va_up sp j ((pcG lb mt L sN).1 : Nat)))) (q + 8) (xA 448 (va_up sv j ((pcG lb mt L sN).2 : Nat))))) 0 0 n w 55 [some (xr q), some (xi j), some (xi sN), some (xi (p9 + 1)), some (xi c2), some (xi x), some (xi s), some (xi b), x8] [] := by
            intro d2
            induction d2 with
            | zero => intro b h1 h2; omega
            | succ d2 ih2 =>
              intro b h3 h4 c2 x8 hc2 he2
              refine ex_iload (pc := 55) dX5_measureShape_55 rfl ?_
              refine ex_bipush (pc := 57) dX5_measureShape_57 (by decide) ?_
              refine ex_icmp_ge (pc := 59) dX5_measureShape_59 (tgt := 114) (by decide) (fun c59 => ?_) (fun c59 => ?_)
              · have hb14 : b = 14 := by omega
                subst hb14
                refine ex_iinc (L2 := [_, _, _, _, _, _, _, _, _]) (pc := 114) dX5_measureShape_114 rfl rfl (Nat.le_of_ble_eq_true rfl) (by unfold inI; omega) rfl ?_
                refine ex_goto (pc := 117) dX5_measureShape_117 (tgt := 15) (by decide) ?_
                exact ih (x + 1) (by omega) (by omega) (p9 + 1) c2 _ _ _ hc2 (by omega) (by rw [take_succ_get hx, List.filter_append, List.foldl_append, ← hpc]; simp only [List.filter_cons, List.filter_nil]; rw [if_pos (by rw [hs]; exact beq_iff_eq.mpr hsub)]; show (p9 + 1, c2) = (p9 + 1, cvG mt sN L[x] 14 c); rw [hs, he2])
              · refine ex_iload_n (pc := 62) dX5_measureShape_62 rfl ?_
                refine ex_iload (pc := 63) dX5_measureShape_63 rfl ?_
                refine ex_callSZ (as := [_, _]) (pc := 65) dX5_measureShape_65 (tX5_has (a := sN) (q := b) (by omega) (by omega)) lk_X5_66 ykX5_has zkX5_has rfl rfl (Nat.le_of_ble_eq_true rfl) ⟨by decide, by decide⟩ ⟨Nat.le_refl _, Nat.le_refl _⟩ (fun i65 w1 r65 p65 => ?_)
                obtain ⟨e65, p65⟩ := p65
                subst e65
                refine ex_if_eq (pc := 68) dX5_measureShape_68 (tgt := 90) (by decide) (fun c68 => ?_) (fun c68 => ?_)
                · refine ex_bipush (pc := 90) dX5_measureShape_90 (by decide) ?_
                  refine ex_istore (L2 := [_, _, _, _, _, _, _, _, _]) (pc := 92) dX5_measureShape_92 rfl (Nat.le_of_ble_eq_true rfl) rfl ?_
                  refine ex_iload (pc := 94) dX5_measureShape_94 rfl ?_
                  refine ex_if_lt (pc := 96) dX5_measureShape_96 (tgt := 108) (by decide) (fun c96 => ?_) (fun c96 => by exfalso; omega)
                  refine ex_iinc (L2 := [_, _, _, _, _, _, _, _, _]) (pc := 108) dX5_measureShape_108 rfl rfl (Nat.le_of_ble_eq_true rfl) (by unfold inI; omega) rfl ?_
                  refine ex_goto (pc := 111) dX5_measureShape_111 (tgt := 55) (by decide) ?_
                  have hnot : sN.testBit b = false := by
                    cases hz : sN.testBit b with
                    | false => rfl
                    | true => exfalso; have := p65.mpr hz; omega
                  exact ih2 (b + 1) (by omega) (by omega) c2 _ hc2 (by rw [he2]; rw [cvG_s, if_neg (by simp [hnot])])
                · have hhas := p65.mp (by omega)
                  refine ex_aload_n (pc := 71) dX5_measureShape_71 rfl ?_
                  refine ex_iload (pc := 72) dX5_measureShape_72 rfl ?_
                  refine ex_iload (pc := 74) dX5_measureShape_74 rfl ?_
                  refine ex_callSI (as := [_]) (pc := 76) dX5_measureShape_76 (tX5_timePart (by omega)) lk_X5_119 ykX5_timePart zkX5_timePart rfl rfl (Nat.le_of_ble_eq_true rfl) ⟨by decide, by decide⟩ ⟨Nat.le_refl _, Nat.le_refl _⟩ (fun i76 w1 r76 p76 => ?_)
                  obtain ⟨e76, p76⟩ := p76
                  subst e76
                  subst p76
                  refine ex_iload (pc := 79) dX5_measureShape_79 rfl ?_
                  refine ex_callSI (as := [_]) (pc := 81) dX5_measureShape_81 (tX5_pitchPart (by omega)) lk_X5_122 ykX5_pitchPart zkX5_pitchPart rfl rfl (Nat.le_of_ble_eq_true rfl) ⟨by decide, by decide⟩ ⟨Nat.le_refl _, Nat.le_refl _⟩ (fun i81 w1 r81 p81 => ?_)
                  obtain ⟨e81, p81⟩ := p81
                  subst e81
                  subst p81
                  refine ex_callVI (as := [_, _, _]) (pc := 84) dX5_measureShape_84 (tX5_met h_q h_T h_P h_N (a := b) (by omega) hb (by omega)) lk_X5_125 ykX5_met vkX5_met h_q rfl rfl rfl (Nat.le_of_ble_eq_true rfl) ⟨by decide, by decide⟩ ⟨Nat.le_refl _, Nat.le_refl _⟩ (fun i84 w1 r84 p84 => ?_)
                  obtain ⟨e84, p84⟩ := p84
                  subst e84
                  refine ex_goto (pc := 87) dX5_measureShape_87 (tgt := 92) (by decide) ?_
                  refine ex_istore (L2 := [_, _, _, _, _, _, _, _, _]) (pc := 92) dX5_measureShape_92 rfl (Nat.le_of_ble_eq_true rfl) rfl ?_
                  refine ex_iload (pc := 94) dX5_measureShape_94 rfl ?_
                  refine ex_if_lt (pc := 96) dX5_measureShape_96 (tgt := 108) (by decide) (fun c96 => ?_) (fun c96 => ?_)
                  · refine ex_iinc (L2 := [_, _, _, _, _, _, _, _, _]) (pc := 108) dX5_measureShape_108 rfl rfl (Nat.le_of_ble_eq_true rfl) (by unfold inI; omega) rfl ?_
                    refine ex_goto (pc := 111) dX5_measureShape_111 (tgt := 55) (by decide) ?_
                    have e104 : i84 = mt b s := p84.trans (hmtd b s).symm
                    exact ih2 (b + 1) (by omega) (by omega) c2 _ hc2 (by rw [he2]; rw [cvG_s, if_neg (by simp only [Bool.and_eq_true, decide_eq_true_eq]; omega)])
                  · refine ex_iload (pc := 99) dX5_measureShape_99 rfl ?_
                    refine ex_iconst (pc := 101) dX5_measureShape_101 (by decide) ?_
                    refine ex_iload (pc := 102) dX5_measureShape_102 rfl ?_
                    refine ex_ishl (pc := 104) dX5_measureShape_104 ?_
                    have hm14 := hmt b s (by omega) hhas
                    have e104 : i84 = mt b s := p84.trans (hmtd b s).symm
                    have hmn : ((i84.toNat : Nat) : Int) = i84 := by omega
                    rw [← hmn]
                    refine ex_eq (xshl_n i84.toNat (by omega)) ?_
                    refine ex_ior (pc := 105) dX5_measureShape_105 ?_
                    refine ex_eq (xor_n (by omega) (show 2 ^ i84.toNat < 2 ^ 31 from Nat.pow_lt_pow_right (by decide) (by omega))) ?_
                    refine ex_istore (L2 := [_, _, _, _, _, _, _, _, _]) (pc := 106) dX5_measureShape_106 rfl (Nat.le_of_ble_eq_true rfl) rfl ?_
                    refine ex_iinc (L2 := [_, _, _, _, _, _, _, _, _]) (pc := 108) dX5_measureShape_108 rfl rfl (Nat.le_of_ble_eq_true rfl) (by unfold inI; omega) rfl ?_
                    refine ex_goto (pc := 111) dX5_measureShape_111 (tgt := 55) (by decide) ?_
                    have hlt : c2 ||| 2 ^ i84.toNat < 16384 := Nat.or_lt_two_pow (n := 14) hc2 (Nat.pow_lt_pow_right (by decide) (by omega))
                    exact ih2 (b + 1) (by omega) (by omega) _ _ hlt (by rw [he2, e104]; rw [cvG_s, if_pos (by simp only [Bool.and_eq_true, decide_eq_true_eq]; exact ⟨hhas, by omega⟩)])
          refine ex_iconst (pc := 52) dX5_measureShape_52 (by decide) ?_
          refine ex_istore (L2 := [_, _, _, _, _, _, _, _, _]) (pc := 53) dX5_measureShape_53 rfl (Nat.le_of_ble_eq_true rfl) rfl ?_
          exact inner 15 0 (by omega) (by omega) c _ hc rfl
        · refine ex_goto (pc := 46) dX5_measureShape_46 (tgt := 114) (by decide) ?_
          refine ex_iinc (L2 := [_, _, _, _, _, _, _, _, _]) (pc := 114) dX5_measureShape_114 rfl rfl (Nat.le_of_ble_eq_true rfl) (by unfold inI; omega) rfl ?_
          refine ex_goto (pc := 117) dX5_measureShape_117 (tgt := 15) (by decide) ?_
          exact ih (x + 1) (by omega) (by omega) p9 c _ _ _ hc (by omega) (by rw [take_succ_get hx, List.filter_append, List.foldl_append, ← hpc]; simp only [List.filter_cons, List.filter_nil]; rw [if_neg (by rw [hs]; intro z; exact c43 (by rw [beq_iff_eq.mp z]))]; rfl)
  refine ex_aload_n (pc := 0) dX5_measureShape_0 rfl ?_
  refine ex_getfield (pc := 1) dX5_measureShape_1 fk_X5_27 h_q (by rfl) ?_
  refine ex_iload_n (pc := 4) dX5_measureShape_4 rfl ?_
  refine ex_iaload (pc := 5) dX5_measureShape_5 h_S (by omega) (by omega) ?_
  have hkj : ((j : Int)).toNat = j := by omega
  rw [hkj, hset]
  refine ex_istore_n (L2 := [_, _, _, _, _, _, _, _, _]) (pc := 6) dX5_measureShape_6 rfl (Nat.le_of_ble_eq_true rfl) rfl ?_
  refine ex_iconst (pc := 7) dX5_measureShape_7 (by decide) ?_
  refine ex_istore_n (L2 := [_, _, _, _, _, _, _, _, _]) (pc := 8) dX5_measureShape_8 rfl (Nat.le_of_ble_eq_true rfl) rfl ?_
  refine ex_iconst (pc := 9) dX5_measureShape_9 (by decide) ?_
  refine ex_istore (L2 := [_, _, _, _, _, _, _, _, _]) (pc := 10) dX5_measureShape_10 rfl (Nat.le_of_ble_eq_true rfl) rfl ?_
  refine ex_iconst (pc := 12) dX5_measureShape_12 (by decide) ?_
  refine ex_istore (L2 := [_, _, _, _, _, _, _, _, _]) (pc := 13) dX5_measureShape_13 rfl (Nat.le_of_ble_eq_true rfl) rfl ?_
  exact loop (L.length + 1) 0 (by omega) (by omega) 0 0 _ _ _ (by omega) (by omega) rfl

