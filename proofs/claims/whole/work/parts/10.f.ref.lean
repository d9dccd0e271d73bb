abbrev mX7_put : xC := mkC yX7_put cX7_put 3 (some .int) 3 300 0 0
set_option maxHeartbeats 4000000 in
set_option maxRecDepth 100000 in
theorem tX7_put {n : Nat} {w : xW} {s : St} (hS : RefS w s) {x y : Int} : Ctr mX7_put [xr 55, xi x, xi y] n w (pI (fun v w2 => v = (opPut s x y).1 ∧ RefS w2 (opPut s x y).2 ∧ FrR w w2)) := by
  refine Ctr.of ykX7_put rfl (Nat.le_of_ble_eq_true rfl) okI (fun hin hW => ?_)
  have hS0 := hS
  obtain ⟨hv, hsc, ⟨pl, mn, pq, cv, sh, be, bg, bc, bp, pa, re, px, h_o⟩, ⟨f, h_n, hR⟩, ⟨g, h_p, hU⟩, hu8, ⟨kf, h_k, hK⟩, hk2, ⟨t, h_t, ht⟩, hlen⟩ := hS
  have hl : s.1.length ≤ 14 := hv.1.2.2.1
  have hl1 : 1 ≤ s.1.length := hv.1.2.1
  have hcd : Cod s.1 := hv.1.1
  show Ex _ _ 0 0 n w 0 [some (xr 55), some (xi x), some (xi y)] []
  refine ex_iload_n (pc := 0) dX7_put_0 rfl ?_
  refine ex_iload_n (pc := 1) dX7_put_1 rfl ?_
  refine ex_callSZ (as := [_, _]) (pc := 2) dX7_put_2 (tX7_isThere) lk_X7_96 ykX7_isThere zkX7_isThere rfl rfl (Nat.le_of_ble_eq_true rfl) ⟨by decide, by decide⟩ ⟨Nat.le_refl _, Nat.le_refl _⟩ (fun i2 w1 r2 p2 => ?_)
  obtain ⟨e2, p2⟩ := p2
  rw [e2]
  refine ex_if_ne (pc := 5) dX7_put_5 (tgt := 10) (by decide) (fun c5 => ?_) (fun c5 => ?_)
  · refine ex_aload_n (pc := 10) dX7_put_10 rfl ?_
    refine ex_getfield (pc := 11) dX7_put_11 fk_X7_7 h_o (by rfl) ?_
    refine ex_iload_n (pc := 14) dX7_put_14 rfl ?_
    refine ex_iload_n (pc := 15) dX7_put_15 rfl ?_
    refine ex_callSI (as := [_, _, _]) (pc := 16) dX7_put_16 (tX7_numberOf h_n hR hl hcd (by omega)) lk_X7_76 ykX7_numberOf zkX7_numberOf rfl rfl (Nat.le_of_ble_eq_true rfl) ⟨by decide, by decide⟩ ⟨Nat.le_refl _, Nat.le_refl _⟩ (fun i16 w1 r16 p16 => ?_)
    obtain ⟨e16, p16⟩ := p16
    rw [e16]
    refine ex_bipush (pc := 19) dX7_put_19 (by decide) ?_
    have hnr := numL_rng (x * 12 + y) s.1
    refine ex_icmp_eq (pc := 21) dX7_put_21 (tgt := 27) (by decide) (fun c21 => ?_) (fun c21 => ?_)
    · refine ex_aload_n (pc := 27) dX7_put_27 rfl ?_
      refine ex_getfield (pc := 28) dX7_put_28 fk_X7_7 h_o (by rfl) ?_
      refine ex_iconst (pc := 31) dX7_put_31 (by decide) ?_
      refine ex_iaload (pc := 32) dX7_put_32 h_n (by omega) (by omega) ?_
      have hz0 : f (0 : Int).toNat = (s.1.length : Int) := hR.1
      rw [hz0]
      refine ex_bipush (pc := 33) dX7_put_33 (by decide) ?_
      refine ex_icmp_ne (pc := 35) dX7_put_35 (tgt := 41) (by decide) (fun c35 => ?_) (fun c35 => ?_)
      · refine ex_aload_n (pc := 41) dX7_put_41 rfl ?_
        refine ex_callVV (as := []) (pc := 42) dX7_put_42 (tX7_notes h_o h_n hR hl h_p hU hu8 hv.2.1) lk_X7_100 ykX7_notes vkX7_notes h_o rfl rfl rfl (Nat.le_of_ble_eq_true rfl) ⟨by decide, by decide⟩ ⟨Nat.le_refl _, Nat.le_refl _⟩ (fun w1 p42 => ?_)
        obtain ⟨g2, h1_o, h1_p, hU2, hfA⟩ := p42
        have h1_n := (hfA 56 (by decide) (by decide)).trans h_n
        have h1_k := (hfA 60 (by decide) (by decide)).trans h_k
        have h1_t := (hfA 61 (by decide) (by decide)).trans h_t
        refine ex_aload_n (pc := 45) dX7_put_45 rfl ?_
        refine ex_getfield (pc := 46) dX7_put_46 fk_X7_7 h1_o (by rfl) ?_
        refine ex_iload_n (pc := 49) dX7_put_49 rfl ?_
        refine ex_iload_n (pc := 50) dX7_put_50 rfl ?_
        refine ex_callSI (as := [_, _, _]) (pc := 51) dX7_put_51 (tX7_puts h1_n hR (by omega) hcd (by omega)) lk_X7_53 ykX7_puts zkX7_puts rfl rfl (Nat.le_of_ble_eq_true rfl) ⟨by decide, by decide⟩ ⟨Nat.le_refl _, Nat.le_refl _⟩ (fun i51 w2 r51 p51 => ?_)
        obtain ⟨ev51, e51⟩ := p51
        have h2_o := ((congrFun e51 55).trans (up_n (by decide))).trans h1_o
        have h2_n := (congrFun e51 56).trans up_s
        have h2_p := ((congrFun e51 59).trans (up_n (by decide))).trans h1_p
        have h2_k := ((congrFun e51 60).trans (up_n (by decide))).trans h1_k
        have h2_t := ((congrFun e51 61).trans (up_n (by decide))).trans h1_t
        have hokn : okP (insL (x * 12 + y) s.1, s.2.1) := ⟨Cod_ins hcd (by omega), by show 1 ≤ (insL _ _).length; rw [insL_len]; omega, by show (insL _ _).length ≤ 14; rw [insL_len]; omega, hv.1.2.2.2⟩
        exact ex_iret (pc := 54) dX7_put_54 (by unfold opPut; rw [if_neg (by omega), if_neg (by omega), if_neg (by omega)]; exact ⟨ev51, RefS.fin hsc (fun z z1 z2 z3 z4 z5 => by simp only [e51, up_n z1, up_n z2, up_n z3, up_n z4, up_n z5]; exact hfA z z1 z3) (hv.push hokn) h2_o h2_n (putF_row hR (by omega) (by omega)) h2_p (hU2) (pushU_len hu8) h2_k (hK) (hk2) h2_t (ht) (hlen)⟩) rfl (Nat.le_refl _)
      · refine ex_bipush (pc := 38) dX7_put_38 (by decide) ?_
        exact ex_iret (pc := 40) dX7_put_40 ⟨by unfold opPut; rw [if_neg (by omega), if_neg (by omega), if_pos (by omega)], by unfold opPut; rw [if_neg (by omega), if_neg (by omega), if_pos (by omega)]; exact hS0, fun _ _ => rfl⟩ rfl (Nat.le_refl _)
    · refine ex_bipush (pc := 24) dX7_put_24 (by decide) ?_
      exact ex_iret (pc := 26) dX7_put_26 ⟨by unfold opPut; rw [if_neg (by omega), if_pos (by omega)], by unfold opPut; rw [if_neg (by omega), if_pos (by omega)]; exact hS0, fun _ _ => rfl⟩ rfl (Nat.le_refl _)
  · refine ex_iconst (pc := 8) dX7_put_8 (by decide) ?_
    exact ex_iret (pc := 9) dX7_put_9 ⟨by unfold opPut; rw [if_pos (by omega)], by unfold opPut; rw [if_pos (by omega)]; exact hS0, fun _ _ => rfl⟩ rfl (Nat.le_refl _)

abbrev mX7_take : xC := mkC yX7_take cX7_take 2 (some .int) 3 300 0 0
set_option maxHeartbeats 4000000 in
set_option maxRecDepth 100000 in
theorem tX7_take {n : Nat} {w : xW} {s : St} (hS : RefS w s) {a : Int} : Ctr mX7_take [xr 55, xi a] n w (pI (fun v w2 => v = (opTake s a).1 ∧ RefS w2 (opTake s a).2 ∧ FrR w w2)) := by
  refine Ctr.of ykX7_take rfl (Nat.le_of_ble_eq_true rfl) okI (fun hin hW => ?_)
  have hS0 := hS
  obtain ⟨hv, hsc, ⟨pl, mn, pq, cv, sh, be, bg, bc, bp, pa, re, px, h_o⟩, ⟨f, h_n, hR⟩, ⟨g, h_p, hU⟩, hu8, ⟨kf, h_k, hK⟩, hk2, ⟨t, h_t, ht⟩, hlen⟩ := hS
  have hl : s.1.length ≤ 14 := hv.1.2.2.1
  have hl1 : 1 ≤ s.1.length := hv.1.2.1
  have hcd : Cod s.1 := hv.1.1
  show Ex _ _ 0 0 n w 0 [some (xr 55), some (xi a)] []
  refine ex_aload_n (pc := 0) dX7_take_0 rfl ?_
  refine ex_iload_n (pc := 1) dX7_take_1 rfl ?_
  refine ex_callVZ (as := [_]) (pc := 2) dX7_take_2 (tX7_isNote h_o h_n hR hl) lk_X7_92 ykX7_isNote vkX7_isNote h_o rfl rfl rfl (Nat.le_of_ble_eq_true rfl) ⟨by decide, by decide⟩ ⟨Nat.le_refl _, Nat.le_refl _⟩ (fun i2 w1 r2 p2 => ?_)
  obtain ⟨e2, p2⟩ := p2
  rw [e2]
  refine ex_if_ne (pc := 5) dX7_take_5 (tgt := 10) (by decide) (fun c5 => ?_) (fun c5 => ?_)
  · refine ex_aload_n (pc := 10) dX7_take_10 rfl ?_
    refine ex_getfield (pc := 11) dX7_take_11 fk_X7_7 h_o (by rfl) ?_
    refine ex_iconst (pc := 14) dX7_take_14 (by decide) ?_
    refine ex_iaload (pc := 15) dX7_take_15 h_n (by omega) (by omega) ?_
    have hz0 : f (0 : Int).toNat = (s.1.length : Int) := hR.1
    rw [hz0]
    refine ex_iconst (pc := 16) dX7_take_16 (by decide) ?_
    refine ex_icmp_ne (pc := 17) dX7_take_17 (tgt := 23) (by decide) (fun c17 => ?_) (fun c17 => ?_)
    · obtain ⟨j, hj⟩ : ∃ j : Nat, a = j := ⟨a.toNat, by omega⟩
      subst hj
      have hkj : ((j : Int)).toNat = j := by omega
      refine ex_aload_n (pc := 23) dX7_take_23 rfl ?_
      refine ex_callVV (as := []) (pc := 24) dX7_take_24 (tX7_notes h_o h_n hR hl h_p hU hu8 hv.2.1) lk_X7_100 ykX7_notes vkX7_notes h_o rfl rfl rfl (Nat.le_of_ble_eq_true rfl) ⟨by decide, by decide⟩ ⟨Nat.le_refl _, Nat.le_refl _⟩ (fun w1 p24 => ?_)
      obtain ⟨g2, h1_o, h1_p, hU2, hfA⟩ := p24
      have h1_n := (hfA 56 (by decide) (by decide)).trans h_n
      have h1_k := (hfA 60 (by decide) (by decide)).trans h_k
      have h1_t := (hfA 61 (by decide) (by decide)).trans h_t
      refine ex_aload_n (pc := 27) dX7_take_27 rfl ?_
      refine ex_getfield (pc := 28) dX7_take_28 fk_X7_7 h1_o (by rfl) ?_
      refine ex_iload_n (pc := 31) dX7_take_31 rfl ?_
      refine ex_callSV (as := [_, _]) (pc := 32) dX7_take_32 (tX7_leaves h1_n hR hl (j := j) (by omega)) lk_X7_103 ykX7_leaves zkX7_leaves rfl rfl (Nat.le_of_ble_eq_true rfl) ⟨by decide, by decide⟩ ⟨Nat.le_refl _, Nat.le_refl _⟩ (fun w2 p32 => ?_)
      have h2_o := ((congrFun p32 55).trans (up_n (by decide))).trans h1_o
      have h2_n := (congrFun p32 56).trans up_s
      have h2_p := ((congrFun p32 59).trans (up_n (by decide))).trans h1_p
      have h2_k := ((congrFun p32 60).trans (up_n (by decide))).trans h1_k
      have h2_t := ((congrFun p32 61).trans (up_n (by decide))).trans h1_t
      have hle : (s.1.eraseIdx j).length = s.1.length - 1 := List.length_eraseIdx_of_lt (by omega)
      have hokn : okP (s.1.eraseIdx j, s.2.1) := ⟨Cod_del hcd (by omega), by show 1 ≤ (s.1.eraseIdx j).length; omega, by show (s.1.eraseIdx j).length ≤ 14; omega, hv.1.2.2.2⟩
      refine ex_aload_n (pc := 35) dX7_take_35 rfl ?_
      refine ex_getfield (pc := 36) dX7_take_36 fk_X7_7 h2_o (by rfl) ?_
      refine ex_iconst (pc := 39) dX7_take_39 (by decide) ?_
      refine ex_iaload (pc := 40) dX7_take_40 h2_n (by omega) (by omega) ?_
      exact ex_iret (pc := 41) dX7_take_41 (by unfold opTake; rw [if_neg (by omega), if_neg (by omega), hkj]; exact ⟨rfl, RefS.fin hsc (fun z z1 z2 z3 z4 z5 => by simp only [p32, up_n z1, up_n z2, up_n z3, up_n z4, up_n z5]; exact hfA z z1 z3) (hv.push hokn) h2_o h2_n (delR_row hR (by omega) hl) h2_p (hU2) (pushU_len hu8) h2_k (hK) (hk2) h2_t (ht) (hlen)⟩) rfl (Nat.le_refl _)
    · refine ex_bipush (pc := 20) dX7_take_20 (by decide) ?_
      exact ex_iret (pc := 22) dX7_take_22 ⟨by unfold opTake; rw [if_neg (by omega), if_pos (by omega)], by unfold opTake; rw [if_neg (by omega), if_pos (by omega)]; exact hS0, fun _ _ => rfl⟩ rfl (Nat.le_refl _)
  · refine ex_iconst (pc := 8) dX7_take_8 (by decide) ?_
    exact ex_iret (pc := 9) dX7_take_9 ⟨by unfold opTake; rw [if_pos (by omega)], by unfold opTake; rw [if_pos (by omega)]; exact hS0, fun _ _ => rfl⟩ rfl (Nat.le_refl _)

abbrev mX7_mode : xC := mkC yX7_mode cX7_mode 3 (some .int) 3 300 0 0
set_option maxHeartbeats 4000000 in
set_option maxRecDepth 100000 in
theorem tX7_mode {n : Nat} {w : xW} {s : St} (hS : RefS w s) {m : Int} : Ctr mX7_mode [xr 55, xi m] n w (pI (fun v w2 => v = (opMode s m).1 ∧ RefS w2 (opMode s m).2 ∧ FrR w w2)) := by
  refine Ctr.of ykX7_mode rfl (Nat.le_of_ble_eq_true rfl) okI (fun hin hW => ?_)
  have hS0 := hS
  obtain ⟨hv, hsc, ⟨pl, mn, pq, cv, sh, be, bg, bc, bp, pa, re, px, h_o⟩, ⟨f, h_n, hR⟩, ⟨g, h_p, hU⟩, hu8, ⟨kf, h_k, hK⟩, hk2, ⟨t, h_t, ht⟩, hlen⟩ := hS
  have hl : s.1.length ≤ 14 := hv.1.2.2.1
  have hl1 : 1 ≤ s.1.length := hv.1.2.1
  have hcd : Cod s.1 := hv.1.1
  show Ex _ _ 0 0 n w 0 [some (xr 55), some (xi m), none] []
  refine ex_iload_n (pc := 0) dX7_mode_0 rfl ?_
  refine ex_iconst (pc := 1) dX7_mode_1 (by decide) ?_
  refine ex_iconst (pc := 2) dX7_mode_2 (by decide) ?_
  refine ex_callSZ (as := [_, _, _]) (pc := 3) dX7_mode_3 (tX7_in) lk_X7_68 ykX7_in zkX7_in rfl rfl (Nat.le_of_ble_eq_true rfl) ⟨by decide, by decide⟩ ⟨Nat.le_refl _, Nat.le_refl _⟩ (fun i3 w1 r3 p3 => ?_)
  obtain ⟨e3, p3⟩ := p3
  rw [e3]
  refine ex_if_ne (pc := 6) dX7_mode_6 (tgt := 11) (by decide) (fun c6 => ?_) (fun c6 => ?_)
  · refine ex_aload_n (pc := 11) dX7_mode_11 rfl ?_
    refine ex_getfield (pc := 12) dX7_mode_12 fk_X7_7 h_o (by rfl) ?_
    refine ex_iconst (pc := 15) dX7_mode_15 (by decide) ?_
    refine ex_iaload (pc := 16) dX7_mode_16 h_n (by omega) (by omega) ?_
    have hz1 : f (1 : Int).toNat = s.2.1 := hR.2.1
    rw [hz1]
    refine ex_istore_n (L2 := [_, _, _]) (pc := 17) dX7_mode_17 rfl (Nat.le_of_ble_eq_true rfl) rfl ?_
    refine ex_iload_n (pc := 18) dX7_mode_18 rfl ?_
    refine ex_iload_n (pc := 19) dX7_mode_19 rfl ?_
    refine ex_icmp_ne (pc := 20) dX7_mode_20 (tgt := 26) (by decide) (fun c20 => ?_) (fun c20 => ?_)
    · refine ex_aload_n (pc := 26) dX7_mode_26 rfl ?_
      refine ex_callVV (as := []) (pc := 27) dX7_mode_27 (tX7_notes h_o h_n hR hl h_p hU hu8 hv.2.1) lk_X7_100 ykX7_notes vkX7_notes h_o rfl rfl rfl (Nat.le_of_ble_eq_true rfl) ⟨by decide, by decide⟩ ⟨Nat.le_refl _, Nat.le_refl _⟩ (fun w1 p27 => ?_)
      obtain ⟨g2, h1_o, h1_p, hU2, hfA⟩ := p27
      have h1_n := (hfA 56 (by decide) (by decide)).trans h_n
      have h1_k := (hfA 60 (by decide) (by decide)).trans h_k
      have h1_t := (hfA 61 (by decide) (by decide)).trans h_t
      refine ex_aload_n (pc := 30) dX7_mode_30 rfl ?_
      refine ex_getfield (pc := 31) dX7_mode_31 fk_X7_7 h1_o (by rfl) ?_
      refine ex_iconst (pc := 34) dX7_mode_34 (by decide) ?_
      refine ex_iload_n (pc := 35) dX7_mode_35 rfl ?_
      refine ex_iastore (pc := 36) dX7_mode_36 h1_n (by omega) (by omega) ?_
      refine ex_up (fun w2 e_w2 => ?_)
      have h2_o := ((congrFun e_w2 55).trans (up_n (by first | assumption | decide | omega))).trans h1_o
      have h2_n := (congrFun e_w2 56).trans up_s
      have h2_p := ((congrFun e_w2 59).trans (up_n (by first | assumption | decide | omega))).trans h1_p
      have h2_k := ((congrFun e_w2 60).trans (up_n (by first | assumption | decide | omega))).trans h1_k
      have h2_t := ((congrFun e_w2 61).trans (up_n (by first | assumption | decide | omega))).trans h1_t
      refine ex_iload_n (pc := 37) dX7_mode_37 rfl ?_
      exact ex_iret (pc := 38) dX7_mode_38 (by unfold opMode; rw [if_neg (by omega), if_neg (by omega)]; exact ⟨rfl, RefS.fin hsc (fun z z1 z2 z3 z4 z5 => by simp only [e_w2, up_n z1, up_n z2, up_n z3, up_n z4, up_n z5]; exact hfA z z1 z3) (hv.push ⟨hcd, hl1, hl, (by show 0 ≤ m; omega), (by show m ≤ 2; omega)⟩) h2_o h2_n (modeR hR) h2_p (hU2) (pushU_len hu8) h2_k (hK) (hk2) h2_t (ht) (hlen)⟩) rfl (Nat.le_refl _)
    · refine ex_bipush (pc := 23) dX7_mode_23 (by decide) ?_
      exact ex_iret (pc := 25) dX7_mode_25 ⟨by unfold opMode; rw [if_neg (by omega), if_pos (by omega)], by unfold opMode; rw [if_neg (by omega), if_pos (by omega)]; exact hS0, fun _ _ => rfl⟩ rfl (Nat.le_refl _)
  · refine ex_iconst (pc := 9) dX7_mode_9 (by decide) ?_
    exact ex_iret (pc := 10) dX7_mode_10 ⟨by unfold opMode; rw [if_pos (by omega)], by unfold opMode; rw [if_pos (by omega)]; exact hS0, fun _ _ => rfl⟩ rfl (Nat.le_refl _)

abbrev mX7_shift : xC := mkC yX7_shift cX7_shift 6 (some .int) 3 300 0 0
set_option maxHeartbeats 4000000 in
set_option maxRecDepth 100000 in
theorem tX7_shift {n : Nat} {w : xW} {s : St} (hS : RefS w s) {a d e : Int} : Ctr mX7_shift [xr 55, xi a, xi d, xi e] n w (pI (fun v w2 => v = (opShift s a d e).1 ∧ RefS w2 (opShift s a d e).2 ∧ FrR w w2)) := by
  refine Ctr.of ykX7_shift rfl (Nat.le_of_ble_eq_true rfl) okI (fun hin hW => ?_)
  have hS0 := hS
  obtain ⟨hv, hsc, ⟨pl, mn, pq, cv, sh, be, bg, bc, bp, pa, re, px, h_o⟩, ⟨f, h_n, hR⟩, ⟨g, h_p, hU⟩, hu8, ⟨kf, h_k, hK⟩, hk2, ⟨t, h_t, ht⟩, hlen⟩ := hS
  have hl : s.1.length ≤ 14 := hv.1.2.2.1
  have hl1 : 1 ≤ s.1.length := hv.1.2.1
  have hcd : Cod s.1 := hv.1.1
  show Ex _ _ 0 0 n w 0 [some (xr 55), some (xi a), some (xi d), some (xi e), none, none] []
  refine ex_aload_n (pc := 0) dX7_shift_0 rfl ?_
  refine ex_iload_n (pc := 1) dX7_shift_1 rfl ?_
  refine ex_callVZ (as := [_]) (pc := 2) dX7_shift_2 (tX7_isNote h_o h_n hR hl) lk_X7_92 ykX7_isNote vkX7_isNote h_o rfl rfl rfl (Nat.le_of_ble_eq_true rfl) ⟨by decide, by decide⟩ ⟨Nat.le_refl _, Nat.le_refl _⟩ (fun i2 w1 r2 p2 => ?_)
  obtain ⟨e2, p2⟩ := p2
  rw [e2]
  refine ex_if_eq (pc := 5) dX7_shift_5 (tgt := 25) (by decide) (fun c5 => ?_) (fun c5 => ?_)
  · refine ex_iconst (pc := 25) dX7_shift_25 (by decide) ?_
    exact ex_iret (pc := 26) dX7_shift_26 ⟨by unfold opShift; rw [if_pos (by omega)], by unfold opShift; rw [if_pos (by omega)]; exact hS0, fun _ _ => rfl⟩ rfl (Nat.le_refl _)
  · refine ex_aload_n (pc := 8) dX7_shift_8 rfl ?_
    refine ex_iload_n (pc := 9) dX7_shift_9 rfl ?_
    refine ex_iload_n (pc := 10) dX7_shift_10 rfl ?_
    refine ex_callVZ (as := [_, _]) (pc := 11) dX7_shift_11 (tX7_isShift h_o h_n hR hl) lk_X7_107 ykX7_isShift vkX7_isShift h_o rfl rfl rfl (Nat.le_of_ble_eq_true rfl) ⟨by decide, by decide⟩ ⟨Nat.le_refl _, Nat.le_refl _⟩ (fun i11 w1 r11 p11 => ?_)
    obtain ⟨e11, p11⟩ := p11
    rw [e11]
    refine ex_if_eq (pc := 14) dX7_shift_14 (tgt := 25) (by decide) (fun c14 => ?_) (fun c14 => ?_)
    · refine ex_iconst (pc := 25) dX7_shift_25 (by decide) ?_
      exact ex_iret (pc := 26) dX7_shift_26 ⟨by unfold opShift; rw [if_neg (by omega), if_pos (by intro z; have := p11.mpr z.1; omega)], by unfold opShift; rw [if_neg (by omega), if_pos (by intro z; have := p11.mpr z.1; omega)]; exact hS0, fun _ _ => rfl⟩ rfl (Nat.le_refl _)
    · refine ex_iload_n (pc := 17) dX7_shift_17 rfl ?_
      refine ex_if_ne (pc := 18) dX7_shift_18 (tgt := 27) (by decide) (fun c18 => ?_) (fun c18 => ?_)
      · have hsP := p11.mp (by omega)
        have hmv : shC s.2.1 d e ∧ (d ≠ 0 ∨ e ≠ 0) := ⟨hsP, by omega⟩
        have hsh : -19 ≤ d ∧ d ≤ 19 ∧ -11 ≤ e ∧ e ≤ 11 := by have h9 := hmv.1; unfold shC at h9; split at h9 <;> omega
        obtain ⟨j, hj⟩ : ∃ j : Nat, a = j := ⟨a.toNat, by omega⟩
        subst hj
        have hkj : ((j : Int)).toNat = j := by omega
        have h9 := hR.2.2 j (by omega)
        have e2 : f ((2 : Int) + (j : Int)).toNat = tmL s.1 ((j : Int)).toNat := by rw [hkj, ← h9.1, show ((2 : Int) + (j : Int)).toNat = 0 + 2 + j by omega]
        have e16 : f ((16 : Int) + (j : Int)).toNat = ptL s.1 ((j : Int)).toNat := by rw [hkj, ← h9.2, show ((16 : Int) + (j : Int)).toNat = 0 + 16 + j by omega]
        have hck := hcd j (by omega)
        have htm : 0 ≤ tmL s.1 ((j : Int)).toNat ∧ tmL s.1 ((j : Int)).toNat < 20 ∧ 0 ≤ ptL s.1 ((j : Int)).toNat ∧ ptL s.1 ((j : Int)).toNat < 12 := by rw [hkj]; unfold tmL ptL; omega
        refine ex_aload_n (pc := 27) dX7_shift_27 rfl ?_
        refine ex_getfield (pc := 28) dX7_shift_28 fk_X7_7 h_o (by rfl) ?_
        refine ex_iconst (pc := 31) dX7_shift_31 (by decide) ?_
        refine ex_iload_n (pc := 32) dX7_shift_32 rfl ?_
        refine ex_iadd (pc := 33) dX7_shift_33 (by unfold inI; omega) ?_
        refine ex_iaload (pc := 34) dX7_shift_34 h_n (by omega) (by omega) ?_
        rw [e2]
        refine ex_iload_n (pc := 35) dX7_shift_35 rfl ?_
        refine ex_iadd (pc := 36) dX7_shift_36 (by unfold inI; omega) ?_
        refine ex_istore (L2 := [_, _, _, _, _, _]) (pc := 37) dX7_shift_37 rfl (Nat.le_of_ble_eq_true rfl) rfl ?_
        refine ex_aload_n (pc := 39) dX7_shift_39 rfl ?_
        refine ex_getfield (pc := 40) dX7_shift_40 fk_X7_7 h_o (by rfl) ?_
        refine ex_bipush (pc := 43) dX7_shift_43 (by decide) ?_
        refine ex_iload_n (pc := 45) dX7_shift_45 rfl ?_
        refine ex_iadd (pc := 46) dX7_shift_46 (by unfold inI; omega) ?_
        refine ex_iaload (pc := 47) dX7_shift_47 h_n (by omega) (by omega) ?_
        rw [e16]
        refine ex_iload_n (pc := 48) dX7_shift_48 rfl ?_
        refine ex_iadd (pc := 49) dX7_shift_49 (by unfold inI; omega) ?_
        refine ex_istore (L2 := [_, _, _, _, _, _]) (pc := 50) dX7_shift_50 rfl (Nat.le_of_ble_eq_true rfl) rfl ?_
        refine ex_iload (pc := 52) dX7_shift_52 rfl ?_
        refine ex_iload (pc := 54) dX7_shift_54 rfl ?_
        refine ex_callSZ (as := [_, _]) (pc := 56) dX7_shift_56 (tX7_isThere) lk_X7_96 ykX7_isThere zkX7_isThere rfl rfl (Nat.le_of_ble_eq_true rfl) ⟨by decide, by decide⟩ ⟨Nat.le_refl _, Nat.le_refl _⟩ (fun i56 w1 r56 p56 => ?_)
        obtain ⟨e56, p56⟩ := p56
        rw [e56]
        refine ex_if_ne (pc := 59) dX7_shift_59 (tgt := 64) (by decide) (fun c59 => ?_) (fun c59 => ?_)
        · have hst9 := p56.mp (by omega)
          refine ex_aload_n (pc := 64) dX7_shift_64 rfl ?_
          refine ex_getfield (pc := 65) dX7_shift_65 fk_X7_7 h_o (by rfl) ?_
          refine ex_iload (pc := 68) dX7_shift_68 rfl ?_
          refine ex_iload (pc := 70) dX7_shift_70 rfl ?_
          refine ex_callSI (as := [_, _, _]) (pc := 72) dX7_shift_72 (tX7_numberOf h_n hR hl hcd (by omega)) lk_X7_76 ykX7_numberOf zkX7_numberOf rfl rfl (Nat.le_of_ble_eq_true rfl) ⟨by decide, by decide⟩ ⟨Nat.le_refl _, Nat.le_refl _⟩ (fun i72 w1 r72 p72 => ?_)
          obtain ⟨e72, p72⟩ := p72
          rw [e72]
          have hnr := numL_rng ((tmL s.1 ((j : Int)).toNat + d) * 12 + (ptL s.1 ((j : Int)).toNat + e)) s.1
          refine ex_bipush (pc := 75) dX7_shift_75 (by decide) ?_
          refine ex_icmp_eq (pc := 77) dX7_shift_77 (tgt := 83) (by decide) (fun c77 => ?_) (fun c77 => ?_)
          · refine ex_aload_n (pc := 83) dX7_shift_83 rfl ?_
            refine ex_callVV (as := []) (pc := 84) dX7_shift_84 (tX7_notes h_o h_n hR hl h_p hU hu8 hv.2.1) lk_X7_100 ykX7_notes vkX7_notes h_o rfl rfl rfl (Nat.le_of_ble_eq_true rfl) ⟨by decide, by decide⟩ ⟨Nat.le_refl _, Nat.le_refl _⟩ (fun w1 p84 => ?_)
            obtain ⟨g2, h1_o, h1_p, hU2, hfA⟩ := p84
            have h1_n := (hfA 56 (by decide) (by decide)).trans h_n
            have h1_k := (hfA 60 (by decide) (by decide)).trans h_k
            have h1_t := (hfA 61 (by decide) (by decide)).trans h_t
            refine ex_aload_n (pc := 87) dX7_shift_87 rfl ?_
            refine ex_getfield (pc := 88) dX7_shift_88 fk_X7_7 h1_o (by rfl) ?_
            refine ex_iload_n (pc := 91) dX7_shift_91 rfl ?_
            refine ex_callSV (as := [_, _]) (pc := 92) dX7_shift_92 (tX7_leaves h1_n hR hl (j := j) (by omega)) lk_X7_103 ykX7_leaves zkX7_leaves rfl rfl (Nat.le_of_ble_eq_true rfl) ⟨by decide, by decide⟩ ⟨Nat.le_refl _, Nat.le_refl _⟩ (fun w2 p92 => ?_)
            have h2_o := ((congrFun p92 55).trans (up_n (by decide))).trans h1_o
            have h2_n := (congrFun p92 56).trans up_s
            have h2_p := ((congrFun p92 59).trans (up_n (by decide))).trans h1_p
            have h2_k := ((congrFun p92 60).trans (up_n (by decide))).trans h1_k
            have h2_t := ((congrFun p92 61).trans (up_n (by decide))).trans h1_t
            have hle : (s.1.eraseIdx j).length = s.1.length - 1 := List.length_eraseIdx_of_lt (by omega)
            have hdr := delR_row hR (j := j) (by omega) hl
            have hcd2 := Cod_del hcd (j := j) (by omega)
            refine ex_aload_n (pc := 95) dX7_shift_95 rfl ?_
            refine ex_getfield (pc := 96) dX7_shift_96 fk_X7_7 h2_o (by rfl) ?_
            refine ex_iload (pc := 99) dX7_shift_99 rfl ?_
            refine ex_iload (pc := 101) dX7_shift_101 rfl ?_
            refine ex_callSI (as := [_, _, _]) (pc := 103) dX7_shift_103 (tX7_puts h2_n hdr (by omega) hcd2 (by omega)) lk_X7_53 ykX7_puts zkX7_puts rfl rfl (Nat.le_of_ble_eq_true rfl) ⟨by decide, by decide⟩ ⟨Nat.le_refl _, Nat.le_refl _⟩ (fun i103 w3 r103 p103 => ?_)
            obtain ⟨ev103, e103⟩ := p103
            have h3_o := ((congrFun e103 55).trans (up_n (by decide))).trans h2_o
            have h3_n := (congrFun e103 56).trans up_s
            have h3_p := ((congrFun e103 59).trans (up_n (by decide))).trans h2_p
            have h3_k := ((congrFun e103 60).trans (up_n (by decide))).trans h2_k
            have h3_t := ((congrFun e103 61).trans (up_n (by decide))).trans h2_t
            have hokn : okP (insL ((tmL s.1 ((j : Int)).toNat + d) * 12 + (ptL s.1 ((j : Int)).toNat + e)) (s.1.eraseIdx j), s.2.1) := ⟨Cod_ins hcd2 (by omega), by show 1 ≤ (insL _ _).length; rw [insL_len]; omega, by show (insL _ _).length ≤ 14; rw [insL_len]; omega, hv.1.2.2.2⟩
            exact ex_iret (pc := 106) dX7_shift_106 (by unfold opShift; rw [if_neg (by omega), if_neg (fun z => z hmv), if_neg (fun z => z hst9), if_neg (by omega), show s.1.eraseIdx ((j : Int)).toNat = s.1.eraseIdx j by rw [hkj]]; exact ⟨ev103, RefS.fin hsc (fun z z1 z2 z3 z4 z5 => by simp only [e103, p92, up_n z1, up_n z2, up_n z3, up_n z4, up_n z5]; exact hfA z z1 z3) (hv.push hokn) h3_o h3_n (putF_row hdr (by omega) (by omega)) h3_p (hU2) (pushU_len hu8) h3_k (hK) (hk2) h3_t (ht) (hlen)⟩) rfl (Nat.le_refl _)
          · refine ex_bipush (pc := 80) dX7_shift_80 (by decide) ?_
            exact ex_iret (pc := 82) dX7_shift_82 ⟨by unfold opShift; rw [if_neg (by omega), if_neg (fun z => z hmv), if_neg (fun z => z hst9), if_pos (by omega)], by unfold opShift; rw [if_neg (by omega), if_neg (fun z => z hmv), if_neg (fun z => z hst9), if_pos (by omega)]; exact hS0, fun _ _ => rfl⟩ rfl (Nat.le_refl _)
        · refine ex_iconst (pc := 62) dX7_shift_62 (by decide) ?_
          exact ex_iret (pc := 63) dX7_shift_63 ⟨by unfold opShift; rw [if_neg (by omega), if_neg (fun z => z hmv), if_pos (by omega)], by unfold opShift; rw [if_neg (by omega), if_neg (fun z => z hmv), if_pos (by omega)]; exact hS0, fun _ _ => rfl⟩ rfl (Nat.le_refl _)
      · refine ex_iload_n (pc := 21) dX7_shift_21 rfl ?_
        refine ex_if_ne (pc := 22) dX7_shift_22 (tgt := 27) (by decide) (fun c22 => ?_) (fun c22 => ?_)
        · have hsP := p11.mp (by omega)
          have hmv : shC s.2.1 d e ∧ (d ≠ 0 ∨ e ≠ 0) := ⟨hsP, by omega⟩
          have hsh : -19 ≤ d ∧ d ≤ 19 ∧ -11 ≤ e ∧ e ≤ 11 := by have h9 := hmv.1; unfold shC at h9; split at h9 <;> omega
          obtain ⟨j, hj⟩ : ∃ j : Nat, a = j := ⟨a.toNat, by omega⟩
          subst hj
          have hkj : ((j : Int)).toNat = j := by omega
          have h9 := hR.2.2 j (by omega)
          have e2 : f ((2 : Int) + (j : Int)).toNat = tmL s.1 ((j : Int)).toNat := by rw [hkj, ← h9.1, show ((2 : Int) + (j : Int)).toNat = 0 + 2 + j by omega]
          have e16 : f ((16 : Int) + (j : Int)).toNat = ptL s.1 ((j : Int)).toNat := by rw [hkj, ← h9.2, show ((16 : Int) + (j : Int)).toNat = 0 + 16 + j by omega]
          have hck := hcd j (by omega)
          have htm : 0 ≤ tmL s.1 ((j : Int)).toNat ∧ tmL s.1 ((j : Int)).toNat < 20 ∧ 0 ≤ ptL s.1 ((j : Int)).toNat ∧ ptL s.1 ((j : Int)).toNat < 12 := by rw [hkj]; unfold tmL ptL; omega
          refine ex_aload_n (pc := 27) dX7_shift_27 rfl ?_
          refine ex_getfield (pc := 28) dX7_shift_28 fk_X7_7 h_o (by rfl) ?_
          refine ex_iconst (pc := 31) dX7_shift_31 (by decide) ?_
          refine ex_iload_n (pc := 32) dX7_shift_32 rfl ?_
          refine ex_iadd (pc := 33) dX7_shift_33 (by unfold inI; omega) ?_
          refine ex_iaload (pc := 34) dX7_shift_34 h_n (by omega) (by omega) ?_
          rw [e2]
          refine ex_iload_n (pc := 35) dX7_shift_35 rfl ?_
          refine ex_iadd (pc := 36) dX7_shift_36 (by unfold inI; omega) ?_
          refine ex_istore (L2 := [_, _, _, _, _, _]) (pc := 37) dX7_shift_37 rfl (Nat.le_of_ble_eq_true rfl) rfl ?_
          refine ex_aload_n (pc := 39) dX7_shift_39 rfl ?_
          refine ex_getfield (pc := 40) dX7_shift_40 fk_X7_7 h_o (by rfl) ?_
          refine ex_bipush (pc := 43) dX7_shift_43 (by decide) ?_
          refine ex_iload_n (pc := 45) dX7_shift_45 rfl ?_
          refine ex_iadd (pc := 46) dX7_shift_46 (by unfold inI; omega) ?_
          refine ex_iaload (pc := 47) dX7_shift_47 h_n (by omega) (by omega) ?_
          rw [e16]
          refine ex_iload_n (pc := 48) dX7_shift_48 rfl ?_
          refine ex_iadd (pc := 49) dX7_shift_49 (by unfold inI; omega) ?_
          refine ex_istore (L2 := [_, _, _, _, _, _]) (pc := 50) dX7_shift_50 rfl (Nat.le_of_ble_eq_true rfl) rfl ?_
          refine ex_iload (pc := 52) dX7_shift_52 rfl ?_
          refine ex_iload (pc := 54) dX7_shift_54 rfl ?_
          refine ex_callSZ (as := [_, _]) (pc := 56) dX7_shift_56 (tX7_isThere) lk_X7_96 ykX7_isThere zkX7_isThere rfl rfl (Nat.le_of_ble_eq_true rfl) ⟨by decide, by decide⟩ ⟨Nat.le_refl _, Nat.le_refl _⟩ (fun i56 w1 r56 p56 => ?_)
          obtain ⟨e56, p56⟩ := p56
          rw [e56]
          refine ex_if_ne (pc := 59) dX7_shift_59 (tgt := 64) (by decide) (fun c59 => ?_) (fun c59 => ?_)
          · have hst9 := p56.mp (by omega)
            refine ex_aload_n (pc := 64) dX7_shift_64 rfl ?_
            refine ex_getfield (pc := 65) dX7_shift_65 fk_X7_7 h_o (by rfl) ?_
            refine ex_iload (pc := 68) dX7_shift_68 rfl ?_
            refine ex_iload (pc := 70) dX7_shift_70 rfl ?_
            refine ex_callSI (as := [_, _, _]) (pc := 72) dX7_shift_72 (tX7_numberOf h_n hR hl hcd (by omega)) lk_X7_76 ykX7_numberOf zkX7_numberOf rfl rfl (Nat.le_of_ble_eq_true rfl) ⟨by decide, by decide⟩ ⟨Nat.le_refl _, Nat.le_refl _⟩ (fun i72 w1 r72 p72 => ?_)
            obtain ⟨e72, p72⟩ := p72
            rw [e72]
            have hnr := numL_rng ((tmL s.1 ((j : Int)).toNat + d) * 12 + (ptL s.1 ((j : Int)).toNat + e)) s.1
            refine ex_bipush (pc := 75) dX7_shift_75 (by decide) ?_
            refine ex_icmp_eq (pc := 77) dX7_shift_77 (tgt := 83) (by decide) (fun c77 => ?_) (fun c77 => ?_)
            · refine ex_aload_n (pc := 83) dX7_shift_83 rfl ?_
              refine ex_callVV (as := []) (pc := 84) dX7_shift_84 (tX7_notes h_o h_n hR hl h_p hU hu8 hv.2.1) lk_X7_100 ykX7_notes vkX7_notes h_o rfl rfl rfl (Nat.le_of_ble_eq_true rfl) ⟨by decide, by decide⟩ ⟨Nat.le_refl _, Nat.le_refl _⟩ (fun w1 p84 => ?_)
              obtain ⟨g2, h1_o, h1_p, hU2, hfA⟩ := p84
              have h1_n := (hfA 56 (by decide) (by decide)).trans h_n
              have h1_k := (hfA 60 (by decide) (by decide)).trans h_k
              have h1_t := (hfA 61 (by decide) (by decide)).trans h_t
              refine ex_aload_n (pc := 87) dX7_shift_87 rfl ?_
              refine ex_getfield (pc := 88) dX7_shift_88 fk_X7_7 h1_o (by rfl) ?_
              refine ex_iload_n (pc := 91) dX7_shift_91 rfl ?_
              refine ex_callSV (as := [_, _]) (pc := 92) dX7_shift_92 (tX7_leaves h1_n hR hl (j := j) (by omega)) lk_X7_103 ykX7_leaves zkX7_leaves rfl rfl (Nat.le_of_ble_eq_true rfl) ⟨by decide, by decide⟩ ⟨Nat.le_refl _, Nat.le_refl _⟩ (fun w2 p92 => ?_)
              have h2_o := ((congrFun p92 55).trans (up_n (by decide))).trans h1_o
              have h2_n := (congrFun p92 56).trans up_s
              have h2_p := ((congrFun p92 59).trans (up_n (by decide))).trans h1_p
              have h2_k := ((congrFun p92 60).trans (up_n (by decide))).trans h1_k
              have h2_t := ((congrFun p92 61).trans (up_n (by decide))).trans h1_t
              have hle : (s.1.eraseIdx j).length = s.1.length - 1 := List.length_eraseIdx_of_lt (by omega)
              have hdr := delR_row hR (j := j) (by omega) hl
              have hcd2 := Cod_del hcd (j := j) (by omega)
              refine ex_aload_n (pc := 95) dX7_shift_95 rfl ?_
              refine ex_getfield (pc := 96) dX7_shift_96 fk_X7_7 h2_o (by rfl) ?_
              refine ex_iload (pc := 99) dX7_shift_99 rfl ?_
              refine ex_iload (pc := 101) dX7_shift_101 rfl ?_
              refine ex_callSI (as := [_, _, _]) (pc := 103) dX7_shift_103 (tX7_puts h2_n hdr (by omega) hcd2 (by omega)) lk_X7_53 ykX7_puts zkX7_puts rfl rfl (Nat.le_of_ble_eq_true rfl) ⟨by decide, by decide⟩ ⟨Nat.le_refl _, Nat.le_refl _⟩ (fun i103 w3 r103 p103 => ?_)
              obtain ⟨ev103, e103⟩ := p103
              have h3_o := ((congrFun e103 55).trans (up_n (by decide))).trans h2_o
              have h3_n := (congrFun e103 56).trans up_s
              have h3_p := ((congrFun e103 59).trans (up_n (by decide))).trans h2_p
              have h3_k := ((congrFun e103 60).trans (up_n (by decide))).trans h2_k
              have h3_t := ((congrFun e103 61).trans (up_n (by decide))).trans h2_t
              have hokn : okP (insL ((tmL s.1 ((j : Int)).toNat + d) * 12 + (ptL s.1 ((j : Int)).toNat + e)) (s.1.eraseIdx j), s.2.1) := ⟨Cod_ins hcd2 (by omega), by show 1 ≤ (insL _ _).length; rw [insL_len]; omega, by show (insL _ _).length ≤ 14; rw [insL_len]; omega, hv.1.2.2.2⟩
              exact ex_iret (pc := 106) dX7_shift_106 (by unfold opShift; rw [if_neg (by omega), if_neg (fun z => z hmv), if_neg (fun z => z hst9), if_neg (by omega), show s.1.eraseIdx ((j : Int)).toNat = s.1.eraseIdx j by rw [hkj]]; exact ⟨ev103, RefS.fin hsc (fun z z1 z2 z3 z4 z5 => by simp only [e103, p92, up_n z1, up_n z2, up_n z3, up_n z4, up_n z5]; exact hfA z z1 z3) (hv.push hokn) h3_o h3_n (putF_row hdr (by omega) (by omega)) h3_p (hU2) (pushU_len hu8) h3_k (hK) (hk2) h3_t (ht) (hlen)⟩) rfl (Nat.le_refl _)
            · refine ex_bipush (pc := 80) dX7_shift_80 (by decide) ?_
              exact ex_iret (pc := 82) dX7_shift_82 ⟨by unfold opShift; rw [if_neg (by omega), if_neg (fun z => z hmv), if_neg (fun z => z hst9), if_pos (by omega)], by unfold opShift; rw [if_neg (by omega), if_neg (fun z => z hmv), if_neg (fun z => z hst9), if_pos (by omega)]; exact hS0, fun _ _ => rfl⟩ rfl (Nat.le_refl _)
          · refine ex_iconst (pc := 62) dX7_shift_62 (by decide) ?_
            exact ex_iret (pc := 63) dX7_shift_63 ⟨by unfold opShift; rw [if_neg (by omega), if_neg (fun z => z hmv), if_pos (by omega)], by unfold opShift; rw [if_neg (by omega), if_neg (fun z => z hmv), if_pos (by omega)]; exact hS0, fun _ _ => rfl⟩ rfl (Nat.le_refl _)
        · refine ex_iconst (pc := 25) dX7_shift_25 (by decide) ?_
          exact ex_iret (pc := 26) dX7_shift_26 ⟨by unfold opShift; rw [if_neg (by omega), if_pos (by intro z; omega)], by unfold opShift; rw [if_neg (by omega), if_pos (by intro z; omega)]; exact hS0, fun _ _ => rfl⟩ rfl (Nat.le_refl _)

