theorem RefS.qq {w w2 : xW} {s : St} (hS : RefS w s) {pl mn pq cv sh be bg bc bp pa re px : Int} (h0 : w2 55 = rO s.2.2.1.length s.2.2.2.1.length s.2.2.2.2.length pl mn pq cv sh be bg bc bp pa re px) (a8 : AX w2 58 30) (a62 : AX w2 62 240) (a63 : AX w2 63 897) (a64 : AX w2 64 448) (a65 : AX w2 65 21) (a66 : AX w2 66 16384) (a67 : AX w2 67 448) (hf : ∀ z, z < 62 → z ≠ 55 → z ≠ 58 → w2 z = w z) : RefS w2 s ∧ FrR w w2 := by
  obtain ⟨hv, ⟨b1, -⟩, -, ⟨f, h_n, hR⟩, ⟨g, h_p, hU⟩, hu8, ⟨kf, h_k, hK⟩, hk2, ⟨t, h_t, ht⟩, hlen⟩ := hS
  exact ⟨⟨hv, ⟨b1.fr (hf _ (by decide) (by decide) (by decide)), a8, a62, a63, a64, a65, a66, a67⟩, ⟨_, _, _, _, _, _, _, _, _, _, _, _, h0⟩, ⟨f, (hf _ (by decide) (by decide) (by decide)).trans h_n, hR⟩, ⟨g, (hf _ (by decide) (by decide) (by decide)).trans h_p, hU⟩, hu8, ⟨kf, (hf _ (by decide) (by decide) (by decide)).trans h_k, hK⟩, hk2, ⟨t, (hf _ (by decide) (by decide) (by decide)).trans h_t, ht⟩, hlen⟩, fun z hz => hf z (by omega) (by omega) (by omega)⟩
abbrev mX7_largest : xC := mkC yX7_largest cX7_largest 3 (some .int) 6 600 0 0
set_option maxHeartbeats 4000000 in
set_option maxRecDepth 100000 in
theorem tX7_largest {n : Nat} {w : xW} {s : St} (hS : RefS w s) {d e : Int} : Ctr mX7_largest [xr 55, xi d, xi e] n w (pI (fun v w2 => v = opLargest s d e ∧ RefS w2 s ∧ FrR w w2)) := by
  refine Ctr.of ykX7_largest rfl (Nat.le_of_ble_eq_true rfl) okI (fun hin hW => ?_)
  have hS0 := hS
  obtain ⟨hv, hsc, ⟨pl, mn, pq, cv, sh, be, bg, bc, bp, pa, re, px, h_o⟩, ⟨f, h_n, hR⟩, ⟨g, h_p, hU⟩, hu8, ⟨kf, h_k, hK⟩, hk2, ⟨t, h_t, ht⟩, hlen⟩ := hS
  have hl : s.1.length ≤ 14 := hv.1.2.2.1
  have hl1 : 1 ≤ s.1.length := hv.1.2.1
  have hcd : Cod s.1 := hv.1.1
  have hsc0 := hsc
  obtain ⟨⟨f57, h_r⟩, ⟨f58, h_a⟩, ⟨f62, h_A⟩, ⟨f63, h_G⟩, ⟨f64, h_S⟩, ⟨f65, h_P⟩, ⟨f66, h_F⟩, ⟨f67, h_V⟩⟩ := hsc
  have hal := Al_lt s.1
  have hal2 := Al_16 hl
  have hAl : Al s.1 = 2 ^ s.1.length - 1 := rfl
  show Ex _ _ 0 0 n w 0 [some (xr 55), some (xi d), some (xi e)] []
  refine ex_aload_n (pc := 0) dX7_largest_0 rfl ?_
  refine ex_iload_n (pc := 1) dX7_largest_1 rfl ?_
  refine ex_iload_n (pc := 2) dX7_largest_2 rfl ?_
  refine ex_callVZ (as := [_, _]) (pc := 3) dX7_largest_3 (tX7_isShift h_o h_n hR hl) lk_X7_107 ykX7_isShift vkX7_isShift h_o rfl rfl rfl (Nat.le_of_ble_eq_true rfl) ⟨by decide, by decide⟩ ⟨Nat.le_refl _, Nat.le_refl _⟩ (fun i3 w1 r3 p3 => ?_)
  obtain ⟨e3, p3⟩ := p3
  rw [e3]
  refine ex_if_ne (pc := 6) dX7_largest_6 (tgt := 11) (by decide) (fun c6 => ?_) (fun c6 => ?_)
  · have hsP := p3.mp (by omega)
    have hsh : -19 ≤ d ∧ d ≤ 19 ∧ -11 ≤ e ∧ e ≤ 11 := by have h9 := hsP; unfold shiftP at h9; split at h9 <;> omega
    refine ex_aload_n (pc := 11) dX7_largest_11 rfl ?_
    refine ex_aload_n (pc := 12) dX7_largest_12 rfl ?_
    refine ex_getfield (pc := 13) dX7_largest_13 fk_X7_7 h_o (by rfl) ?_
    refine ex_aload_n (pc := 16) dX7_largest_16 rfl ?_
    refine ex_getfield (pc := 17) dX7_largest_17 fk_X7_7 h_o (by rfl) ?_
    refine ex_callSI (as := [_]) (pc := 20) dX7_largest_20 (tX7_allOf h_n (by decide) hR.1 hl) lk_X7_166 ykX7_allOf zkX7_allOf rfl rfl (Nat.le_of_ble_eq_true rfl) ⟨by decide, by decide⟩ ⟨Nat.le_refl _, Nat.le_refl _⟩ (fun i20 w1 r20 p20 => ?_)
    obtain ⟨ew, ep⟩ := p20
    rw [ew, ep]
    refine ex_callVV (as := [_, _]) (pc := 23) dX7_largest_23 (tX7_lays h_o h_n hR h_A h_G (by decide) hl hcd hal) lk_X7_139 ykX7_lays vkX7_lays h_o rfl rfl rfl (Nat.le_of_ble_eq_true rfl) ⟨by decide, by decide⟩ ⟨Nat.le_refl _, Nat.le_refl _⟩ (fun w1 p23 => ?_)
    obtain ⟨⟨nu, lg, h1_A, hnu, h1_G, hlg⟩, h1_o, hfL⟩ := p23
    have h1_n := (hfL 56 (by decide) (by decide) (by decide)).trans h_n
    have h1_r := (hfL 57 (by decide) (by decide) (by decide)).trans h_r
    have h1_a := (hfL 58 (by decide) (by decide) (by decide)).trans h_a
    have h1_p := (hfL 59 (by decide) (by decide) (by decide)).trans h_p
    have h1_k := (hfL 60 (by decide) (by decide) (by decide)).trans h_k
    have h1_t := (hfL 61 (by decide) (by decide) (by decide)).trans h_t
    have h1_S := (hfL 64 (by decide) (by decide) (by decide)).trans h_S
    have h1_P := (hfL 65 (by decide) (by decide) (by decide)).trans h_P
    have h1_F := (hfL 66 (by decide) (by decide) (by decide)).trans h_F
    have h1_V := (hfL 67 (by decide) (by decide) (by decide)).trans h_V
    refine ex_aload_n (pc := 26) dX7_largest_26 rfl ?_
    refine ex_getfield (pc := 27) dX7_largest_27 fk_X7_31 h1_o (by rfl) ?_
    refine ex_bipush (pc := 30) dX7_largest_30 (by decide) ?_
    refine ex_iload_n (pc := 32) dX7_largest_32 rfl ?_
    refine ex_bipush (pc := 33) dX7_largest_33 (by decide) ?_
    refine ex_iadd (pc := 35) dX7_largest_35 (by unfold inI; omega) ?_
    refine ex_imul (pc := 36) dX7_largest_36 (by unfold inI; omega) ?_
    refine ex_iload_n (pc := 37) dX7_largest_37 rfl ?_
    refine ex_iadd (pc := 38) dX7_largest_38 (by unfold inI; omega) ?_
    refine ex_bipush (pc := 39) dX7_largest_39 (by decide) ?_
    refine ex_iadd (pc := 41) dX7_largest_41 (by unfold inI; omega) ?_
    refine ex_iaload (pc := 42) dX7_largest_42 h1_G (by omega) (by omega) ?_
    exact ex_iret (pc := 43) dX7_largest_43 ⟨by unfold opLargest; rw [if_pos (show shC s.2.1 d e from hsP), ← hlg _ (by omega), show (d + 19) * 23 = 23 * (d + 19) by omega], RefS.qq hS0 h1_o ⟨_, h1_a⟩ ⟨_, h1_A⟩ ⟨_, h1_G⟩ ⟨_, h1_S⟩ ⟨_, h1_P⟩ ⟨_, h1_F⟩ ⟨_, h1_V⟩ (fun z hz z1 z2 => hfL z z1 (by omega) (by omega))⟩ rfl (Nat.le_refl _)
  · refine ex_iconst (pc := 9) dX7_largest_9 (by decide) ?_
    exact ex_iret (pc := 10) dX7_largest_10 ⟨by unfold opLargest; rw [if_neg (show ¬ shC s.2.1 d e from fun q => absurd (p3.mpr q) (by omega))], hS0, fun _ _ => rfl⟩ rfl (Nat.le_refl _)

abbrev mX7_meets : xC := mkC yX7_meets cX7_meets 4 (some .int) 6 600 0 0
set_option maxHeartbeats 4000000 in
set_option maxRecDepth 100000 in
theorem tX7_meets {n : Nat} {w : xW} {s : St} (hS : RefS w s) {a d e : Int} : Ctr mX7_meets [xr 55, xi a, xi d, xi e] n w (pI (fun v w2 => v = opMeets s a d e ∧ RefS w2 s ∧ FrR w w2)) := by
  refine Ctr.of ykX7_meets rfl (Nat.le_of_ble_eq_true rfl) okI (fun hin hW => ?_)
  have hS0 := hS
  obtain ⟨hv, hsc, ⟨pl, mn, pq, cv, sh, be, bg, bc, bp, pa, re, px, h_o⟩, ⟨f, h_n, hR⟩, ⟨g, h_p, hU⟩, hu8, ⟨kf, h_k, hK⟩, hk2, ⟨t, h_t, ht⟩, hlen⟩ := hS
  have hl : s.1.length ≤ 14 := hv.1.2.2.1
  have hl1 : 1 ≤ s.1.length := hv.1.2.1
  have hcd : Cod s.1 := hv.1.1
  have hsc0 := hsc
  obtain ⟨⟨f57, h_r⟩, ⟨f58, h_a⟩, ⟨f62, h_A⟩, ⟨f63, h_G⟩, ⟨f64, h_S⟩, ⟨f65, h_P⟩, ⟨f66, h_F⟩, ⟨f67, h_V⟩⟩ := hsc
  have hal := Al_lt s.1
  have hal2 := Al_16 hl
  have hAl : Al s.1 = 2 ^ s.1.length - 1 := rfl
  show Ex _ _ 0 0 n w 0 [some (xr 55), some (xi a), some (xi d), some (xi e)] []
  refine ex_aload_n (pc := 0) dX7_meets_0 rfl ?_
  refine ex_iload_n (pc := 1) dX7_meets_1 rfl ?_
  refine ex_callVZ (as := [_]) (pc := 2) dX7_meets_2 (tX7_isNote h_o h_n hR hl) lk_X7_92 ykX7_isNote vkX7_isNote h_o rfl rfl rfl (Nat.le_of_ble_eq_true rfl) ⟨by decide, by decide⟩ ⟨Nat.le_refl _, Nat.le_refl _⟩ (fun i2 w1 r2 p2 => ?_)
  obtain ⟨e2, p2⟩ := p2
  rw [e2]
  refine ex_if_eq (pc := 5) dX7_meets_5 (tgt := 17) (by decide) (fun c5 => ?_) (fun c5 => ?_)
  · refine ex_iconst (pc := 17) dX7_meets_17 (by decide) ?_
    exact ex_iret (pc := 18) dX7_meets_18 ⟨by unfold opMeets; rw [if_neg (fun q => by omega)], hS0, fun _ _ => rfl⟩ rfl (Nat.le_refl _)
  · refine ex_aload_n (pc := 8) dX7_meets_8 rfl ?_
    refine ex_iload_n (pc := 9) dX7_meets_9 rfl ?_
    refine ex_iload_n (pc := 10) dX7_meets_10 rfl ?_
    refine ex_callVZ (as := [_, _]) (pc := 11) dX7_meets_11 (tX7_isShift h_o h_n hR hl) lk_X7_107 ykX7_isShift vkX7_isShift h_o rfl rfl rfl (Nat.le_of_ble_eq_true rfl) ⟨by decide, by decide⟩ ⟨Nat.le_refl _, Nat.le_refl _⟩ (fun i11 w1 r11 p11 => ?_)
    obtain ⟨e11, p11⟩ := p11
    rw [e11]
    refine ex_if_ne (pc := 14) dX7_meets_14 (tgt := 19) (by decide) (fun c14 => ?_) (fun c14 => ?_)
    · have hsP := p11.mp (by omega)
      have hsh : -19 ≤ d ∧ d ≤ 19 ∧ -11 ≤ e ∧ e ≤ 11 := by have h9 := hsP; unfold shiftP at h9; split at h9 <;> omega
      obtain ⟨j, hj⟩ : ∃ j : Nat, a = j := ⟨a.toNat, by omega⟩
      subst hj
      have hkj : ((j : Int)).toNat = j := by omega
      refine ex_aload_n (pc := 19) dX7_meets_19 rfl ?_
      refine ex_aload_n (pc := 20) dX7_meets_20 rfl ?_
      refine ex_getfield (pc := 21) dX7_meets_21 fk_X7_7 h_o (by rfl) ?_
      refine ex_aload_n (pc := 24) dX7_meets_24 rfl ?_
      refine ex_getfield (pc := 25) dX7_meets_25 fk_X7_7 h_o (by rfl) ?_
      refine ex_callSI (as := [_]) (pc := 28) dX7_meets_28 (tX7_allOf h_n (by decide) hR.1 hl) lk_X7_166 ykX7_allOf zkX7_allOf rfl rfl (Nat.le_of_ble_eq_true rfl) ⟨by decide, by decide⟩ ⟨Nat.le_refl _, Nat.le_refl _⟩ (fun i28 w1 r28 p28 => ?_)
      obtain ⟨ew, ep⟩ := p28
      rw [ew, ep]
      refine ex_callVV (as := [_, _]) (pc := 31) dX7_meets_31 (tX7_lays h_o h_n hR h_A h_G (by decide) hl hcd hal) lk_X7_139 ykX7_lays vkX7_lays h_o rfl rfl rfl (Nat.le_of_ble_eq_true rfl) ⟨by decide, by decide⟩ ⟨Nat.le_refl _, Nat.le_refl _⟩ (fun w1 p31 => ?_)
      obtain ⟨⟨nu, lg, h1_A, hnu, h1_G, hlg⟩, h1_o, hfL⟩ := p31
      have h1_n := (hfL 56 (by decide) (by decide) (by decide)).trans h_n
      have h1_r := (hfL 57 (by decide) (by decide) (by decide)).trans h_r
      have h1_a := (hfL 58 (by decide) (by decide) (by decide)).trans h_a
      have h1_p := (hfL 59 (by decide) (by decide) (by decide)).trans h_p
      have h1_k := (hfL 60 (by decide) (by decide) (by decide)).trans h_k
      have h1_t := (hfL 61 (by decide) (by decide) (by decide)).trans h_t
      have h1_S := (hfL 64 (by decide) (by decide) (by decide)).trans h_S
      have h1_P := (hfL 65 (by decide) (by decide) (by decide)).trans h_P
      have h1_F := (hfL 66 (by decide) (by decide) (by decide)).trans h_F
      have h1_V := (hfL 67 (by decide) (by decide) (by decide)).trans h_V
      have hnr : ∀ z, z < 240 → nu z = -4 ∨ 0 ≤ nu z := fun z hz => by rw [hnu z hz]; rcases nuS_rng s.1 (Al s.1) s.1.length z with q | q <;> omega
      refine ex_aload_n (pc := 34) dX7_meets_34 rfl ?_
      refine ex_aload_n (pc := 35) dX7_meets_35 rfl ?_
      refine ex_getfield (pc := 36) dX7_meets_36 fk_X7_7 h1_o (by rfl) ?_
      refine ex_iload_n (pc := 39) dX7_meets_39 rfl ?_
      refine ex_iload_n (pc := 40) dX7_meets_40 rfl ?_
      refine ex_iload_n (pc := 41) dX7_meets_41 rfl ?_
      refine ex_callVI (as := [_, _, _, _]) (pc := 42) dX7_meets_42 (tX7_metBy h1_o h1_n hR h1_A hl hcd hnr (by omega) (by omega)) lk_X7_122 ykX7_metBy vkX7_metBy h1_o rfl rfl rfl (Nat.le_of_ble_eq_true rfl) ⟨by decide, by decide⟩ ⟨Nat.le_refl _, Nat.le_refl _⟩ (fun i42 w2 r42 p42 => ?_)
      obtain ⟨e42, p42⟩ := p42
      rw [e42]
      exact ex_iret (pc := 45) dX7_meets_45 ⟨by unfold opMeets metS; rw [if_pos ⟨by omega, hsP⟩, hkj, p42]; exact metF_congr hnu rfl rfl, RefS.qq hS0 h1_o ⟨_, h1_a⟩ ⟨_, h1_A⟩ ⟨_, h1_G⟩ ⟨_, h1_S⟩ ⟨_, h1_P⟩ ⟨_, h1_F⟩ ⟨_, h1_V⟩ (fun z hz z1 z2 => hfL z z1 (by omega) (by omega))⟩ rfl (Nat.le_refl _)
    · refine ex_iconst (pc := 17) dX7_meets_17 (by decide) ?_
      exact ex_iret (pc := 18) dX7_meets_18 ⟨by unfold opMeets; rw [if_neg (fun q => absurd (p11.mpr q.2) (by omega))], hS0, fun _ _ => rfl⟩ rfl (Nat.le_refl _)

abbrev mX7_shape : xC := mkC yX7_shape cX7_shape 4 (some .int) 7 700 0 0
set_option maxHeartbeats 4000000 in
set_option maxRecDepth 100000 in
theorem tX7_shape {n : Nat} {w : xW} {s : St} (hS : RefS w s) {k a : Int} : Ctr mX7_shape [xr 55, xi k, xi a] n w (pI (fun v w2 => v = opShape s k a ∧ RefS w2 s ∧ FrR w w2)) := by
  refine Ctr.of ykX7_shape rfl (Nat.le_of_ble_eq_true rfl) okI (fun hin hW => ?_)
  have hS0 := hS
  obtain ⟨hv, hsc, ⟨pl, mn, pq, cv, sh, be, bg, bc, bp, pa, re, px, h_o⟩, ⟨f, h_n, hR⟩, ⟨g, h_p, hU⟩, hu8, ⟨kf, h_k, hK⟩, hk2, ⟨t, h_t, ht⟩, hlen⟩ := hS
  have hl : s.1.length ≤ 14 := hv.1.2.2.1
  have hl1 : 1 ≤ s.1.length := hv.1.2.1
  have hcd : Cod s.1 := hv.1.1
  have hsc0 := hsc
  obtain ⟨⟨f57, h_r⟩, ⟨f58, h_a⟩, ⟨f62, h_A⟩, ⟨f63, h_G⟩, ⟨f64, h_S⟩, ⟨f65, h_P⟩, ⟨f66, h_F⟩, ⟨f67, h_V⟩⟩ := hsc
  have hal := Al_lt s.1
  have hal2 := Al_16 hl
  have hAl : Al s.1 = 2 ^ s.1.length - 1 := rfl
  show Ex _ _ 0 0 n w 0 [some (xr 55), some (xi k), some (xi a), none] []
  refine ex_aload_n (pc := 0) dX7_shape_0 rfl ?_
  refine ex_aload_n (pc := 1) dX7_shape_1 rfl ?_
  refine ex_getfield (pc := 2) dX7_shape_2 fk_X7_7 h_o (by rfl) ?_
  refine ex_aload_n (pc := 5) dX7_shape_5 rfl ?_
  refine ex_getfield (pc := 6) dX7_shape_6 fk_X7_7 h_o (by rfl) ?_
  refine ex_callSI (as := [_]) (pc := 9) dX7_shape_9 (tX7_allOf h_n (by decide) hR.1 hl) lk_X7_166 ykX7_allOf zkX7_allOf rfl rfl (Nat.le_of_ble_eq_true rfl) ⟨by decide, by decide⟩ ⟨Nat.le_refl _, Nat.le_refl _⟩ (fun i9 w1 r9 p9 => ?_)
  obtain ⟨ew, ep⟩ := p9
  rw [ew, ep]
  refine ex_callVV (as := [_, _]) (pc := 12) dX7_shape_12 (tX7_findsShapes h_o h_n hR h_A h_G h_S (by decide) hl hcd hal) lk_X7_145 ykX7_findsShapes vkX7_findsShapes h_o rfl rfl rfl (Nat.le_of_ble_eq_true rfl) ⟨by decide, by decide⟩ ⟨Nat.le_refl _, Nat.le_refl _⟩ (fun w1 p12 => ?_)
  obtain ⟨⟨nu, lg, h1_A, hnu, h1_G, hlg⟩, ⟨ss, h1_S, hss⟩, h1_o, hfL⟩ := p12
  have h1_n := (hfL 56 (by decide) (by decide) (by decide) (by decide)).trans h_n
  have h1_r := (hfL 57 (by decide) (by decide) (by decide) (by decide)).trans h_r
  have h1_a := (hfL 58 (by decide) (by decide) (by decide) (by decide)).trans h_a
  have h1_p := (hfL 59 (by decide) (by decide) (by decide) (by decide)).trans h_p
  have h1_k := (hfL 60 (by decide) (by decide) (by decide) (by decide)).trans h_k
  have h1_t := (hfL 61 (by decide) (by decide) (by decide) (by decide)).trans h_t
  have h1_P := (hfL 65 (by decide) (by decide) (by decide) (by decide)).trans h_P
  have h1_F := (hfL 66 (by decide) (by decide) (by decide) (by decide)).trans h_F
  have h1_V := (hfL 67 (by decide) (by decide) (by decide) (by decide)).trans h_V
  have h448 := sh448 s.1 s.2.1 (Al s.1)
  refine ex_iload_n (pc := 15) dX7_shape_15 rfl ?_
  refine ex_iconst (pc := 16) dX7_shape_16 (by decide) ?_
  refine ex_aload_n (pc := 17) dX7_shape_17 rfl ?_
  refine ex_getfield (pc := 18) dX7_shape_18 fk_X7_136 h1_o (by rfl) ?_
  refine ex_iconst (pc := 21) dX7_shape_21 (by decide) ?_
  refine ex_isub (pc := 22) dX7_shape_22 (by unfold inI; omega) ?_
  refine ex_callSZ (as := [_, _, _]) (pc := 23) dX7_shape_23 (tX7_in) lk_X7_68 ykX7_in zkX7_in rfl rfl (Nat.le_of_ble_eq_true rfl) ⟨by decide, by decide⟩ ⟨Nat.le_refl _, Nat.le_refl _⟩ (fun i23 w2 r23 p23 => ?_)
  obtain ⟨e23, p23⟩ := p23
  rw [e23]
  refine ex_if_eq (pc := 26) dX7_shape_26 (tgt := 38) (by decide) (fun c26 => ?_) (fun c26 => ?_)
  · refine ex_iconst (pc := 38) dX7_shape_38 (by decide) ?_
    exact ex_iret (pc := 39) dX7_shape_39 ⟨by unfold opShape; rw [if_neg (by omega)], RefS.qq hS0 h1_o ⟨_, h1_a⟩ ⟨_, h1_A⟩ ⟨_, h1_G⟩ ⟨_, h1_S⟩ ⟨_, h1_P⟩ ⟨_, h1_F⟩ ⟨_, h1_V⟩ (fun z hz z1 z2 => hfL z z1 (by omega) (by omega) (by omega))⟩ rfl (Nat.le_refl _)
  · refine ex_iload_n (pc := 29) dX7_shape_29 rfl ?_
    refine ex_iconst (pc := 30) dX7_shape_30 (by decide) ?_
    refine ex_iconst (pc := 31) dX7_shape_31 (by decide) ?_
    refine ex_callSZ (as := [_, _, _]) (pc := 32) dX7_shape_32 (tX7_in) lk_X7_68 ykX7_in zkX7_in rfl rfl (Nat.le_of_ble_eq_true rfl) ⟨by decide, by decide⟩ ⟨Nat.le_refl _, Nat.le_refl _⟩ (fun i32 w2 r32 p32 => ?_)
    obtain ⟨e32, p32⟩ := p32
    rw [e32]
    refine ex_if_ne (pc := 35) dX7_shape_35 (tgt := 40) (by decide) (fun c35 => ?_) (fun c35 => ?_)
    · obtain ⟨j, hj⟩ : ∃ j : Nat, k = j := ⟨k.toNat, by omega⟩
      subst hj
      have hkj : ((j : Int)).toNat = j := by omega
      have hjl : j < (shL s.1 s.2.1 (Al s.1)).length := by omega
      refine ex_aload_n (pc := 40) dX7_shape_40 rfl ?_
      refine ex_getfield (pc := 41) dX7_shape_41 fk_X7_34 h1_o (by rfl) ?_
      refine ex_iload_n (pc := 44) dX7_shape_44 rfl ?_
      refine ex_iaload (pc := 45) dX7_shape_45 h1_S (by omega) (by omega) ?_
      rw [hkj, hss j hjl]
      refine ex_istore_n (L2 := [_, _, _, _]) (pc := 46) dX7_shape_46 rfl (Nat.le_of_ble_eq_true rfl) rfl ?_
      refine ex_aload_n (pc := 47) dX7_shape_47 rfl ?_
      refine ex_aload_n (pc := 48) dX7_shape_48 rfl ?_
      refine ex_getfield (pc := 49) dX7_shape_49 fk_X7_7 h1_o (by rfl) ?_
      refine ex_iload_n (pc := 52) dX7_shape_52 rfl ?_
      refine ex_callVV (as := [_, _]) (pc := 53) dX7_shape_53 (tX7_looksAt h1_o h1_n hR h1_A hnu h1_G hlg (by decide) hl hcd hal (sh_lt hjl) (sh_two hjl)) lk_X7_157 ykX7_looksAt vkX7_looksAt h1_o rfl rfl rfl (Nat.le_of_ble_eq_true rfl) ⟨by decide, by decide⟩ ⟨Nat.le_refl _, Nat.le_refl _⟩ (fun w2 p53 => ?_)
      obtain ⟨h2_o, hf2⟩ := p53
      have h2_n := (hf2 56 (by decide)).trans h1_n
      have h2_r := (hf2 57 (by decide)).trans h1_r
      have h2_a := (hf2 58 (by decide)).trans h1_a
      have h2_p := (hf2 59 (by decide)).trans h1_p
      have h2_k := (hf2 60 (by decide)).trans h1_k
      have h2_t := (hf2 61 (by decide)).trans h1_t
      have h2_A := (hf2 62 (by decide)).trans h1_A
      have h2_G := (hf2 63 (by decide)).trans h1_G
      have h2_S := (hf2 64 (by decide)).trans h1_S
      have h2_P := (hf2 65 (by decide)).trans h1_P
      have h2_F := (hf2 66 (by decide)).trans h1_F
      have h2_V := (hf2 67 (by decide)).trans h1_V
      have hpl := pcS_lt (mo := s.2.1) (pr := Al s.1) hl ((shL s.1 s.2.1 (Al s.1)).getD j 0)
      have hgr := gnS_rng (mo := s.2.1) (pr := Al s.1) hl ((shL s.1 s.2.1 (Al s.1)).getD j 0)
      refine ex_iload_n (pc := 56) dX7_shape_56 rfl ?_
      refine ex_if_ne (pc := 57) dX7_shape_57 (tgt := 64) (by decide) (fun c57 => ?_) (fun c57 => ?_)
      · refine ex_iload_n (pc := 64) dX7_shape_64 rfl ?_
        refine ex_iconst (pc := 65) dX7_shape_65 (by decide) ?_
        refine ex_icmp_ne (pc := 66) dX7_shape_66 (tgt := 76) (by decide) (fun c66 => ?_) (fun c66 => ?_)
        · refine ex_iload_n (pc := 76) dX7_shape_76 rfl ?_
          refine ex_iconst (pc := 77) dX7_shape_77 (by decide) ?_
          refine ex_icmp_ne (pc := 78) dX7_shape_78 (tgt := 88) (by decide) (fun c78 => ?_) (fun c78 => ?_)
          · refine ex_aload_n (pc := 88) dX7_shape_88 rfl ?_
            refine ex_iload_n (pc := 89) dX7_shape_89 rfl ?_
            refine ex_callVI (as := [_]) (pc := 90) dX7_shape_90 (tX7_gainOf h2_o hpl.1 (by omega) (sh_lt hjl)) lk_X7_160 ykX7_gainOf vkX7_gainOf h2_o rfl rfl rfl (Nat.le_of_ble_eq_true rfl) ⟨by decide, by decide⟩ ⟨Nat.le_refl _, Nat.le_refl _⟩ (fun i90 w3 r90 p90 => ?_)
            obtain ⟨e90, p90⟩ := p90
            rw [e90]
            have p90 : i90 = gnS s.1 s.2.1 (Al s.1) ((shL s.1 s.2.1 (Al s.1)).getD j 0) := p90
            refine ex_bipush (pc := 93) dX7_shape_93 (by decide) ?_
            refine ex_iadd (pc := 95) dX7_shape_95 (by unfold inI; omega) ?_
            exact ex_iret (pc := 96) dX7_shape_96 ⟨by unfold opShape; rw [if_pos (by omega), if_neg (by omega), if_neg (by omega), if_neg (by omega), if_pos (by omega), hkj, p90], RefS.qq hS0 h2_o ⟨_, h2_a⟩ ⟨_, h2_A⟩ ⟨_, h2_G⟩ ⟨_, h2_S⟩ ⟨_, h2_P⟩ ⟨_, h2_F⟩ ⟨_, h2_V⟩ (fun z hz z1 z2 => (hf2 z z1).trans (hfL z z1 (by omega) (by omega) (by omega)))⟩ rfl (Nat.le_refl _)
          · refine ex_aload_n (pc := 81) dX7_shape_81 rfl ?_
            refine ex_getfield (pc := 82) dX7_shape_82 fk_X7_129 h2_o (by rfl) ?_
            refine ex_goto (pc := 85) dX7_shape_85 (tgt := 96) (by decide) ?_
            exact ex_iret (pc := 96) dX7_shape_96 ⟨by unfold opShape; rw [if_pos (by omega), if_neg (by omega), if_neg (by omega), if_pos (by omega), hkj], RefS.qq hS0 h2_o ⟨_, h2_a⟩ ⟨_, h2_A⟩ ⟨_, h2_G⟩ ⟨_, h2_S⟩ ⟨_, h2_P⟩ ⟨_, h2_F⟩ ⟨_, h2_V⟩ (fun z hz z1 z2 => (hf2 z z1).trans (hfL z z1 (by omega) (by omega) (by omega)))⟩ rfl (Nat.le_refl _)
        · refine ex_aload_n (pc := 69) dX7_shape_69 rfl ?_
          refine ex_getfield (pc := 70) dX7_shape_70 fk_X7_126 h2_o (by rfl) ?_
          refine ex_goto (pc := 73) dX7_shape_73 (tgt := 96) (by decide) ?_
          exact ex_iret (pc := 96) dX7_shape_96 ⟨by unfold opShape; rw [if_pos (by omega), if_neg (by omega), if_pos (by omega), hkj], RefS.qq hS0 h2_o ⟨_, h2_a⟩ ⟨_, h2_A⟩ ⟨_, h2_G⟩ ⟨_, h2_S⟩ ⟨_, h2_P⟩ ⟨_, h2_F⟩ ⟨_, h2_V⟩ (fun z hz z1 z2 => (hf2 z z1).trans (hfL z z1 (by omega) (by omega) (by omega)))⟩ rfl (Nat.le_refl _)
      · refine ex_iload_n (pc := 60) dX7_shape_60 rfl ?_
        refine ex_goto (pc := 61) dX7_shape_61 (tgt := 96) (by decide) ?_
        exact ex_iret (pc := 96) dX7_shape_96 ⟨by unfold opShape; rw [if_pos (by omega), if_pos (by omega), hkj], RefS.qq hS0 h2_o ⟨_, h2_a⟩ ⟨_, h2_A⟩ ⟨_, h2_G⟩ ⟨_, h2_S⟩ ⟨_, h2_P⟩ ⟨_, h2_F⟩ ⟨_, h2_V⟩ (fun z hz z1 z2 => (hf2 z z1).trans (hfL z z1 (by omega) (by omega) (by omega)))⟩ rfl (Nat.le_refl _)
    · refine ex_iconst (pc := 38) dX7_shape_38 (by decide) ?_
      exact ex_iret (pc := 39) dX7_shape_39 ⟨by unfold opShape; rw [if_pos (by omega), if_neg (by omega), if_neg (by omega), if_neg (by omega), if_neg (by omega)], RefS.qq hS0 h1_o ⟨_, h1_a⟩ ⟨_, h1_A⟩ ⟨_, h1_G⟩ ⟨_, h1_S⟩ ⟨_, h1_P⟩ ⟨_, h1_F⟩ ⟨_, h1_V⟩ (fun z hz z1 z2 => hfL z z1 (by omega) (by omega) (by omega))⟩ rfl (Nat.le_refl _)

abbrev mX7_best : xC := mkC yX7_best cX7_best 2 (some .int) 8 800 0 0
set_option maxHeartbeats 4000000 in
set_option maxRecDepth 100000 in
theorem tX7_best {n : Nat} {w : xW} {s : St} (hS : RefS w s) {a : Int} : Ctr mX7_best [xr 55, xi a] n w (pI (fun v w2 => v = opBest s a ∧ RefS w2 s ∧ FrR w w2)) := by
  refine Ctr.of ykX7_best rfl (Nat.le_of_ble_eq_true rfl) okI (fun hin hW => ?_)
  have hS0 := hS
  obtain ⟨hv, hsc, ⟨pl, mn, pq, cv, sh, be, bg, bc, bp, pa, re, px, h_o⟩, ⟨f, h_n, hR⟩, ⟨g, h_p, hU⟩, hu8, ⟨kf, h_k, hK⟩, hk2, ⟨t, h_t, ht⟩, hlen⟩ := hS
  have hl : s.1.length ≤ 14 := hv.1.2.2.1
  have hl1 : 1 ≤ s.1.length := hv.1.2.1
  have hcd : Cod s.1 := hv.1.1
  have hsc0 := hsc
  obtain ⟨⟨f57, h_r⟩, ⟨f58, h_a⟩, ⟨f62, h_A⟩, ⟨f63, h_G⟩, ⟨f64, h_S⟩, ⟨f65, h_P⟩, ⟨f66, h_F⟩, ⟨f67, h_V⟩⟩ := hsc
  have hal := Al_lt s.1
  have hal2 := Al_16 hl
  have hAl : Al s.1 = 2 ^ s.1.length - 1 := rfl
  show Ex _ _ 0 0 n w 0 [some (xr 55), some (xi a)] []
  refine ex_iload_n (pc := 0) dX7_best_0 rfl ?_
  refine ex_iconst (pc := 1) dX7_best_1 (by decide) ?_
  refine ex_iconst (pc := 2) dX7_best_2 (by decide) ?_
  refine ex_callSZ (as := [_, _, _]) (pc := 3) dX7_best_3 (tX7_in) lk_X7_68 ykX7_in zkX7_in rfl rfl (Nat.le_of_ble_eq_true rfl) ⟨by decide, by decide⟩ ⟨Nat.le_refl _, Nat.le_refl _⟩ (fun i3 w1 r3 p3 => ?_)
  obtain ⟨e3, p3⟩ := p3
  rw [e3]
  refine ex_if_ne (pc := 6) dX7_best_6 (tgt := 11) (by decide) (fun c6 => ?_) (fun c6 => ?_)
  · refine ex_aload_n (pc := 11) dX7_best_11 rfl ?_
    refine ex_aload_n (pc := 12) dX7_best_12 rfl ?_
    refine ex_getfield (pc := 13) dX7_best_13 fk_X7_7 h_o (by rfl) ?_
    refine ex_aload_n (pc := 16) dX7_best_16 rfl ?_
    refine ex_getfield (pc := 17) dX7_best_17 fk_X7_7 h_o (by rfl) ?_
    refine ex_callSI (as := [_]) (pc := 20) dX7_best_20 (tX7_allOf h_n (by decide) hR.1 hl) lk_X7_166 ykX7_allOf zkX7_allOf rfl rfl (Nat.le_of_ble_eq_true rfl) ⟨by decide, by decide⟩ ⟨Nat.le_refl _, Nat.le_refl _⟩ (fun i20 w1 r20 p20 => ?_)
    obtain ⟨ew, ep⟩ := p20
    rw [ew, ep]
    refine ex_callVV (as := [_, _]) (pc := 23) dX7_best_23 (tX7_findsBest h_o h_n hR h_A h_G h_S (by decide) hl hcd hal) lk_X7_170 ykX7_findsBest vkX7_findsBest h_o rfl rfl rfl (Nat.le_of_ble_eq_true rfl) ⟨by decide, by decide⟩ ⟨Nat.le_refl _, Nat.le_refl _⟩ (fun w1 p23 => ?_)
    obtain ⟨⟨nu, lg, h1_A, hnu, h1_G, hlg⟩, ⟨ss, h1_S, hss⟩, ⟨pq2, cv2, be2, bg2, bc2, bp2, hBE, h1_o⟩, hfL⟩ := p23
    have h1_n := (hfL 56 (by decide) (by decide) (by decide) (by decide)).trans h_n
    have h1_r := (hfL 57 (by decide) (by decide) (by decide) (by decide)).trans h_r
    have h1_a := (hfL 58 (by decide) (by decide) (by decide) (by decide)).trans h_a
    have h1_p := (hfL 59 (by decide) (by decide) (by decide) (by decide)).trans h_p
    have h1_k := (hfL 60 (by decide) (by decide) (by decide) (by decide)).trans h_k
    have h1_t := (hfL 61 (by decide) (by decide) (by decide) (by decide)).trans h_t
    have h1_P := (hfL 65 (by decide) (by decide) (by decide) (by decide)).trans h_P
    have h1_F := (hfL 66 (by decide) (by decide) (by decide) (by decide)).trans h_F
    have h1_V := (hfL 67 (by decide) (by decide) (by decide) (by decide)).trans h_V
    have hbr := bestS_rng s.1 s.2.1 (Al s.1)
    have hb0 := hBE.1
    refine ex_aload_n (pc := 26) dX7_best_26 rfl ?_
    refine ex_getfield (pc := 27) dX7_best_27 fk_X7_148 h1_o (by rfl) ?_
    refine ex_bipush (pc := 30) dX7_best_30 (by decide) ?_
    refine ex_icmp_ne (pc := 32) dX7_best_32 (tgt := 40) (by decide) (fun c32 => ?_) (fun c32 => ?_)
    · refine ex_iload_n (pc := 40) dX7_best_40 rfl ?_
      refine ex_if_ne (pc := 41) dX7_best_41 (tgt := 51) (by decide) (fun c41 => ?_) (fun c41 => ?_)
      · have hgr := gnS_rng (mo := s.2.1) (pr := Al s.1) hl ((shL s.1 s.2.1 (Al s.1)).getD (bestS s.1 s.2.1 (Al s.1)).toNat 0)
        have hb1 : bg2 = gnS s.1 s.2.1 (Al s.1) ((shL s.1 s.2.1 (Al s.1)).getD (bestS s.1 s.2.1 (Al s.1)).toNat 0) := (hBE.2 (by omega)).1
        refine ex_aload_n (pc := 51) dX7_best_51 rfl ?_
        refine ex_getfield (pc := 52) dX7_best_52 fk_X7_151 h1_o (by rfl) ?_
        refine ex_bipush (pc := 55) dX7_best_55 (by decide) ?_
        refine ex_iadd (pc := 57) dX7_best_57 (by unfold inI; omega) ?_
        exact ex_iret (pc := 58) dX7_best_58 ⟨by unfold opBest; rw [if_neg (by omega), if_neg (by omega), if_neg (by omega), (hBE.2 (by omega)).1], RefS.qq hS0 h1_o ⟨_, h1_a⟩ ⟨_, h1_A⟩ ⟨_, h1_G⟩ ⟨_, h1_S⟩ ⟨_, h1_P⟩ ⟨_, h1_F⟩ ⟨_, h1_V⟩ (fun z hz z1 z2 => hfL z z1 (by omega) (by omega) (by omega))⟩ rfl (Nat.le_refl _)
      · refine ex_aload_n (pc := 44) dX7_best_44 rfl ?_
        refine ex_getfield (pc := 45) dX7_best_45 fk_X7_148 h1_o (by rfl) ?_
        refine ex_goto (pc := 48) dX7_best_48 (tgt := 58) (by decide) ?_
        exact ex_iret (pc := 58) dX7_best_58 ⟨by unfold opBest; rw [if_neg (by omega), if_neg (by omega), if_pos (by omega)]; exact hBE.1, RefS.qq hS0 h1_o ⟨_, h1_a⟩ ⟨_, h1_A⟩ ⟨_, h1_G⟩ ⟨_, h1_S⟩ ⟨_, h1_P⟩ ⟨_, h1_F⟩ ⟨_, h1_V⟩ (fun z hz z1 z2 => hfL z z1 (by omega) (by omega) (by omega))⟩ rfl (Nat.le_refl _)
    · refine ex_bipush (pc := 35) dX7_best_35 (by decide) ?_
      refine ex_goto (pc := 37) dX7_best_37 (tgt := 58) (by decide) ?_
      exact ex_iret (pc := 58) dX7_best_58 ⟨by unfold opBest; rw [if_neg (by omega), if_pos (by omega)], RefS.qq hS0 h1_o ⟨_, h1_a⟩ ⟨_, h1_A⟩ ⟨_, h1_G⟩ ⟨_, h1_S⟩ ⟨_, h1_P⟩ ⟨_, h1_F⟩ ⟨_, h1_V⟩ (fun z hz z1 z2 => hfL z z1 (by omega) (by omega) (by omega))⟩ rfl (Nat.le_refl _)
  · refine ex_iconst (pc := 9) dX7_best_9 (by decide) ?_
    exact ex_iret (pc := 10) dX7_best_10 ⟨by unfold opBest; rw [if_pos (by omega)], hS0, fun _ _ => rfl⟩ rfl (Nat.le_refl _)

abbrev mX7_place : xC := mkC yX7_place cX7_place 5 (some .int) 6 600 0 0
set_option maxHeartbeats 4000000 in
set_option maxRecDepth 100000 in
theorem tX7_place {n : Nat} {w : xW} {s : St} (hS : RefS w s) {a j : Int} : Ctr mX7_place [xr 55, xi a, xi j] n w (pI (fun v w2 => v = opPlace s a j ∧ RefS w2 s ∧ FrR w w2)) := by
  refine Ctr.of ykX7_place rfl (Nat.le_of_ble_eq_true rfl) okI (fun hin hW => ?_)
  have hS0 := hS
  obtain ⟨hv, hsc, ⟨pl, mn, pq, cv, sh, be, bg, bc, bp, pa, re, px, h_o⟩, ⟨f, h_n, hR⟩, ⟨g, h_p, hU⟩, hu8, ⟨kf, h_k, hK⟩, hk2, ⟨t, h_t, ht⟩, hlen⟩ := hS
  have hl : s.1.length ≤ 14 := hv.1.2.2.1
  have hl1 : 1 ≤ s.1.length := hv.1.2.1
  have hcd : Cod s.1 := hv.1.1
  have hsc0 := hsc
  obtain ⟨⟨f57, h_r⟩, ⟨f58, h_a⟩, ⟨f62, h_A⟩, ⟨f63, h_G⟩, ⟨f64, h_S⟩, ⟨f65, h_P⟩, ⟨f66, h_F⟩, ⟨f67, h_V⟩⟩ := hsc
  have hal := Al_lt s.1
  have hal2 := Al_16 hl
  have hAl : Al s.1 = 2 ^ s.1.length - 1 := rfl
  show Ex _ _ 0 0 n w 0 [some (xr 55), some (xi a), some (xi j), none, none] []
  have loop : ∀ (w1 : xW) (lg : Nat → Int) (mn pq cv sh be bg bc bp pa re px : Int), w1 55 = rO (s.2.2.1.length) (s.2.2.2.1.length) (s.2.2.2.2.length) pl mn pq cv sh be bg bc bp pa re px → w1 63 = xA 897 lg → (∀ k, k < 897 → lg k = (lgS s.1 s.2.1 (Al s.1) k : Int)) → (RefS w1 s ∧ FrR w w1) → ∀ (m : Nat), a = m → 1 ≤ m → m ≤ Al s.1 → -1 ≤ j → ∀ (d k c9 : Nat), k ≤ 897 → 898 ≤ k + d → c9 ≤ k → (j = -1 ∨ (c9 : Int) ≤ j) → c9 = ((List.range k).filter (fun k => lgS s.1 s.2.1 (Al s.1) k &&& m == m)).length → Ex mX7_place (pI (fun v w2 => v = opPlace s a j ∧ RefS w2 s ∧ FrR w w2)) 0 0 n w1 42 [some (xr 55), some (xi a), some (xi j), some (xi c9), some (xi k)] [] := by
    intro w1 lg mn pq cv sh be bg bc bp pa re px h1_o h1_G hlg hfin m ham hm1 hm2 hj1 d
    subst ham
    have hmm : ((m : Int)).toNat = m := by omega
    have hal2 := Al_16 hl
    induction d with
    | zero => intro k c9 h1 h2; omega
    | succ d ih =>
      intro k c9 h1 h2 hc hcj he
      refine ex_iload (pc := 42) dX7_place_42 rfl ?_
      refine ex_sipush (pc := 44) dX7_place_44 (by decide) ?_
      refine ex_icmp_ge (pc := 47) dX7_place_47 (tgt := 98) (by decide) (fun c47 => ?_) (fun c47 => ?_)
      · have hkl : k = 897 := by omega
        refine ex_iload_n (pc := 98) dX7_place_98 rfl ?_
        refine ex_iconst (pc := 99) dX7_place_99 (by decide) ?_
        refine ex_icmp_ne (pc := 100) dX7_place_100 (tgt := 107) (by decide) (fun c100 => ?_) (fun c100 => ?_)
        · refine ex_bipush (pc := 107) dX7_place_107 (by decide) ?_
          have hget : (plcL s.1 s.2.1 (Al s.1) m)[j.toNat]? = none := List.getElem?_eq_none (by unfold plcL; rw [← hkl, ← he]; omega)
          exact ex_iret (pc := 109) dX7_place_109 ⟨by unfold opPlace; rw [if_neg (by omega), if_neg (by omega), hmm]; unfold plcI; rw [hget], hfin⟩ rfl (Nat.le_refl _)
        · refine ex_iload_n (pc := 103) dX7_place_103 rfl ?_
          refine ex_goto (pc := 104) dX7_place_104 (tgt := 109) (by decide) ?_
          exact ex_iret (pc := 109) dX7_place_109 ⟨by unfold opPlace; rw [if_neg (by omega), if_pos (by omega), hmm]; unfold plcL; rw [← hkl, ← he], hfin⟩ rfl (Nat.le_refl _)
      · refine ex_aload_n (pc := 50) dX7_place_50 rfl ?_
        refine ex_getfield (pc := 51) dX7_place_51 fk_X7_31 h1_o (by rfl) ?_
        refine ex_iload (pc := 54) dX7_place_54 rfl ?_
        refine ex_iaload (pc := 56) dX7_place_56 h1_G (by omega) (by omega) ?_
        have hk1 : ((k : Int)).toNat = k := by omega
        rw [hk1, hlg k (by omega)]
        refine ex_iload_n (pc := 57) dX7_place_57 rfl ?_
        refine ex_iand (pc := 58) dX7_place_58 ?_
        rw [xand_n (Nat.lt_trans (lgS_lt _ _ _ k) (by decide))]
        refine ex_iload_n (pc := 59) dX7_place_59 rfl ?_
        refine ex_icmp_ne (pc := 60) dX7_place_60 (tgt := 92) (by decide) (fun c60 => ?_) (fun c60 => ?_)
        · refine ex_iinc (L2 := [_, _, _, _, _]) (pc := 92) dX7_place_92 rfl rfl (Nat.le_of_ble_eq_true rfl) (by unfold inI; omega) rfl ?_
          refine ex_goto (pc := 95) dX7_place_95 (tgt := 42) (by decide) ?_
          exact ih (k + 1) c9 (by omega) (by omega) (by omega) (by omega) (by rw [filt_s, if_neg (by rw [beq_iff_eq]; omega), List.append_nil]; exact he)
        · refine ex_iload_n (pc := 63) dX7_place_63 rfl ?_
          refine ex_iload_n (pc := 64) dX7_place_64 rfl ?_
          refine ex_icmp_ne (pc := 65) dX7_place_65 (tgt := 89) (by decide) (fun c65 => ?_) (fun c65 => ?_)
          · refine ex_iinc (L2 := [_, _, _, _, _]) (pc := 89) dX7_place_89 rfl rfl (Nat.le_of_ble_eq_true rfl) (by unfold inI; omega) rfl ?_
            refine ex_iinc (L2 := [_, _, _, _, _]) (pc := 92) dX7_place_92 rfl rfl (Nat.le_of_ble_eq_true rfl) (by unfold inI; omega) rfl ?_
            refine ex_goto (pc := 95) dX7_place_95 (tgt := 42) (by decide) ?_
            exact ih (k + 1) (c9 + 1) (by omega) (by omega) (by omega) (by omega) (by rw [filt_s, if_pos (by rw [beq_iff_eq]; omega), List.length_append, ← he]; rfl)
          · refine ex_bipush (pc := 68) dX7_place_68 (by decide) ?_
            refine ex_iload (pc := 70) dX7_place_70 rfl ?_
            refine ex_bipush (pc := 72) dX7_place_72 (by decide) ?_
            refine ex_idiv (pc := 74) dX7_place_74 (by omega) (by omega) ?_
            refine ex_bipush (pc := 75) dX7_place_75 (by decide) ?_
            refine ex_iadd (pc := 77) dX7_place_77 (by unfold inI; omega) ?_
            refine ex_imul (pc := 78) dX7_place_78 (by unfold inI; omega) ?_
            refine ex_iload (pc := 79) dX7_place_79 rfl ?_
            refine ex_bipush (pc := 81) dX7_place_81 (by decide) ?_
            refine ex_irem (pc := 83) dX7_place_83 (by omega) (by omega) ?_
            refine ex_iadd (pc := 84) dX7_place_84 (by unfold inI; omega) ?_
            refine ex_bipush (pc := 85) dX7_place_85 (by decide) ?_
            refine ex_iadd (pc := 87) dX7_place_87 (by unfold inI; omega) ?_
            obtain ⟨t9, ht9⟩ := filt_pre (f := fun k => lgS s.1 s.2.1 (Al s.1) k &&& m == m) (show k + 1 ≤ 897 by omega)
            have hget : (plcL s.1 s.2.1 (Al s.1) m)[j.toNat]? = some k := by
              unfold plcL
              rw [ht9, filt_s, if_pos (by rw [beq_iff_eq]; omega), List.append_assoc, List.getElem?_append_right (by omega), show j.toNat - ((List.range k).filter (fun k => lgS s.1 s.2.1 (Al s.1) k &&& m == m)).length = 0 by omega]
              rfl
            exact ex_iret (pc := 88) dX7_place_88 ⟨by unfold opPlace; rw [if_neg (by omega), if_neg (by omega), hmm]; unfold plcI; rw [hget]; show _ = 100 * (dK k + 50) + eK k + 50; unfold dK eK; omega, hfin⟩ rfl (Nat.le_refl _)
  refine ex_iload_n (pc := 0) dX7_place_0 rfl ?_
  refine ex_iconst (pc := 1) dX7_place_1 (by decide) ?_
  refine ex_aload_n (pc := 2) dX7_place_2 rfl ?_
  refine ex_getfield (pc := 3) dX7_place_3 fk_X7_7 h_o (by rfl) ?_
  refine ex_callSI (as := [_]) (pc := 6) dX7_place_6 (tX7_allOf h_n (by decide) hR.1 hl) lk_X7_166 ykX7_allOf zkX7_allOf rfl rfl (Nat.le_of_ble_eq_true rfl) ⟨by decide, by decide⟩ ⟨Nat.le_refl _, Nat.le_refl _⟩ (fun i6 w1 r6 p6 => ?_)
  obtain ⟨ew, ep⟩ := p6
  rw [ew, ep]
  refine ex_callSZ (as := [_, _, _]) (pc := 9) dX7_place_9 (tX7_in) lk_X7_68 ykX7_in zkX7_in rfl rfl (Nat.le_of_ble_eq_true rfl) ⟨by decide, by decide⟩ ⟨Nat.le_refl _, Nat.le_refl _⟩ (fun i9 w1 r9 p9 => ?_)
  obtain ⟨e9, p9⟩ := p9
  rw [e9]
  refine ex_if_eq (pc := 12) dX7_place_12 (tgt := 20) (by decide) (fun c12 => ?_) (fun c12 => ?_)
  · refine ex_iconst (pc := 20) dX7_place_20 (by decide) ?_
    exact ex_iret (pc := 21) dX7_place_21 ⟨by unfold opPlace; rw [if_pos (by omega)], hS0, fun _ _ => rfl⟩ rfl (Nat.le_refl _)
  · refine ex_iload_n (pc := 15) dX7_place_15 rfl ?_
    refine ex_iconst (pc := 16) dX7_place_16 (by decide) ?_
    refine ex_icmp_ge (pc := 17) dX7_place_17 (tgt := 22) (by decide) (fun c17 => ?_) (fun c17 => ?_)
    · refine ex_aload_n (pc := 22) dX7_place_22 rfl ?_
      refine ex_aload_n (pc := 23) dX7_place_23 rfl ?_
      refine ex_getfield (pc := 24) dX7_place_24 fk_X7_7 h_o (by rfl) ?_
      refine ex_aload_n (pc := 27) dX7_place_27 rfl ?_
      refine ex_getfield (pc := 28) dX7_place_28 fk_X7_7 h_o (by rfl) ?_
      refine ex_callSI (as := [_]) (pc := 31) dX7_place_31 (tX7_allOf h_n (by decide) hR.1 hl) lk_X7_166 ykX7_allOf zkX7_allOf rfl rfl (Nat.le_of_ble_eq_true rfl) ⟨by decide, by decide⟩ ⟨Nat.le_refl _, Nat.le_refl _⟩ (fun i31 w1 r31 p31 => ?_)
      obtain ⟨ew, ep⟩ := p31
      rw [ew, ep]
      refine ex_callVV (as := [_, _]) (pc := 34) dX7_place_34 (tX7_lays h_o h_n hR h_A h_G (by decide) hl hcd hal) lk_X7_139 ykX7_lays vkX7_lays h_o rfl rfl rfl (Nat.le_of_ble_eq_true rfl) ⟨by decide, by decide⟩ ⟨Nat.le_refl _, Nat.le_refl _⟩ (fun w1 p34 => ?_)
      obtain ⟨⟨nu, lg, h1_A, hnu, h1_G, hlg⟩, h1_o, hfL⟩ := p34
      have h1_n := (hfL 56 (by decide) (by decide) (by decide)).trans h_n
      have h1_r := (hfL 57 (by decide) (by decide) (by decide)).trans h_r
      have h1_a := (hfL 58 (by decide) (by decide) (by decide)).trans h_a
      have h1_p := (hfL 59 (by decide) (by decide) (by decide)).trans h_p
      have h1_k := (hfL 60 (by decide) (by decide) (by decide)).trans h_k
      have h1_t := (hfL 61 (by decide) (by decide) (by decide)).trans h_t
      have h1_S := (hfL 64 (by decide) (by decide) (by decide)).trans h_S
      have h1_P := (hfL 65 (by decide) (by decide) (by decide)).trans h_P
      have h1_F := (hfL 66 (by decide) (by decide) (by decide)).trans h_F
      have h1_V := (hfL 67 (by decide) (by decide) (by decide)).trans h_V
      refine ex_iconst (pc := 37) dX7_place_37 (by decide) ?_
      refine ex_istore_n (L2 := [_, _, _, _, _]) (pc := 38) dX7_place_38 rfl (Nat.le_of_ble_eq_true rfl) rfl ?_
      refine ex_iconst (pc := 39) dX7_place_39 (by decide) ?_
      refine ex_istore (L2 := [_, _, _, _, _]) (pc := 40) dX7_place_40 rfl (Nat.le_of_ble_eq_true rfl) rfl ?_
      exact loop w1 lg _ _ _ _ _ _ _ _ _ _ _ h1_o h1_G hlg (RefS.qq hS0 h1_o ⟨_, h1_a⟩ ⟨_, h1_A⟩ ⟨_, h1_G⟩ ⟨_, h1_S⟩ ⟨_, h1_P⟩ ⟨_, h1_F⟩ ⟨_, h1_V⟩ (fun z hz z1 z2 => hfL z z1 (by omega) (by omega))) a.toNat (by omega) (by omega) (by omega) (by omega) 898 0 0 (by omega) (by omega) (by omega) (by omega) rfl
    · refine ex_iconst (pc := 20) dX7_place_20 (by decide) ?_
      exact ex_iret (pc := 21) dX7_place_21 ⟨by unfold opPlace; rw [if_pos (by omega)], hS0, fun _ _ => rfl⟩ rfl (Nat.le_refl _)

abbrev mX7_link : xC := mkC yX7_link cX7_link 6 (some .int) 6 600 0 0
set_option maxHeartbeats 4000000 in
set_option maxRecDepth 100000 in
theorem tX7_link {n : Nat} {w : xW} {s : St} (hS : RefS w s) {a b c : Int} : Ctr mX7_link [xr 55, xi a, xi b, xi c] n w (pI (fun v w2 => v = opLink s a b c ∧ RefS w2 s ∧ FrR w w2)) := by
  refine Ctr.of ykX7_link rfl (Nat.le_of_ble_eq_true rfl) okI (fun hin hW => ?_)
  have hS0 := hS
  obtain ⟨hv, hsc, ⟨pl, mn, pq, cv, sh, be, bg, bc, bp, pa, re, px, h_o⟩, ⟨f, h_n, hR⟩, ⟨g, h_p, hU⟩, hu8, ⟨kf, h_k, hK⟩, hk2, ⟨t, h_t, ht⟩, hlen⟩ := hS
  have hl : s.1.length ≤ 14 := hv.1.2.2.1
  have hl1 : 1 ≤ s.1.length := hv.1.2.1
  have hcd : Cod s.1 := hv.1.1
  have hsc0 := hsc
  obtain ⟨⟨f57, h_r⟩, ⟨f58, h_a⟩, ⟨f62, h_A⟩, ⟨f63, h_G⟩, ⟨f64, h_S⟩, ⟨f65, h_P⟩, ⟨f66, h_F⟩, ⟨f67, h_V⟩⟩ := hsc
  have hal := Al_lt s.1
  have hal2 := Al_16 hl
  have hAl : Al s.1 = 2 ^ s.1.length - 1 := rfl
  show Ex _ _ 0 0 n w 0 [some (xr 55), some (xi a), some (xi b), some (xi c), none, none] []
  refine ex_aload_n (pc := 0) dX7_link_0 rfl ?_
  refine ex_iload_n (pc := 1) dX7_link_1 rfl ?_
  refine ex_callVZ (as := [_]) (pc := 2) dX7_link_2 (tX7_isNote h_o h_n hR hl) lk_X7_92 ykX7_isNote vkX7_isNote h_o rfl rfl rfl (Nat.le_of_ble_eq_true rfl) ⟨by decide, by decide⟩ ⟨Nat.le_refl _, Nat.le_refl _⟩ (fun i2 w1 r2 p2 => ?_)
  obtain ⟨e2, p2⟩ := p2
  rw [e2]
  refine ex_if_eq (pc := 5) dX7_link_5 (tgt := 30) (by decide) (fun c5 => ?_) (fun c5 => ?_)
  · refine ex_iconst (pc := 30) dX7_link_30 (by decide) ?_
    exact ex_iret (pc := 31) dX7_link_31 ⟨by unfold opLink; rw [if_pos (by omega)], hS0, fun _ _ => rfl⟩ rfl (Nat.le_refl _)
  · refine ex_aload_n (pc := 8) dX7_link_8 rfl ?_
    refine ex_iload_n (pc := 9) dX7_link_9 rfl ?_
    refine ex_callVZ (as := [_]) (pc := 10) dX7_link_10 (tX7_isNote h_o h_n hR hl) lk_X7_92 ykX7_isNote vkX7_isNote h_o rfl rfl rfl (Nat.le_of_ble_eq_true rfl) ⟨by decide, by decide⟩ ⟨Nat.le_refl _, Nat.le_refl _⟩ (fun i10 w1 r10 p10 => ?_)
    obtain ⟨e10, p10⟩ := p10
    rw [e10]
    refine ex_if_eq (pc := 13) dX7_link_13 (tgt := 30) (by decide) (fun c13 => ?_) (fun c13 => ?_)
    · refine ex_iconst (pc := 30) dX7_link_30 (by decide) ?_
      exact ex_iret (pc := 31) dX7_link_31 ⟨by unfold opLink; rw [if_neg (by omega), if_pos (by omega)], hS0, fun _ _ => rfl⟩ rfl (Nat.le_refl _)
    · refine ex_iload_n (pc := 16) dX7_link_16 rfl ?_
      refine ex_iload_n (pc := 17) dX7_link_17 rfl ?_
      refine ex_icmp_eq (pc := 18) dX7_link_18 (tgt := 30) (by decide) (fun c18 => ?_) (fun c18 => ?_)
      · refine ex_iconst (pc := 30) dX7_link_30 (by decide) ?_
        exact ex_iret (pc := 31) dX7_link_31 ⟨by unfold opLink; rw [if_neg (by omega), if_neg (by omega), if_pos (by omega)], hS0, fun _ _ => rfl⟩ rfl (Nat.le_refl _)
      · refine ex_iload_n (pc := 21) dX7_link_21 rfl ?_
        refine ex_iconst (pc := 22) dX7_link_22 (by decide) ?_
        refine ex_iconst (pc := 23) dX7_link_23 (by decide) ?_
        refine ex_callSZ (as := [_, _, _]) (pc := 24) dX7_link_24 (tX7_in) lk_X7_68 ykX7_in zkX7_in rfl rfl (Nat.le_of_ble_eq_true rfl) ⟨by decide, by decide⟩ ⟨Nat.le_refl _, Nat.le_refl _⟩ (fun i24 w1 r24 p24 => ?_)
        obtain ⟨e24, p24⟩ := p24
        rw [e24]
        refine ex_if_ne (pc := 27) dX7_link_27 (tgt := 32) (by decide) (fun c27 => ?_) (fun c27 => ?_)
        · obtain ⟨x, hx⟩ : ∃ x : Nat, a = x := ⟨a.toNat, by omega⟩
          subst hx
          obtain ⟨y, hy⟩ : ∃ y : Nat, b = y := ⟨b.toNat, by omega⟩
          subst hy
          have hja : ((x : Int)).toNat = x := by omega
          have hjb : ((y : Int)).toNat = y := by omega
          have h9x := hR.2.2 x (by omega)
          have e2x : f ((2 : Int) + (x : Int)).toNat = tmL s.1 x := by rw [← h9x.1, show ((2 : Int) + (x : Int)).toNat = 0 + 2 + x by omega]
          have e16x : f ((16 : Int) + (x : Int)).toNat = ptL s.1 x := by rw [← h9x.2, show ((16 : Int) + (x : Int)).toNat = 0 + 16 + x by omega]
          have hckx := hcd x (by omega)
          have htmx : 0 ≤ tmL s.1 x ∧ tmL s.1 x < 20 ∧ 0 ≤ ptL s.1 x ∧ ptL s.1 x < 12 := by unfold tmL ptL; omega
          have h9y := hR.2.2 y (by omega)
          have e2y : f ((2 : Int) + (y : Int)).toNat = tmL s.1 y := by rw [← h9y.1, show ((2 : Int) + (y : Int)).toNat = 0 + 2 + y by omega]
          have e16y : f ((16 : Int) + (y : Int)).toNat = ptL s.1 y := by rw [← h9y.2, show ((16 : Int) + (y : Int)).toNat = 0 + 16 + y by omega]
          have hcky := hcd y (by omega)
          have htmy : 0 ≤ tmL s.1 y ∧ tmL s.1 y < 20 ∧ 0 ≤ ptL s.1 y ∧ ptL s.1 y < 12 := by unfold tmL ptL; omega
          refine ex_aload_n (pc := 32) dX7_link_32 rfl ?_
          refine ex_getfield (pc := 33) dX7_link_33 fk_X7_7 h_o (by rfl) ?_
          refine ex_iconst (pc := 36) dX7_link_36 (by decide) ?_
          refine ex_iload_n (pc := 37) dX7_link_37 rfl ?_
          refine ex_iadd (pc := 38) dX7_link_38 (by unfold inI; omega) ?_
          refine ex_iaload (pc := 39) dX7_link_39 h_n (by omega) (by omega) ?_
          rw [e2y]
          refine ex_aload_n (pc := 40) dX7_link_40 rfl ?_
          refine ex_getfield (pc := 41) dX7_link_41 fk_X7_7 h_o (by rfl) ?_
          refine ex_iconst (pc := 44) dX7_link_44 (by decide) ?_
          refine ex_iload_n (pc := 45) dX7_link_45 rfl ?_
          refine ex_iadd (pc := 46) dX7_link_46 (by unfold inI; omega) ?_
          refine ex_iaload (pc := 47) dX7_link_47 h_n (by omega) (by omega) ?_
          rw [e2x]
          refine ex_isub (pc := 48) dX7_link_48 (by unfold inI; omega) ?_
          refine ex_istore (L2 := [_, _, _, _, _, _]) (pc := 49) dX7_link_49 rfl (Nat.le_of_ble_eq_true rfl) rfl ?_
          refine ex_aload_n (pc := 51) dX7_link_51 rfl ?_
          refine ex_getfield (pc := 52) dX7_link_52 fk_X7_7 h_o (by rfl) ?_
          refine ex_bipush (pc := 55) dX7_link_55 (by decide) ?_
          refine ex_iload_n (pc := 57) dX7_link_57 rfl ?_
          refine ex_iadd (pc := 58) dX7_link_58 (by unfold inI; omega) ?_
          refine ex_iaload (pc := 59) dX7_link_59 h_n (by omega) (by omega) ?_
          rw [e16y]
          refine ex_aload_n (pc := 60) dX7_link_60 rfl ?_
          refine ex_getfield (pc := 61) dX7_link_61 fk_X7_7 h_o (by rfl) ?_
          refine ex_bipush (pc := 64) dX7_link_64 (by decide) ?_
          refine ex_iload_n (pc := 66) dX7_link_66 rfl ?_
          refine ex_iadd (pc := 67) dX7_link_67 (by unfold inI; omega) ?_
          refine ex_iaload (pc := 68) dX7_link_68 h_n (by omega) (by omega) ?_
          rw [e16x]
          refine ex_isub (pc := 69) dX7_link_69 (by unfold inI; omega) ?_
          refine ex_istore (L2 := [_, _, _, _, _, _]) (pc := 70) dX7_link_70 rfl (Nat.le_of_ble_eq_true rfl) rfl ?_
          refine ex_aload_n (pc := 72) dX7_link_72 rfl ?_
          refine ex_getfield (pc := 73) dX7_link_73 fk_X7_7 h_o (by rfl) ?_
          refine ex_iconst (pc := 76) dX7_link_76 (by decide) ?_
          refine ex_iaload (pc := 77) dX7_link_77 h_n (by omega) (by omega) ?_
          have hz1 : f (1 : Int).toNat = s.2.1 := hR.2.1
          rw [hz1]
          refine ex_iconst (pc := 78) dX7_link_78 (by decide) ?_
          refine ex_icmp_ne (pc := 79) dX7_link_79 (tgt := 93) (by decide) (fun c79 => ?_) (fun c79 => ?_)
          · have hle0 : linkE s.2.1 (ptL s.1 y - ptL s.1 x) = ptL s.1 y - ptL s.1 x := by unfold linkE; rw [if_neg (by omega)]
            refine ex_iload (pc := 93) dX7_link_93 rfl ?_
            refine ex_istore (L2 := [_, _, _, _, _, _]) (pc := 95) dX7_link_95 rfl (Nat.le_of_ble_eq_true rfl) rfl ?_
            refine ex_iload_n (pc := 97) dX7_link_97 rfl ?_
            refine ex_iconst (pc := 98) dX7_link_98 (by decide) ?_
            refine ex_icmp_ge (pc := 99) dX7_link_99 (tgt := 117) (by decide) (fun c99 => ?_) (fun c99 => ?_)
            · refine ex_aload_n (pc := 117) dX7_link_117 rfl ?_
              refine ex_aload_n (pc := 118) dX7_link_118 rfl ?_
              refine ex_getfield (pc := 119) dX7_link_119 fk_X7_7 h_o (by rfl) ?_
              refine ex_aload_n (pc := 122) dX7_link_122 rfl ?_
              refine ex_getfield (pc := 123) dX7_link_123 fk_X7_7 h_o (by rfl) ?_
              refine ex_callSI (as := [_]) (pc := 126) dX7_link_126 (tX7_allOf h_n (by decide) hR.1 hl) lk_X7_166 ykX7_allOf zkX7_allOf rfl rfl (Nat.le_of_ble_eq_true rfl) ⟨by decide, by decide⟩ ⟨Nat.le_refl _, Nat.le_refl _⟩ (fun i126 w1 r126 p126 => ?_)
              obtain ⟨ew, ep⟩ := p126
              rw [ew, ep]
              refine ex_callVV (as := [_, _]) (pc := 129) dX7_link_129 (tX7_lays h_o h_n hR h_A h_G (by decide) hl hcd hal) lk_X7_139 ykX7_lays vkX7_lays h_o rfl rfl rfl (Nat.le_of_ble_eq_true rfl) ⟨by decide, by decide⟩ ⟨Nat.le_refl _, Nat.le_refl _⟩ (fun w1 p129 => ?_)
              obtain ⟨⟨nu, lg, h1_A, hnu, h1_G, hlg⟩, h1_o, hfL⟩ := p129
              have h1_n := (hfL 56 (by decide) (by decide) (by decide)).trans h_n
              have h1_r := (hfL 57 (by decide) (by decide) (by decide)).trans h_r
              have h1_a := (hfL 58 (by decide) (by decide) (by decide)).trans h_a
              have h1_p := (hfL 59 (by decide) (by decide) (by decide)).trans h_p
              have h1_k := (hfL 60 (by decide) (by decide) (by decide)).trans h_k
              have h1_t := (hfL 61 (by decide) (by decide) (by decide)).trans h_t
              have h1_S := (hfL 64 (by decide) (by decide) (by decide)).trans h_S
              have h1_P := (hfL 65 (by decide) (by decide) (by decide)).trans h_P
              have h1_F := (hfL 66 (by decide) (by decide) (by decide)).trans h_F
              have h1_V := (hfL 67 (by decide) (by decide) (by decide)).trans h_V
              refine ex_aload_n (pc := 132) dX7_link_132 rfl ?_
              refine ex_getfield (pc := 133) dX7_link_133 fk_X7_31 h1_o (by rfl) ?_
              refine ex_bipush (pc := 136) dX7_link_136 (by decide) ?_
              refine ex_iload (pc := 138) dX7_link_138 rfl ?_
              refine ex_bipush (pc := 140) dX7_link_140 (by decide) ?_
              refine ex_iadd (pc := 142) dX7_link_142 (by unfold inI; omega) ?_
              refine ex_imul (pc := 143) dX7_link_143 (by unfold inI; omega) ?_
              refine ex_iload (pc := 144) dX7_link_144 rfl ?_
              refine ex_iadd (pc := 146) dX7_link_146 (by unfold inI; omega) ?_
              refine ex_bipush (pc := 147) dX7_link_147 (by decide) ?_
              refine ex_iadd (pc := 149) dX7_link_149 (by unfold inI; omega) ?_
              refine ex_iaload (pc := 150) dX7_link_150 h1_G (by omega) (by omega) ?_
              rw [hlg _ (by omega)]
              refine ex_callSI (as := [_]) (pc := 151) dX7_link_151 (tX7_bits (lgS_lt _ _ _ _)) lk_X7_132 ykX7_bits zkX7_bits rfl rfl (Nat.le_of_ble_eq_true rfl) ⟨by decide, by decide⟩ ⟨Nat.le_refl _, Nat.le_refl _⟩ (fun i151 w2 r151 p151 => ?_)
              obtain ⟨e151, p151⟩ := p151
              rw [e151]
              exact ex_iret (pc := 154) dX7_link_154 ⟨by unfold opLink; rw [if_neg (by omega), if_neg (by omega), if_neg (by omega), if_neg (by omega), if_neg (by omega), if_pos (by omega), hja, hjb, hle0, p151, show (tmL s.1 y - tmL s.1 x + 19) * 23 = 23 * (tmL s.1 y - tmL s.1 x + 19) by omega], RefS.qq hS0 h1_o ⟨_, h1_a⟩ ⟨_, h1_A⟩ ⟨_, h1_G⟩ ⟨_, h1_S⟩ ⟨_, h1_P⟩ ⟨_, h1_F⟩ ⟨_, h1_V⟩ (fun z hz z1 z2 => hfL z z1 (by omega) (by omega))⟩ rfl (Nat.le_refl _)
            · refine ex_iload_n (pc := 102) dX7_link_102 rfl ?_
              refine ex_if_ne (pc := 103) dX7_link_103 (tgt := 111) (by decide) (fun c103 => ?_) (fun c103 => ?_)
              · refine ex_iload (pc := 111) dX7_link_111 rfl ?_
                refine ex_bipush (pc := 113) dX7_link_113 (by decide) ?_
                refine ex_iadd (pc := 115) dX7_link_115 (by unfold inI; omega) ?_
                exact ex_iret (pc := 116) dX7_link_116 ⟨by unfold opLink; rw [if_neg (by omega), if_neg (by omega), if_neg (by omega), if_neg (by omega), if_pos (by omega), hja, hjb, hle0], hS0, fun _ _ => rfl⟩ rfl (Nat.le_refl _)
              · refine ex_iload (pc := 106) dX7_link_106 rfl ?_
                refine ex_goto (pc := 108) dX7_link_108 (tgt := 113) (by decide) ?_
                refine ex_bipush (pc := 113) dX7_link_113 (by decide) ?_
                refine ex_iadd (pc := 115) dX7_link_115 (by unfold inI; omega) ?_
                exact ex_iret (pc := 116) dX7_link_116 ⟨by unfold opLink; rw [if_neg (by omega), if_neg (by omega), if_neg (by omega), if_pos (by omega), hja, hjb], hS0, fun _ _ => rfl⟩ rfl (Nat.le_refl _)
          · have hle1 : linkE s.2.1 (ptL s.1 y - ptL s.1 x) = (ptL s.1 y - ptL s.1 x + 12) % 12 := by unfold linkE; rw [if_pos (by omega)]; omega
            refine ex_iload (pc := 82) dX7_link_82 rfl ?_
            refine ex_bipush (pc := 84) dX7_link_84 (by decide) ?_
            refine ex_iadd (pc := 86) dX7_link_86 (by unfold inI; omega) ?_
            refine ex_bipush (pc := 87) dX7_link_87 (by decide) ?_
            refine ex_irem (pc := 89) dX7_link_89 (by omega) (by omega) ?_
            refine ex_goto (pc := 90) dX7_link_90 (tgt := 95) (by decide) ?_
            refine ex_istore (L2 := [_, _, _, _, _, _]) (pc := 95) dX7_link_95 rfl (Nat.le_of_ble_eq_true rfl) rfl ?_
            refine ex_iload_n (pc := 97) dX7_link_97 rfl ?_
            refine ex_iconst (pc := 98) dX7_link_98 (by decide) ?_
            refine ex_icmp_ge (pc := 99) dX7_link_99 (tgt := 117) (by decide) (fun c99 => ?_) (fun c99 => ?_)
            · refine ex_aload_n (pc := 117) dX7_link_117 rfl ?_
              refine ex_aload_n (pc := 118) dX7_link_118 rfl ?_
              refine ex_getfield (pc := 119) dX7_link_119 fk_X7_7 h_o (by rfl) ?_
              refine ex_aload_n (pc := 122) dX7_link_122 rfl ?_
              refine ex_getfield (pc := 123) dX7_link_123 fk_X7_7 h_o (by rfl) ?_
              refine ex_callSI (as := [_]) (pc := 126) dX7_link_126 (tX7_allOf h_n (by decide) hR.1 hl) lk_X7_166 ykX7_allOf zkX7_allOf rfl rfl (Nat.le_of_ble_eq_true rfl) ⟨by decide, by decide⟩ ⟨Nat.le_refl _, Nat.le_refl _⟩ (fun i126 w1 r126 p126 => ?_)
              obtain ⟨ew, ep⟩ := p126
              rw [ew, ep]
              refine ex_callVV (as := [_, _]) (pc := 129) dX7_link_129 (tX7_lays h_o h_n hR h_A h_G (by decide) hl hcd hal) lk_X7_139 ykX7_lays vkX7_lays h_o rfl rfl rfl (Nat.le_of_ble_eq_true rfl) ⟨by decide, by decide⟩ ⟨Nat.le_refl _, Nat.le_refl _⟩ (fun w1 p129 => ?_)
              obtain ⟨⟨nu, lg, h1_A, hnu, h1_G, hlg⟩, h1_o, hfL⟩ := p129
              have h1_n := (hfL 56 (by decide) (by decide) (by decide)).trans h_n
              have h1_r := (hfL 57 (by decide) (by decide) (by decide)).trans h_r
              have h1_a := (hfL 58 (by decide) (by decide) (by decide)).trans h_a
              have h1_p := (hfL 59 (by decide) (by decide) (by decide)).trans h_p
              have h1_k := (hfL 60 (by decide) (by decide) (by decide)).trans h_k
              have h1_t := (hfL 61 (by decide) (by decide) (by decide)).trans h_t
              have h1_S := (hfL 64 (by decide) (by decide) (by decide)).trans h_S
              have h1_P := (hfL 65 (by decide) (by decide) (by decide)).trans h_P
              have h1_F := (hfL 66 (by decide) (by decide) (by decide)).trans h_F
              have h1_V := (hfL 67 (by decide) (by decide) (by decide)).trans h_V
              refine ex_aload_n (pc := 132) dX7_link_132 rfl ?_
              refine ex_getfield (pc := 133) dX7_link_133 fk_X7_31 h1_o (by rfl) ?_
              refine ex_bipush (pc := 136) dX7_link_136 (by decide) ?_
              refine ex_iload (pc := 138) dX7_link_138 rfl ?_
              refine ex_bipush (pc := 140) dX7_link_140 (by decide) ?_
              refine ex_iadd (pc := 142) dX7_link_142 (by unfold inI; omega) ?_
              refine ex_imul (pc := 143) dX7_link_143 (by unfold inI; omega) ?_
              refine ex_iload (pc := 144) dX7_link_144 rfl ?_
              refine ex_iadd (pc := 146) dX7_link_146 (by unfold inI; omega) ?_
              refine ex_bipush (pc := 147) dX7_link_147 (by decide) ?_
              refine ex_iadd (pc := 149) dX7_link_149 (by unfold inI; omega) ?_
              refine ex_iaload (pc := 150) dX7_link_150 h1_G (by omega) (by omega) ?_
              rw [hlg _ (by omega)]
              refine ex_callSI (as := [_]) (pc := 151) dX7_link_151 (tX7_bits (lgS_lt _ _ _ _)) lk_X7_132 ykX7_bits zkX7_bits rfl rfl (Nat.le_of_ble_eq_true rfl) ⟨by decide, by decide⟩ ⟨Nat.le_refl _, Nat.le_refl _⟩ (fun i151 w2 r151 p151 => ?_)
              obtain ⟨e151, p151⟩ := p151
              rw [e151]
              exact ex_iret (pc := 154) dX7_link_154 ⟨by unfold opLink; rw [if_neg (by omega), if_neg (by omega), if_neg (by omega), if_neg (by omega), if_neg (by omega), if_pos (by omega), hja, hjb, hle1, p151, show (tmL s.1 y - tmL s.1 x + 19) * 23 = 23 * (tmL s.1 y - tmL s.1 x + 19) by omega], RefS.qq hS0 h1_o ⟨_, h1_a⟩ ⟨_, h1_A⟩ ⟨_, h1_G⟩ ⟨_, h1_S⟩ ⟨_, h1_P⟩ ⟨_, h1_F⟩ ⟨_, h1_V⟩ (fun z hz z1 z2 => hfL z z1 (by omega) (by omega))⟩ rfl (Nat.le_refl _)
            · refine ex_iload_n (pc := 102) dX7_link_102 rfl ?_
              refine ex_if_ne (pc := 103) dX7_link_103 (tgt := 111) (by decide) (fun c103 => ?_) (fun c103 => ?_)
              · refine ex_iload (pc := 111) dX7_link_111 rfl ?_
                refine ex_bipush (pc := 113) dX7_link_113 (by decide) ?_
                refine ex_iadd (pc := 115) dX7_link_115 (by unfold inI; omega) ?_
                exact ex_iret (pc := 116) dX7_link_116 ⟨by unfold opLink; rw [if_neg (by omega), if_neg (by omega), if_neg (by omega), if_neg (by omega), if_pos (by omega), hja, hjb, hle1], hS0, fun _ _ => rfl⟩ rfl (Nat.le_refl _)
              · refine ex_iload (pc := 106) dX7_link_106 rfl ?_
                refine ex_goto (pc := 108) dX7_link_108 (tgt := 113) (by decide) ?_
                refine ex_bipush (pc := 113) dX7_link_113 (by decide) ?_
                refine ex_iadd (pc := 115) dX7_link_115 (by unfold inI; omega) ?_
                exact ex_iret (pc := 116) dX7_link_116 ⟨by unfold opLink; rw [if_neg (by omega), if_neg (by omega), if_neg (by omega), if_pos (by omega), hja, hjb], hS0, fun _ _ => rfl⟩ rfl (Nat.le_refl _)
        · refine ex_iconst (pc := 30) dX7_link_30 (by decide) ?_
          exact ex_iret (pc := 31) dX7_link_31 ⟨by unfold opLink; rw [if_neg (by omega), if_neg (by omega), if_neg (by omega), if_neg (by omega), if_neg (by omega), if_neg (by omega)], hS0, fun _ _ => rfl⟩ rfl (Nat.le_refl _)

