abbrev mX7_happens : xC := mkC yX7_happens cX7_happens 5 none 2 200 0 0
set_option maxHeartbeats 4000000 in
set_option maxRecDepth 100000 in
theorem tX7_happens {n : Nat} {w : xW} {f : Nat → Int} {ds : List Int} {mo dr : Int} {uu kk ln pl mn pq cv sh be bg bc bp pa re px : Int} (h_o : w 55 = rO uu kk ln pl mn pq cv sh be bg bc bp pa re px) (h_a : w 58 = xA 30 f) (hR : RowL f 0 ds mo) (hl : ds.length ≤ 14) (hcd : Cod ds) (hdr : 0 ≤ dr ∧ dr < 65521) : Ctr mX7_happens [xr 55, xi dr] n w (pV (fun w2 => (∃ f2, w2 58 = xA 30 f2 ∧ RowL f2 0 (hap ds (dr / 8 % 20 * 12 + dr / 256 % 12)) mo) ∧ ∀ z, z ≠ 58 → w2 z = w z)) := by
  refine Ctr.of ykX7_happens rfl (Nat.le_of_ble_eq_true rfl) okV (fun hin hW => ?_)
  show Ex _ _ 0 0 n w 0 [some (xr 55), some (xi dr), none, none, none] []
  have hdd : 0 ≤ dr / 8 ∧ 0 ≤ dr / 256 := by omega
  refine ex_iload_n (pc := 0) dX7_happens_0 rfl ?_
  refine ex_bipush (pc := 1) dX7_happens_1 (by decide) ?_
  refine ex_idiv (pc := 3) dX7_happens_3 (by omega) (by omega) ?_
  refine ex_bipush (pc := 4) dX7_happens_4 (by decide) ?_
  refine ex_irem (pc := 6) dX7_happens_6 (by omega) (by omega) ?_
  refine ex_istore_n (L2 := [_, _, _, _, _]) (pc := 7) dX7_happens_7 rfl (Nat.le_of_ble_eq_true rfl) rfl ?_
  refine ex_iload_n (pc := 8) dX7_happens_8 rfl ?_
  refine ex_sipush (pc := 9) dX7_happens_9 (by decide) ?_
  refine ex_idiv (pc := 12) dX7_happens_12 (by omega) (by omega) ?_
  refine ex_bipush (pc := 13) dX7_happens_13 (by decide) ?_
  refine ex_irem (pc := 15) dX7_happens_15 (by omega) (by omega) ?_
  refine ex_istore_n (L2 := [_, _, _, _, _]) (pc := 16) dX7_happens_16 rfl (Nat.le_of_ble_eq_true rfl) rfl ?_
  refine ex_aload_n (pc := 17) dX7_happens_17 rfl ?_
  refine ex_getfield (pc := 18) dX7_happens_18 fk_X7_16 h_o (by rfl) ?_
  refine ex_iload_n (pc := 21) dX7_happens_21 rfl ?_
  refine ex_iload_n (pc := 22) dX7_happens_22 rfl ?_
  refine ex_callSI (as := [_, _, _]) (pc := 23) dX7_happens_23 (tX7_numberOf h_a hR hl hcd (by omega)) lk_X7_76 ykX7_numberOf zkX7_numberOf rfl rfl (Nat.le_of_ble_eq_true rfl) ⟨by decide, by decide⟩ ⟨Nat.le_refl _, Nat.le_refl _⟩ (fun i23 w1 r23 p23 => ?_)
  obtain ⟨e23, p23⟩ := p23
  rw [e23]
  have hnr := numL_rng (dr / 8 % 20 * 12 + dr / 256 % 12) ds
  refine ex_istore (L2 := [_, _, _, _, _]) (pc := 26) dX7_happens_26 rfl (Nat.le_of_ble_eq_true rfl) rfl ?_
  refine ex_iload (pc := 28) dX7_happens_28 rfl ?_
  refine ex_bipush (pc := 30) dX7_happens_30 (by decide) ?_
  refine ex_icmp_ne (pc := 32) dX7_happens_32 (tgt := 60) (by decide) (fun c32 => ?_) (fun c32 => ?_)
  · refine ex_iload (pc := 60) dX7_happens_60 rfl ?_
    refine ex_bipush (pc := 62) dX7_happens_62 (by decide) ?_
    refine ex_icmp_eq (pc := 64) dX7_happens_64 (tgt := 86) (by decide) (fun c64 => by exfalso; omega) (fun c64 => ?_)
    refine ex_aload_n (pc := 67) dX7_happens_67 rfl ?_
    refine ex_getfield (pc := 68) dX7_happens_68 fk_X7_16 h_o (by rfl) ?_
    refine ex_iconst (pc := 71) dX7_happens_71 (by decide) ?_
    refine ex_iaload (pc := 72) dX7_happens_72 h_a (by omega) (by omega) ?_
    have hz0 : f (0 : Int).toNat = (ds.length : Int) := hR.1
    rw [hz0]
    refine ex_iconst (pc := 73) dX7_happens_73 (by decide) ?_
    refine ex_icmp_le (pc := 74) dX7_happens_74 (tgt := 86) (by decide) (fun c74 => ?_) (fun c74 => ?_)
    · exact ex_vret (pc := 86) dX7_happens_86 ⟨⟨f, h_a, by unfold hap; rw [if_neg (by omega), if_neg (by omega)]; exact hR⟩, fun _ _ => rfl⟩ rfl (Nat.le_refl _)
    · refine ex_aload_n (pc := 77) dX7_happens_77 rfl ?_
      refine ex_getfield (pc := 78) dX7_happens_78 fk_X7_16 h_o (by rfl) ?_
      refine ex_iload (pc := 81) dX7_happens_81 rfl ?_
      obtain ⟨j, hj⟩ : ∃ j : Nat, i23 = j := ⟨i23.toNat, by omega⟩
      have hjn : (numL (dr / 8 % 20 * 12 + dr / 256 % 12) ds).toNat = j := by omega
      rw [hj]
      refine ex_callSV (as := [_, _]) (pc := 83) dX7_happens_83 (tX7_leaves h_a hR hl (j := j) (by omega)) lk_X7_103 ykX7_leaves zkX7_leaves rfl rfl (Nat.le_of_ble_eq_true rfl) ⟨by decide, by decide⟩ ⟨Nat.le_refl _, Nat.le_refl _⟩ (fun w1 p83 => ?_)
      have h1_o := ((congrFun p83 55).trans (up_n (by decide))).trans h_o
      have h1_a := (congrFun p83 58).trans up_s
      exact ex_vret (pc := 86) dX7_happens_86 ⟨⟨_, h1_a, by unfold hap; rw [if_neg (by omega), if_pos (by omega), hjn]; exact delR_row hR (by omega) hl⟩, fun z z1 => by rw [p83, up_n z1]⟩ rfl (Nat.le_refl _)
  · refine ex_aload_n (pc := 35) dX7_happens_35 rfl ?_
    refine ex_getfield (pc := 36) dX7_happens_36 fk_X7_16 h_o (by rfl) ?_
    refine ex_iconst (pc := 39) dX7_happens_39 (by decide) ?_
    refine ex_iaload (pc := 40) dX7_happens_40 h_a (by omega) (by omega) ?_
    have hz0 : f (0 : Int).toNat = (ds.length : Int) := hR.1
    rw [hz0]
    refine ex_bipush (pc := 41) dX7_happens_41 (by decide) ?_
    refine ex_icmp_ge (pc := 43) dX7_happens_43 (tgt := 60) (by decide) (fun c43 => ?_) (fun c43 => ?_)
    · refine ex_iload (pc := 60) dX7_happens_60 rfl ?_
      refine ex_bipush (pc := 62) dX7_happens_62 (by decide) ?_
      refine ex_icmp_eq (pc := 64) dX7_happens_64 (tgt := 86) (by decide) (fun c64 => ?_) (fun c64 => by exfalso; omega)
      exact ex_vret (pc := 86) dX7_happens_86 ⟨⟨f, h_a, by unfold hap; rw [if_pos (by omega), if_neg (by omega)]; exact hR⟩, fun _ _ => rfl⟩ rfl (Nat.le_refl _)
    · refine ex_aload_n (pc := 46) dX7_happens_46 rfl ?_
      refine ex_getfield (pc := 47) dX7_happens_47 fk_X7_16 h_o (by rfl) ?_
      refine ex_iload_n (pc := 50) dX7_happens_50 rfl ?_
      refine ex_iload_n (pc := 51) dX7_happens_51 rfl ?_
      refine ex_callSI (as := [_, _, _]) (pc := 52) dX7_happens_52 (tX7_puts h_a hR (by omega) hcd (by omega)) lk_X7_53 ykX7_puts zkX7_puts rfl rfl (Nat.le_of_ble_eq_true rfl) ⟨by decide, by decide⟩ ⟨Nat.le_refl _, Nat.le_refl _⟩ (fun i52 w1 r52 p52 => ?_)
      obtain ⟨ev52, e52⟩ := p52
      have h1_o := ((congrFun e52 55).trans (up_n (by decide))).trans h_o
      have h1_a := (congrFun e52 58).trans up_s
      refine ex_istore (L2 := [_, _, _, _, _]) (pc := 55) dX7_happens_55 rfl (Nat.le_of_ble_eq_true rfl) rfl ?_
      refine ex_goto (pc := 57) dX7_happens_57 (tgt := 86) (by decide) ?_
      exact ex_vret (pc := 86) dX7_happens_86 ⟨⟨_, h1_a, by unfold hap; rw [if_pos (by omega), if_pos (by omega)]; exact putF_row hR (by omega) (by omega)⟩, fun z z1 => by rw [e52, up_n z1]⟩ rfl (Nat.le_refl _)

abbrev mX7_day : xC := mkC yX7_day cX7_day 7 (some .int) 9 900 0 0
set_option maxHeartbeats 4000000 in
set_option maxRecDepth 100000 in
theorem tX7_day {n : Nat} {w : xW} {s : St} (hS : RefS w s) {z m a : Int} : Ctr mX7_day [xr 55, xi z, xi m, xi a] n w (pI (fun v w2 => v = opDay s z m a ∧ RefS w2 s ∧ FrR w w2)) := by
  refine Ctr.of ykX7_day rfl (Nat.le_of_ble_eq_true rfl) okI (fun hin hW => ?_)
  have hS0 := hS
  obtain ⟨hv, hsc, ⟨pl, mn, pq, cv, sh, be, bg, bc, bp, pa, re, px, h_o⟩, ⟨f, h_n, hR⟩, ⟨g, h_p, hU⟩, hu8, ⟨kf, h_k, hK⟩, hk2, ⟨t, h_t, ht⟩, hlen⟩ := hS
  have hl : s.1.length ≤ 14 := hv.1.2.2.1
  have hl1 : 1 ≤ s.1.length := hv.1.2.1
  have hcd : Cod s.1 := hv.1.1
  have hsc0 := hsc
  obtain ⟨⟨f57, h_r⟩, ⟨f58, h_a⟩, ⟨f62, h_A⟩, ⟨f63, h_G⟩, ⟨f64, h_S⟩, ⟨f65, h_P⟩, ⟨f66, h_F⟩, ⟨f67, h_V⟩⟩ := hsc
  have hal := Al_lt s.1
  have hal2 := Al_16 hl
  have hAl : Al s.1 = 2 ^ s.1.length - 1 := rfl
  show Ex _ _ 0 0 n w 0 [some (xr 55), some (xi z), some (xi m), some (xi a), none, none, none] []
  have loop : (0 ≤ z ∧ z ≤ 9999) → (1 ≤ m ∧ m ≤ 20) → (0 ≤ a ∧ a ≤ 2) → ∀ (d k : Nat), (k : Int) ≤ m → m + 1 ≤ (k : Int) + d → ∀ (w9 : xW) (fa : Nat → Int) (x5 x6 : Option xV), w9 55 = rO (s.2.2.1.length) (s.2.2.2.1.length) (s.2.2.2.2.length) pl mn pq cv sh be bg bc bp pa re px → w9 56 = xA 30 f → w9 58 = xA 30 fa → w9 62 = xA 240 f62 → w9 63 = xA 897 f63 → w9 64 = xA 448 f64 → w9 65 = xA 21 f65 → w9 66 = xA 16384 f66 → w9 67 = xA 448 f67 → RowL fa 0 (dayS z k s.1) s.2.1 → (Cod (dayS z k s.1) ∧ 1 ≤ (dayS z k s.1).length ∧ (dayS z k s.1).length ≤ 14) → (∀ y, y ≠ 58 → w9 y = w y) → Ex mX7_day (pI (fun v w2 => v = opDay s z m a ∧ RefS w2 s ∧ FrR w w2)) 0 0 n w9 48 [some (xr 55), some (xi z), some (xi m), some (xi a), some (xi k), x5, x6] [] := by
    intro hz hm ha d
    induction d with
    | zero => intro k h1 h2; omega
    | succ d ih =>
      intro k h1 h2 w9 fa x5 x6 h_o h_n h_a h_A h_G h_S h_P h_F h_V hRa hok hfr
      have hop : opDay s z m a = if a = 0 then ((dayS z m.toNat s.1).length : Int) else if a = 1 then ((shL (dayS z m.toNat s.1) s.2.1 (Al (dayS z m.toNat s.1))).length : Int) else (resP (dayS z m.toNat s.1) s.2.1).2.2 + pc14 (resP (dayS z m.toNat s.1) s.2.1).2.1 := by unfold opDay; rw [if_neg (by omega)]
      refine ex_iload (pc := 48) dX7_day_48 rfl ?_
      refine ex_iload_n (pc := 50) dX7_day_50 rfl ?_
      refine ex_icmp_ge (pc := 51) dX7_day_51 (tgt := 92) (by decide) (fun c51 => ?_) (fun c51 => ?_)
      · have hkm : m.toNat = k := by omega
        rw [hkm] at hop
        generalize dayS z k s.1 = ds at *
        refine ex_iload_n (pc := 92) dX7_day_92 rfl ?_
        refine ex_if_ne (pc := 93) dX7_day_93 (tgt := 103) (by decide) (fun c93 => ?_) (fun c93 => ?_)
        · refine ex_iload_n (pc := 103) dX7_day_103 rfl ?_
          refine ex_iconst (pc := 104) dX7_day_104 (by decide) ?_
          refine ex_icmp_ne (pc := 105) dX7_day_105 (tgt := 128) (by decide) (fun c105 => ?_) (fun c105 => ?_)
          · refine ex_aload_n (pc := 128) dX7_day_128 rfl ?_
            refine ex_aload_n (pc := 129) dX7_day_129 rfl ?_
            refine ex_getfield (pc := 130) dX7_day_130 fk_X7_16 h_o (by rfl) ?_
            refine ex_callVV (as := [_]) (pc := 133) dX7_day_133 (tX7_isParted h_o h_a hRa h_A h_G h_S h_P (by decide) hok.2.2 hok.1 (RES := resP ds s.2.1) rfl) lk_X7_182 ykX7_isParted vkX7_isParted h_o rfl rfl rfl (Nat.le_of_ble_eq_true rfl) ⟨by decide, by decide⟩ ⟨Nat.le_refl _, Nat.le_refl _⟩ (fun w1 p133 => ?_)
            obtain ⟨⟨g62, h1_A⟩, ⟨g63, h1_G⟩, ⟨g64, h1_S⟩, ⟨gp, h1_P, hPa⟩, h7, ⟨mn2, pq2, cv2, sh2, be2, bg2, bc2, bp2, h1_o⟩, hfL⟩ := p133
            have h1_n := (hfL 56 (by decide) (by decide) (by decide) (by decide) (by decide)).trans h_n
            have h1_a := (hfL 58 (by decide) (by decide) (by decide) (by decide) (by decide)).trans h_a
            have h1_F := (hfL 66 (by decide) (by decide) (by decide) (by decide) (by decide)).trans h_F
            have h1_V := (hfL 67 (by decide) (by decide) (by decide) (by decide) (by decide)).trans h_V
            refine ex_aload_n (pc := 136) dX7_day_136 rfl ?_
            refine ex_getfield (pc := 137) dX7_day_137 fk_X7_179 h1_o (by rfl) ?_
            exact ex_iret (pc := 140) dX7_day_140 ⟨by rw [hop, if_neg (by omega), if_neg (by omega)], RefS.qq hS0 h1_o ⟨_, h1_a⟩ ⟨_, h1_A⟩ ⟨_, h1_G⟩ ⟨_, h1_S⟩ ⟨_, h1_P⟩ ⟨_, h1_F⟩ ⟨_, h1_V⟩ (fun y hy y1 y2 => (hfL y y1 (by omega) (by omega) (by omega) (by omega)).trans (hfr y y2))⟩ rfl (Nat.le_refl _)
          · refine ex_aload_n (pc := 108) dX7_day_108 rfl ?_
            refine ex_aload_n (pc := 109) dX7_day_109 rfl ?_
            refine ex_getfield (pc := 110) dX7_day_110 fk_X7_16 h_o (by rfl) ?_
            refine ex_aload_n (pc := 113) dX7_day_113 rfl ?_
            refine ex_getfield (pc := 114) dX7_day_114 fk_X7_16 h_o (by rfl) ?_
            refine ex_callSI (as := [_]) (pc := 117) dX7_day_117 (tX7_allOf h_a (by decide) hRa.1 hok.2.2) lk_X7_166 ykX7_allOf zkX7_allOf rfl rfl (Nat.le_of_ble_eq_true rfl) ⟨by decide, by decide⟩ ⟨Nat.le_refl _, Nat.le_refl _⟩ (fun i117 w1 r117 p117 => ?_)
            obtain ⟨ew, ep⟩ := p117
            rw [ew, ep]
            refine ex_callVV (as := [_, _]) (pc := 120) dX7_day_120 (tX7_findsShapes h_o h_a hRa h_A h_G h_S (by decide) hok.2.2 hok.1 (Al_lt ds)) lk_X7_145 ykX7_findsShapes vkX7_findsShapes h_o rfl rfl rfl (Nat.le_of_ble_eq_true rfl) ⟨by decide, by decide⟩ ⟨Nat.le_refl _, Nat.le_refl _⟩ (fun w1 p120 => ?_)
            obtain ⟨⟨nu, lg, h1_A, hnu, h1_G, hlg⟩, ⟨ss, h1_S, hss⟩, h1_o, hfL⟩ := p120
            have h1_n := (hfL 56 (by decide) (by decide) (by decide) (by decide)).trans h_n
            have h1_a := (hfL 58 (by decide) (by decide) (by decide) (by decide)).trans h_a
            have h1_P := (hfL 65 (by decide) (by decide) (by decide) (by decide)).trans h_P
            have h1_F := (hfL 66 (by decide) (by decide) (by decide) (by decide)).trans h_F
            have h1_V := (hfL 67 (by decide) (by decide) (by decide) (by decide)).trans h_V
            refine ex_aload_n (pc := 123) dX7_day_123 rfl ?_
            refine ex_getfield (pc := 124) dX7_day_124 fk_X7_136 h1_o (by rfl) ?_
            exact ex_iret (pc := 127) dX7_day_127 ⟨by rw [hop, if_neg (by omega), if_pos (by omega)], RefS.qq hS0 h1_o ⟨_, h1_a⟩ ⟨_, h1_A⟩ ⟨_, h1_G⟩ ⟨_, h1_S⟩ ⟨_, h1_P⟩ ⟨_, h1_F⟩ ⟨_, h1_V⟩ (fun y hy y1 y2 => (hfL y y1 (by omega) (by omega) (by omega)).trans (hfr y y2))⟩ rfl (Nat.le_refl _)
        · refine ex_aload_n (pc := 96) dX7_day_96 rfl ?_
          refine ex_getfield (pc := 97) dX7_day_97 fk_X7_16 h_o (by rfl) ?_
          refine ex_iconst (pc := 100) dX7_day_100 (by decide) ?_
          refine ex_iaload (pc := 101) dX7_day_101 h_a (by omega) (by omega) ?_
          exact ex_iret (pc := 102) dX7_day_102 ⟨by rw [hop, if_pos (by omega)]; exact hRa.1, RefS.qq hS0 h_o ⟨_, h_a⟩ ⟨_, h_A⟩ ⟨_, h_G⟩ ⟨_, h_S⟩ ⟨_, h_P⟩ ⟨_, h_F⟩ ⟨_, h_V⟩ (fun y hy y1 y2 => hfr y y2)⟩ rfl (Nat.le_refl _)
      · refine ex_ldc2 (pc := 54) dX7_day_54 (v := 7919) (by unfold inJ; omega) cst_X7_189 ?_
        refine ex_iload_n (pc := 57) dX7_day_57 rfl ?_
        refine ex_i2l (pc := 58) dX7_day_58 ?_
        refine ex_lmul (pc := 59) dX7_day_59 (by unfold inJ; omega) ?_
        refine ex_ldc2 (pc := 60) dX7_day_60 (v := 6151) (by unfold inJ; omega) cst_X7_191 ?_
        refine ex_iload (pc := 63) dX7_day_63 rfl ?_
        refine ex_i2l (pc := 65) dX7_day_65 ?_
        refine ex_lmul (pc := 66) dX7_day_66 (by unfold inJ; omega) ?_
        refine ex_ladd (pc := 67) dX7_day_67 (by unfold inJ; omega) ?_
        refine ex_lconst1 (pc := 68) dX7_day_68 ?_
        refine ex_ladd (pc := 69) dX7_day_69 (by unfold inJ; omega) ?_
        rw [show (7919 * z + 6151 * (k : Int) + 1 : Int) = drwX z k from rfl]
        have hx0 : 0 ≤ drwX z k ∧ drwX z k ≤ 80000000 := by unfold drwX; omega
        have hsq := sq_rng hx0.1 hx0.2
        refine ex_lstore (L2 := [_, _, _, _, _, _, _]) (pc := 70) dX7_day_70 rfl (Nat.le_of_ble_eq_true rfl) rfl ?_
        refine ex_aload_n (pc := 72) dX7_day_72 rfl ?_
        refine ex_lload (pc := 73) dX7_day_73 rfl ?_
        refine ex_lload (pc := 75) dX7_day_75 rfl ?_
        refine ex_lmul (pc := 77) dX7_day_77 (by unfold inJ; omega) ?_
        refine ex_ldc2 (pc := 78) dX7_day_78 (v := 65521) (by unfold inJ; omega) cst_X7_193 ?_
        refine ex_lrem (pc := 81) dX7_day_81 (by omega) (by omega) ?_
        rw [show (drwX z k * drwX z k % 65521 : Int) = drw z k from rfl]
        have hdr : 0 ≤ drw z k ∧ drw z k < 65521 := by unfold drw; omega
        refine ex_l2i (pc := 82) dX7_day_82 (by unfold inI; omega) ?_
        refine ex_callVV (as := [_]) (pc := 83) dX7_day_83 (tX7_happens h_o h_a hRa hok.2.2 hok.1 hdr) lk_X7_195 ykX7_happens vkX7_happens h_o rfl rfl rfl (Nat.le_of_ble_eq_true rfl) ⟨by decide, by decide⟩ ⟨Nat.le_refl _, Nat.le_refl _⟩ (fun w2 p83 => ?_)
        obtain ⟨⟨f2, h2_a, q1⟩, q2⟩ := p83
        have h2_o := (q2 55 (by decide)).trans h_o
        have h2_n := (q2 56 (by decide)).trans h_n
        have h2_A := (q2 62 (by decide)).trans h_A
        have h2_G := (q2 63 (by decide)).trans h_G
        have h2_S := (q2 64 (by decide)).trans h_S
        have h2_P := (q2 65 (by decide)).trans h_P
        have h2_F := (q2 66 (by decide)).trans h_F
        have h2_V := (q2 67 (by decide)).trans h_V
        refine ex_iinc (L2 := [_, _, _, _, _, _, _]) (pc := 86) dX7_day_86 rfl rfl (Nat.le_of_ble_eq_true rfl) (by unfold inI; omega) rfl ?_
        refine ex_goto (pc := 89) dX7_day_89 (tgt := 48) (by decide) ?_
        exact ih (k + 1) (by omega) (by omega) w2 f2 _ _ h2_o h2_n h2_a h2_A h2_G h2_S h2_P h2_F h2_V q1 (hap_ok hok.1 hok.2.1 hok.2.2 (dayC_rng (by unfold drw; exact Int.emod_nonneg _ (by decide)))) (fun y y1 => (q2 y y1).trans (hfr y y1))
  refine ex_iload_n (pc := 0) dX7_day_0 rfl ?_
  refine ex_iconst (pc := 1) dX7_day_1 (by decide) ?_
  refine ex_sipush (pc := 2) dX7_day_2 (by decide) ?_
  refine ex_callSZ (as := [_, _, _]) (pc := 5) dX7_day_5 (tX7_in) lk_X7_68 ykX7_in zkX7_in rfl rfl (Nat.le_of_ble_eq_true rfl) ⟨by decide, by decide⟩ ⟨Nat.le_refl _, Nat.le_refl _⟩ (fun i5 w1 r5 p5 => ?_)
  obtain ⟨e5, p5⟩ := p5
  rw [e5]
  refine ex_if_eq (pc := 8) dX7_day_8 (tgt := 30) (by decide) (fun c8 => ?_) (fun c8 => ?_)
  · refine ex_iconst (pc := 30) dX7_day_30 (by decide) ?_
    exact ex_iret (pc := 31) dX7_day_31 ⟨by unfold opDay; rw [if_pos (by omega)], hS0, fun _ _ => rfl⟩ rfl (Nat.le_refl _)
  · refine ex_iload_n (pc := 11) dX7_day_11 rfl ?_
    refine ex_iconst (pc := 12) dX7_day_12 (by decide) ?_
    refine ex_bipush (pc := 13) dX7_day_13 (by decide) ?_
    refine ex_callSZ (as := [_, _, _]) (pc := 15) dX7_day_15 (tX7_in) lk_X7_68 ykX7_in zkX7_in rfl rfl (Nat.le_of_ble_eq_true rfl) ⟨by decide, by decide⟩ ⟨Nat.le_refl _, Nat.le_refl _⟩ (fun i15 w1 r15 p15 => ?_)
    obtain ⟨e15, p15⟩ := p15
    rw [e15]
    refine ex_if_eq (pc := 18) dX7_day_18 (tgt := 30) (by decide) (fun c18 => ?_) (fun c18 => ?_)
    · refine ex_iconst (pc := 30) dX7_day_30 (by decide) ?_
      exact ex_iret (pc := 31) dX7_day_31 ⟨by unfold opDay; rw [if_pos (by omega)], hS0, fun _ _ => rfl⟩ rfl (Nat.le_refl _)
    · refine ex_iload_n (pc := 21) dX7_day_21 rfl ?_
      refine ex_iconst (pc := 22) dX7_day_22 (by decide) ?_
      refine ex_iconst (pc := 23) dX7_day_23 (by decide) ?_
      refine ex_callSZ (as := [_, _, _]) (pc := 24) dX7_day_24 (tX7_in) lk_X7_68 ykX7_in zkX7_in rfl rfl (Nat.le_of_ble_eq_true rfl) ⟨by decide, by decide⟩ ⟨Nat.le_refl _, Nat.le_refl _⟩ (fun i24 w1 r24 p24 => ?_)
      obtain ⟨e24, p24⟩ := p24
      rw [e24]
      refine ex_if_ne (pc := 27) dX7_day_27 (tgt := 32) (by decide) (fun c27 => ?_) (fun c27 => ?_)
      · refine ex_aload_n (pc := 32) dX7_day_32 rfl ?_
        refine ex_getfield (pc := 33) dX7_day_33 fk_X7_7 h_o (by rfl) ?_
        refine ex_iconst (pc := 36) dX7_day_36 (by decide) ?_
        refine ex_aload_n (pc := 37) dX7_day_37 rfl ?_
        refine ex_getfield (pc := 38) dX7_day_38 fk_X7_16 h_o (by rfl) ?_
        refine ex_iconst (pc := 41) dX7_day_41 (by decide) ?_
        refine ex_callSV (as := [_, _, _, _]) (pc := 42) dX7_day_42 (tX7_copies (x := 0) (y := 0) h_n h_a (by decide) (by omega) (by omega) (by omega) (by omega)) lk_X7_49 ykX7_copies zkX7_copies rfl rfl (Nat.le_of_ble_eq_true rfl) ⟨by decide, by decide⟩ ⟨Nat.le_refl _, Nat.le_refl _⟩ (fun w1 p42 => ?_)
        have h1_o := ((congrFun p42 55).trans (up_n (by decide))).trans h_o
        have h1_n := ((congrFun p42 56).trans (up_n (by decide))).trans h_n
        have h1_a := (congrFun p42 58).trans up_s
        have h1_A := ((congrFun p42 62).trans (up_n (by decide))).trans h_A
        have h1_G := ((congrFun p42 63).trans (up_n (by decide))).trans h_G
        have h1_S := ((congrFun p42 64).trans (up_n (by decide))).trans h_S
        have h1_P := ((congrFun p42 65).trans (up_n (by decide))).trans h_P
        have h1_F := ((congrFun p42 66).trans (up_n (by decide))).trans h_F
        have h1_V := ((congrFun p42 67).trans (up_n (by decide))).trans h_V
        refine ex_iconst (pc := 45) dX7_day_45 (by decide) ?_
        refine ex_istore (L2 := [_, _, _, _, _, _, _]) (pc := 46) dX7_day_46 rfl (Nat.le_of_ble_eq_true rfl) rfl ?_
        exact loop (by omega) (by omega) (by omega) (m.toNat + 1) 0 (by omega) (by omega) w1 _ _ _ h1_o h1_n h1_a h1_A h1_G h1_S h1_P h1_F h1_V (row_of hR hl) ⟨hcd, hl1, hl⟩ (fun y y1 => by rw [p42, up_n y1])
      · refine ex_iconst (pc := 30) dX7_day_30 (by decide) ?_
        exact ex_iret (pc := 31) dX7_day_31 ⟨by unfold opDay; rw [if_pos (by omega)], hS0, fun _ _ => rfl⟩ rfl (Nat.le_refl _)

