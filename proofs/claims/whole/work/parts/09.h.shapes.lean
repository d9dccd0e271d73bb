def drwX (z k : Int) : Int := 7919 * z + 6151 * k + 1
def drw (z k : Int) : Int := drwX z k * drwX z k % 65521
def dayC (z k : Int) : Int := (drw z k / 8 % 20) * 12 + drw z k / 256 % 12
def hap (cs : List Int) (c : Int) : List Int := if numL c cs < 0 then (if cs.length < 14 then insL c cs else cs) else if 1 < cs.length then cs.eraseIdx (numL c cs).toNat else cs
def dayS (z : Int) : Nat → List Int → List Int
  | 0, cs => cs
  | k + 1, cs => hap (dayS z k cs) (dayC z k)
def opDay (s : St) (z m a : Int) : Int := if z < 0 ∨ 9999 < z ∨ m < 1 ∨ 20 < m ∨ a < 0 ∨ 2 < a then -1 else if a = 0 then ((dayS z m.toNat s.1).length : Int) else if a = 1 then ((shL (dayS z m.toNat s.1) s.2.1 (Al (dayS z m.toNat s.1))).length : Int) else (resP (dayS z m.toNat s.1) s.2.1).2.2 + pc14 (resP (dayS z m.toNat s.1) s.2.1).2.1
theorem sq_rng {x : Int} (h0 : 0 ≤ x) (h1 : x ≤ 80000000) : 0 ≤ x * x ∧ x * x ≤ 6400000000000000 := ⟨Int.mul_nonneg h0 h0, by have := Int.mul_le_mul h1 h1 h0 (by omega); omega⟩
theorem numL_rng (c : Int) (cs : List Int) : numL c cs = -4 ∨ (0 ≤ numL c cs ∧ numL c cs < cs.length) := by
  unfold numL
  split
  · rename_i k h
    right
    have := (List.findIdx?_eq_some_iff_getElem.mp h).1
    omega
  · exact Or.inl rfl
theorem dayC_rng {z k : Int} (h0 : 0 ≤ drw z k) : 0 ≤ dayC z k ∧ dayC z k < 240 := by
  unfold dayC; omega
theorem hap_ok {cs : List Int} {c : Int} (hc : Cod cs) (h1 : 1 ≤ cs.length) (h14 : cs.length ≤ 14) (hr : 0 ≤ c ∧ c < 240) : Cod (hap cs c) ∧ 1 ≤ (hap cs c).length ∧ (hap cs c).length ≤ 14 := by
  unfold hap
  split
  · split
    · exact ⟨Cod_ins hc hr, by rw [insL_len]; omega, by rw [insL_len]; omega⟩
    · exact ⟨hc, h1, h14⟩
  · split
    · rename_i h2 h3
      have hn := numL_rng c cs
      have hlt : (numL c cs).toNat < cs.length := by omega
      rw [List.length_eraseIdx_of_lt hlt]
      exact ⟨Cod_del hc hlt, by omega, by omega⟩
    · exact ⟨hc, h1, h14⟩
abbrev mX6_drawOnce : xC := mkC yX6_drawOnce cX6_drawOnce 8 none 3 300 0 0
set_option maxHeartbeats 4000000 in
set_option maxRecDepth 100000 in
theorem tX6_drawOnce {n : Nat} {w : xW} {wk bk bc bg : Int} (h_o : w 0 = cO wk bk bc bg) {ds : List Int} {mo : Int} (T : PcAt w 5 6 ds mo) (hcd : Cod ds) {z k : Int} (hz : 0 ≤ z ∧ z ≤ 9999) (hk : 0 ≤ k ∧ k ≤ 19) : Ctr mX6_drawOnce [xr 0, xi z, xi k] n w (pV (fun w2 => PcAt w2 5 6 (hap ds (dayC z k)) mo ∧ Fr2 w w2 5 6)) := by
  refine Ctr.of ykX6_drawOnce rfl (Nat.le_of_ble_eq_true rfl) okV (fun hin hW => ?_)
  have hlen := T.len
  show Ex _ _ 0 0 n w 0 [some (xr 0), some (xi z), some (xi k), none, none, none, none, none] []
  refine ex_ldc2 (pc := 0) dX6_drawOnce_0 (v := 7919) (by unfold inJ; omega) cst_X6_244 ?_
  refine ex_iload_n (pc := 3) dX6_drawOnce_3 rfl ?_
  refine ex_i2l (pc := 4) dX6_drawOnce_4 ?_
  refine ex_lmul (pc := 5) dX6_drawOnce_5 (by unfold inJ; omega) ?_
  refine ex_ldc2 (pc := 6) dX6_drawOnce_6 (v := 6151) (by unfold inJ; omega) cst_X6_246 ?_
  refine ex_iload_n (pc := 9) dX6_drawOnce_9 rfl ?_
  refine ex_i2l (pc := 10) dX6_drawOnce_10 ?_
  refine ex_lmul (pc := 11) dX6_drawOnce_11 (by unfold inJ; omega) ?_
  refine ex_ladd (pc := 12) dX6_drawOnce_12 (by unfold inJ; omega) ?_
  refine ex_lconst1 (pc := 13) dX6_drawOnce_13 ?_
  refine ex_ladd (pc := 14) dX6_drawOnce_14 (by unfold inJ; omega) ?_
  rw [show (7919 * z + 6151 * k + 1 : Int) = drwX z k from rfl]
  have hx0 : 0 ≤ drwX z k ∧ drwX z k ≤ 80000000 := by unfold drwX; omega
  have hsq := sq_rng hx0.1 hx0.2
  refine ex_lstore_n (L2 := [_, _, _, _, _, _, _, _]) (pc := 15) dX6_drawOnce_15 rfl (Nat.le_of_ble_eq_true rfl) rfl ?_
  refine ex_lload_n (pc := 16) dX6_drawOnce_16 rfl ?_
  refine ex_lload_n (pc := 17) dX6_drawOnce_17 rfl ?_
  refine ex_lmul (pc := 18) dX6_drawOnce_18 (by unfold inJ; omega) ?_
  refine ex_ldc2 (pc := 19) dX6_drawOnce_19 (v := 65521) (by unfold inJ; omega) cst_X6_248 ?_
  refine ex_lrem (pc := 22) dX6_drawOnce_22 (by omega) (by omega) ?_
  rw [show (drwX z k * drwX z k % 65521 : Int) = drw z k from rfl]
  have hdr : 0 ≤ drw z k ∧ drw z k < 65521 := by unfold drw; omega
  refine ex_l2i (pc := 23) dX6_drawOnce_23 (by unfold inI; omega) ?_
  refine ex_istore (L2 := [_, _, _, _, _, _, _, _]) (pc := 24) dX6_drawOnce_24 rfl (Nat.le_of_ble_eq_true rfl) rfl ?_
  refine ex_iload (pc := 26) dX6_drawOnce_26 rfl ?_
  refine ex_bipush (pc := 28) dX6_drawOnce_28 (by decide) ?_
  refine ex_idiv (pc := 30) dX6_drawOnce_30 (by omega) (by omega) ?_
  refine ex_bipush (pc := 31) dX6_drawOnce_31 (by decide) ?_
  refine ex_irem (pc := 33) dX6_drawOnce_33 (by omega) (by omega) ?_
  refine ex_iload (pc := 34) dX6_drawOnce_34 rfl ?_
  refine ex_sipush (pc := 36) dX6_drawOnce_36 (by decide) ?_
  refine ex_idiv (pc := 39) dX6_drawOnce_39 (by omega) (by omega) ?_
  refine ex_bipush (pc := 40) dX6_drawOnce_40 (by decide) ?_
  refine ex_irem (pc := 42) dX6_drawOnce_42 (by omega) (by omega) ?_
  refine ex_callSI (as := [_, _]) (pc := 43) dX6_drawOnce_43 (tX6_codeOf (by omega)) lk_X6_69 ykX6_codeOf zkX6_codeOf rfl rfl (Nat.le_of_ble_eq_true rfl) ⟨by decide, by decide⟩ ⟨Nat.le_refl _, Nat.le_refl _⟩ (fun i43 w1 r43 p43 => ?_)
  obtain ⟨e43, p43⟩ := p43
  rw [e43, p43]
  rw [show (drw z k / 8 % 20 * 12 + drw z k / 256 % 12 : Int) = dayC z k from rfl]
  refine ex_istore (L2 := [_, _, _, _, _, _, _, _]) (pc := 46) dX6_drawOnce_46 rfl (Nat.le_of_ble_eq_true rfl) rfl ?_
  refine ex_aload_n (pc := 48) dX6_drawOnce_48 rfl ?_
  refine ex_getfield (pc := 49) dX6_drawOnce_49 fk_X6_23 h_o (by rfl) ?_
  refine ex_iload (pc := 52) dX6_drawOnce_52 rfl ?_
  refine ex_callVI (as := [_]) (pc := 54) dX6_drawOnce_54 (lX2_numberOf T) lk_X6_113 ykX2_numberOf vkX2_numberOf T.r rfl rfl rfl (Nat.le_of_ble_eq_true rfl) ⟨by decide, by decide⟩ ⟨Nat.le_refl _, Nat.le_refl _⟩ (fun i54 w1 r54 p54 => ?_)
  obtain ⟨e54, p54⟩ := p54
  rw [e54]
  have hnr := numL_rng (dayC z k) ds
  refine ex_istore (L2 := [_, _, _, _, _, _, _, _]) (pc := 57) dX6_drawOnce_57 rfl (Nat.le_of_ble_eq_true rfl) rfl ?_
  refine ex_iload (pc := 59) dX6_drawOnce_59 rfl ?_
  refine ex_if_ge (pc := 61) dX6_drawOnce_61 (tgt := 77) (by decide) (fun c61 => ?_) (fun c61 => ?_)
  · refine ex_aload_n (pc := 77) dX6_drawOnce_77 rfl ?_
    refine ex_getfield (pc := 78) dX6_drawOnce_78 fk_X6_23 h_o (by rfl) ?_
    refine ex_getfield (pc := 81) dX6_drawOnce_81 fk_X6_89 T.r (by rfl) ?_
    refine ex_iconst (pc := 84) dX6_drawOnce_84 (by decide) ?_
    refine ex_icmp_le (pc := 85) dX6_drawOnce_85 (tgt := 97) (by decide) (fun c85 => ?_) (fun c85 => ?_)
    · exact ex_vret (pc := 97) dX6_drawOnce_97 ⟨by unfold hap; rw [if_neg (by omega), if_neg (by omega)]; exact T, fun _ _ _ => rfl⟩ rfl (Nat.le_refl _)
    · refine ex_aload_n (pc := 88) dX6_drawOnce_88 rfl ?_
      refine ex_getfield (pc := 89) dX6_drawOnce_89 fk_X6_23 h_o (by rfl) ?_
      refine ex_iload (pc := 92) dX6_drawOnce_92 rfl ?_
      obtain ⟨j, hj⟩ : ∃ j : Nat, i54 = j := ⟨i54.toNat, by omega⟩
      have hjn : (numL (dayC z k) ds).toNat = j := by omega
      rw [hj]
      refine ex_callVV (as := [_]) (pc := 94) dX6_drawOnce_94 (lX2_remove T (j := j) (by omega)) lk_X6_119 ykX2_remove vkX2_remove T.r rfl rfl rfl (Nat.le_of_ble_eq_true rfl) ⟨by decide, by decide⟩ ⟨Nat.le_refl _, Nat.le_refl _⟩ (fun w1 p94 => ?_)
      obtain ⟨q2, q3⟩ := p94
      exact ex_vret (pc := 97) dX6_drawOnce_97 ⟨by unfold hap; rw [if_neg (by omega), if_pos (by omega), hjn]; exact q2, q3⟩ rfl (Nat.le_refl _)
  · refine ex_aload_n (pc := 64) dX6_drawOnce_64 rfl ?_
    refine ex_getfield (pc := 65) dX6_drawOnce_65 fk_X6_23 h_o (by rfl) ?_
    refine ex_iload (pc := 68) dX6_drawOnce_68 rfl ?_
    by_cases hfull : ds.length < 14
    · refine ex_callVI (as := [_]) (pc := 70) dX6_drawOnce_70 (lX2_insert T hfull) lk_X6_73 ykX2_insert vkX2_insert T.r rfl rfl rfl (Nat.le_of_ble_eq_true rfl) ⟨by decide, by decide⟩ ⟨Nat.le_refl _, Nat.le_refl _⟩ (fun v70 w1 r70 p70 => ?_)
      obtain ⟨q1, q2, q3⟩ := p70
      refine ex_pop (pc := 73) dX6_drawOnce_73 rfl ?_
      refine ex_goto (pc := 74) dX6_drawOnce_74 (tgt := 97) (by decide) ?_
      exact ex_vret (pc := 97) dX6_drawOnce_97 ⟨by unfold hap; rw [if_pos (by omega), if_pos hfull]; exact q2, q3⟩ rfl (Nat.le_refl _)
    · have h14 : ds.length = 14 := by omega
      refine ex_callVI (as := [_]) (pc := 70) dX6_drawOnce_70 (lX2_insertFull T h14) lk_X6_73 ykX2_insert vkX2_insert T.r rfl rfl rfl (Nat.le_of_ble_eq_true rfl) ⟨by decide, by decide⟩ ⟨Nat.le_refl _, Nat.le_refl _⟩ (fun v70 w1 r70 p70 => ?_)
      obtain ⟨e70, p70⟩ := p70
      rw [e70]
      refine ex_pop (pc := 73) dX6_drawOnce_73 rfl ?_
      refine ex_goto (pc := 74) dX6_drawOnce_74 (tgt := 97) (by decide) ?_
      exact ex_vret (pc := 97) dX6_drawOnce_97 ⟨by unfold hap; rw [if_pos (by omega), if_neg hfull]; exact T, fun _ _ _ => rfl⟩ rfl (Nat.le_refl _)

abbrev mX6_day : xC := mkC yX6_day cX6_day 5 (some .int) 8 800 0 0
set_option maxHeartbeats 4000000 in
set_option maxRecDepth 100000 in
theorem tX6_day {n : Nat} {w : xW} {s : St} (hS : ClsS w s) {z m a : Int} : Ctr mX6_day [xr 0, xi z, xi m, xi a] n w (pI (fun v w2 => v = opDay s z m a ∧ ClsS w2 s ∧ FrO w w2)) := by
  refine Ctr.of ykX6_day rfl (Nat.le_of_ble_eq_true rfl) okI (fun hin hW => ?_)
  have hS0 := hS
  obtain ⟨hv, wk, bk, bc, bg, H, hc⟩ := hS
  have hlen := H.P.len
  have loop : (0 ≤ z ∧ z ≤ 9999) → (1 ≤ m ∧ m ≤ 20) → (0 ≤ a ∧ a ≤ 2) → ∀ (d k : Nat), (k : Int) ≤ m → m + 1 ≤ (k : Int) + d → ∀ (w1 : xW), ClsC w1 s.1 s.2.1 s.2.2.1 s.2.2.2.1 s.2.2.2.2 wk bk bc bg → PcAt w1 5 6 (dayS z k s.1) s.2.1 → (Cod (dayS z k s.1) ∧ 1 ≤ (dayS z k s.1).length ∧ (dayS z k s.1).length ≤ 14) → (∀ y, y ≠ 5 → y ≠ 6 → w1 y = w y) → Ex mX6_day (pI (fun v w2 => v = opDay s z m a ∧ ClsS w2 s ∧ FrO w w2)) 0 0 n w1 47 [some (xr 0), some (xi z), some (xi m), some (xi a), some (xi k)] [] := by
    intro hz hm ha d
    induction d with
    | zero => intro k h1 h2; omega
    | succ d ih =>
      intro k h1 h2 w1 H1 T hok hfr
      have hop : opDay s z m a = if a = 0 then ((dayS z m.toNat s.1).length : Int) else if a = 1 then ((shL (dayS z m.toNat s.1) s.2.1 (Al (dayS z m.toNat s.1))).length : Int) else (resP (dayS z m.toNat s.1) s.2.1).2.2 + pc14 (resP (dayS z m.toNat s.1) s.2.1).2.1 := by unfold opDay; rw [if_neg (by omega)]
      have hcf : Csh w1 s.1 s.2.1 wk bk bc bg := hc.fr (fun y y1 y2 => hfr y (by omega) (by omega))
      obtain ⟨y1, y2, y3, y4, hx1⟩ := H1.X.q
      obtain ⟨ya, yb, yc, yf0, yg0, yh0, hy1, -⟩ := id H1.Y
      refine ex_iload (pc := 47) dX6_day_47 rfl ?_
      refine ex_iload_n (pc := 49) dX6_day_49 rfl ?_
      refine ex_icmp_ge (pc := 50) dX6_day_50 (tgt := 66) (by decide) (fun c50 => ?_) (fun c50 => ?_)
      · have hkm : m.toNat = k := by omega
        rw [hkm] at hop
        generalize dayS z k s.1 = ds at *
        refine ex_iload_n (pc := 66) dX6_day_66 rfl ?_
        refine ex_if_ne (pc := 67) dX6_day_67 (tgt := 78) (by decide) (fun c67 => ?_) (fun c67 => ?_)
        · refine ex_iload_n (pc := 78) dX6_day_78 rfl ?_
          refine ex_iconst (pc := 79) dX6_day_79 (by decide) ?_
          refine ex_icmp_ne (pc := 80) dX6_day_80 (tgt := 109) (by decide) (fun c80 => ?_) (fun c80 => ?_)
          · refine ex_aload_n (pc := 109) dX6_day_109 rfl ?_
            refine ex_getfield (pc := 110) dX6_day_110 fk_X6_51 H1.o (by rfl) ?_
            refine ex_aload_n (pc := 113) dX6_day_113 rfl ?_
            refine ex_getfield (pc := 114) dX6_day_114 fk_X6_23 H1.o (by rfl) ?_
            refine ex_aload_n (pc := 117) dX6_day_117 rfl ?_
            refine ex_getfield (pc := 118) dX6_day_118 fk_X6_45 H1.o (by rfl) ?_
            refine ex_callVV (as := [_, _]) (pc := 121) dX6_day_121 (tX1_takeApart H1.X H1.Y T hok.1 (by decide) (by decide) (by decide) (by decide) (by decide) (RES := resP ds s.2.1) rfl) lk_X6_180 ykX1_takeApart vkX1_takeApart hy1 rfl rfl rfl (Nat.le_of_ble_eq_true rfl) ⟨by decide, by decide⟩ ⟨Nat.le_refl _, Nat.le_refl _⟩ (fun w1 p121 => ?_)
            obtain ⟨q1, q2, q3, q4⟩ := p121
            have H4 := H1.finds (H1.H.fr (fun y y1 y2 => q4 y (by omega) (by omega))) q3 q1.X (H1.V.fr (q4 _ (by decide) (by decide)) (q4 _ (by decide) (by decide))) (fun y hy => q4 y (by omega) (by omega))
            have h1_o := H4.o
            have h1_p := H4.p
            have h1_u := H4.u
            have h1_k := H4.k
            have h1_x := hx1
            have h1_t := T.r
            have h1_y := q1.t
            refine ex_aload_n (pc := 124) dX6_day_124 rfl ?_
            refine ex_getfield (pc := 125) dX6_day_125 fk_X6_51 h1_o (by rfl) ?_
            refine ex_getfield (pc := 128) dX6_day_128 fk_X6_197 h1_y (by rfl) ?_
            exact ex_iret (pc := 131) dX6_day_131 ⟨by rw [hop, if_neg (by omega), if_neg (by omega)], ClsS.mk hv H4 (hcf.fr (fun y y1 y2 => q4 y (by omega) (by omega))), fun y hy => (q4 y (by omega) (by omega)).trans (hfr y (by omega) (by omega))⟩ rfl (Nat.le_refl _)
          · refine ex_aload_n (pc := 83) dX6_day_83 rfl ?_
            refine ex_getfield (pc := 84) dX6_day_84 fk_X6_45 H1.o (by rfl) ?_
            refine ex_aload_n (pc := 87) dX6_day_87 rfl ?_
            refine ex_getfield (pc := 88) dX6_day_88 fk_X6_23 H1.o (by rfl) ?_
            refine ex_aload_n (pc := 91) dX6_day_91 rfl ?_
            refine ex_getfield (pc := 92) dX6_day_92 fk_X6_23 H1.o (by rfl) ?_
            refine ex_callVI (as := []) (pc := 95) dX6_day_95 (lX2_allNotes T) lk_X6_167 ykX2_allNotes vkX2_allNotes T.r rfl rfl rfl (Nat.le_of_ble_eq_true rfl) ⟨by decide, by decide⟩ ⟨Nat.le_refl _, Nat.le_refl _⟩ (fun i95 w1 r95 p95 => ?_)
            obtain ⟨e95, p95⟩ := p95
            rw [e95, p95]
            refine ex_callVV (as := [_, _]) (pc := 98) dX6_day_98 (tX5_lookOver H1.X T hok.1 (by decide) (by decide) (Al_lt ds)) lk_X6_234 ykX5_lookOver vkX5_lookOver hx1 rfl rfl rfl (Nat.le_of_ble_eq_true rfl) ⟨by decide, by decide⟩ ⟨Nat.le_refl _, Nat.le_refl _⟩ (fun w1 p98 => ?_)
            obtain ⟨s4, f4⟩ := p98
            have H4 := H1.finds (H1.H.fr (fun y y1 y2 => f4 y (by omega))) s4.X (H1.Y.fr (fun y y1 y2 => f4 y (by omega))) (H1.V.fr (f4 _ (by decide)) (f4 _ (by decide))) (fun y hy => f4 y (by omega))
            have h1_o := H4.o
            have h1_p := H4.p
            have h1_u := H4.u
            have h1_k := H4.k
            have h1_x := s4.q
            have h1_t := T.r
            have h1_y := hy1
            refine ex_aload_n (pc := 101) dX6_day_101 rfl ?_
            refine ex_getfield (pc := 102) dX6_day_102 fk_X6_45 h1_o (by rfl) ?_
            refine ex_getfield (pc := 105) dX6_day_105 fk_X6_152 h1_x (by rfl) ?_
            exact ex_iret (pc := 108) dX6_day_108 ⟨by rw [hop, if_neg (by omega), if_pos (by omega)], ClsS.mk hv H4 (hcf.fr (fun y y1 y2 => f4 y (by omega))), fun y hy => (f4 y (by omega)).trans (hfr y (by omega) (by omega))⟩ rfl (Nat.le_refl _)
        · refine ex_aload_n (pc := 70) dX6_day_70 rfl ?_
          refine ex_getfield (pc := 71) dX6_day_71 fk_X6_23 H1.o (by rfl) ?_
          refine ex_getfield (pc := 74) dX6_day_74 fk_X6_89 T.r (by rfl) ?_
          exact ex_iret (pc := 77) dX6_day_77 ⟨by rw [hop, if_pos (by omega)], ClsS.mk hv H1 hcf, fun y hy => hfr y (by omega) (by omega)⟩ rfl (Nat.le_refl _)
      · refine ex_aload_n (pc := 53) dX6_day_53 rfl ?_
        refine ex_iload_n (pc := 54) dX6_day_54 rfl ?_
        refine ex_iload (pc := 55) dX6_day_55 rfl ?_
        refine ex_callVV (as := [_, _]) (pc := 57) dX6_day_57 (tX6_drawOnce H1.o T hok.1 hz (by omega)) lk_X6_230 ykX6_drawOnce vkX6_drawOnce H1.o rfl rfl rfl (Nat.le_of_ble_eq_true rfl) ⟨by decide, by decide⟩ ⟨Nat.le_refl _, Nat.le_refl _⟩ (fun w2 p57 => ?_)
        obtain ⟨q1, q2⟩ := p57
        refine ex_iinc (L2 := [_, _, _, _, _]) (pc := 60) dX6_day_60 rfl rfl (Nat.le_of_ble_eq_true rfl) (by unfold inI; omega) rfl ?_
        refine ex_goto (pc := 63) dX6_day_63 (tgt := 47) (by decide) ?_
        exact ih (k + 1) (by omega) (by omega) w2 (H1.trial q1.Tr q2) q1 (hap_ok hok.1 hok.2.1 hok.2.2 (dayC_rng (by unfold drw; exact Int.emod_nonneg _ (by decide)))) (fun y y1 y2 => (q2 y y1 y2).trans (hfr y y1 y2))
  show Ex _ _ 0 0 n w 0 [some (xr 0), some (xi z), some (xi m), some (xi a), none] []
  refine ex_iload_n (pc := 0) dX6_day_0 rfl ?_
  refine ex_if_lt (pc := 1) dX6_day_1 (tgt := 31) (by decide) (fun c1 => ?_) (fun c1 => ?_)
  · refine ex_iconst (pc := 31) dX6_day_31 (by decide) ?_
    exact ex_iret (pc := 32) dX6_day_32 ⟨by unfold opDay; rw [if_pos (by omega)], hS0, fun _ _ => rfl⟩ rfl (Nat.le_refl _)
  · refine ex_iload_n (pc := 4) dX6_day_4 rfl ?_
    refine ex_sipush (pc := 5) dX6_day_5 (by decide) ?_
    refine ex_icmp_gt (pc := 8) dX6_day_8 (tgt := 31) (by decide) (fun c8 => ?_) (fun c8 => ?_)
    · refine ex_iconst (pc := 31) dX6_day_31 (by decide) ?_
      exact ex_iret (pc := 32) dX6_day_32 ⟨by unfold opDay; rw [if_pos (by omega)], hS0, fun _ _ => rfl⟩ rfl (Nat.le_refl _)
    · refine ex_iload_n (pc := 11) dX6_day_11 rfl ?_
      refine ex_iconst (pc := 12) dX6_day_12 (by decide) ?_
      refine ex_icmp_lt (pc := 13) dX6_day_13 (tgt := 31) (by decide) (fun c13 => ?_) (fun c13 => ?_)
      · refine ex_iconst (pc := 31) dX6_day_31 (by decide) ?_
        exact ex_iret (pc := 32) dX6_day_32 ⟨by unfold opDay; rw [if_pos (by omega)], hS0, fun _ _ => rfl⟩ rfl (Nat.le_refl _)
      · refine ex_iload_n (pc := 16) dX6_day_16 rfl ?_
        refine ex_bipush (pc := 17) dX6_day_17 (by decide) ?_
        refine ex_icmp_gt (pc := 19) dX6_day_19 (tgt := 31) (by decide) (fun c19 => ?_) (fun c19 => ?_)
        · refine ex_iconst (pc := 31) dX6_day_31 (by decide) ?_
          exact ex_iret (pc := 32) dX6_day_32 ⟨by unfold opDay; rw [if_pos (by omega)], hS0, fun _ _ => rfl⟩ rfl (Nat.le_refl _)
        · refine ex_iload_n (pc := 22) dX6_day_22 rfl ?_
          refine ex_if_lt (pc := 23) dX6_day_23 (tgt := 31) (by decide) (fun c23 => ?_) (fun c23 => ?_)
          · refine ex_iconst (pc := 31) dX6_day_31 (by decide) ?_
            exact ex_iret (pc := 32) dX6_day_32 ⟨by unfold opDay; rw [if_pos (by omega)], hS0, fun _ _ => rfl⟩ rfl (Nat.le_refl _)
          · refine ex_iload_n (pc := 26) dX6_day_26 rfl ?_
            refine ex_iconst (pc := 27) dX6_day_27 (by decide) ?_
            refine ex_icmp_le (pc := 28) dX6_day_28 (tgt := 33) (by decide) (fun c28 => ?_) (fun c28 => ?_)
            · refine ex_aload_n (pc := 33) dX6_day_33 rfl ?_
              refine ex_getfield (pc := 34) dX6_day_34 fk_X6_23 H.o (by rfl) ?_
              refine ex_aload_n (pc := 37) dX6_day_37 rfl ?_
              refine ex_getfield (pc := 38) dX6_day_38 fk_X6_19 H.o (by rfl) ?_
              obtain ⟨u1, u2, f0, k1, k2⟩ := H.T
              refine ex_callVV (as := [_]) (pc := 41) dX6_day_41 (lX2_copyFrom k1 k2 H.P (by decide) (by decide)) lk_X6_92 ykX2_copyFrom vkX2_copyFrom k1 rfl rfl rfl (Nat.le_of_ble_eq_true rfl) ⟨by decide, by decide⟩ ⟨Nat.le_refl _, Nat.le_refl _⟩ (fun w1 p41 => ?_)
              obtain ⟨T1, f1⟩ := p41
              refine ex_iconst (pc := 44) dX6_day_44 (by decide) ?_
              refine ex_istore (L2 := [_, _, _, _, _]) (pc := 45) dX6_day_45 rfl (Nat.le_of_ble_eq_true rfl) rfl ?_
              exact loop (by omega) (by omega) (by omega) (m.toNat + 1) 0 (by omega) (by omega) w1 (H.trial T1.Tr f1) T1 ⟨hv.1.1, hv.1.2.1, hlen⟩ f1
            · refine ex_iconst (pc := 31) dX6_day_31 (by decide) ?_
              exact ex_iret (pc := 32) dX6_day_32 ⟨by unfold opDay; rw [if_pos (by omega)], hS0, fun _ _ => rfl⟩ rfl (Nat.le_refl _)
