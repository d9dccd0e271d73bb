theorem okP.len {x : List Int × Int} (h : okP x) : x.1.length ≤ 14 := h.2.2.1
theorem ptS_len (cs : List Int) (mo : Int) : ∀ d rest acc pc, (ptS cs mo d rest acc pc).1.length ≤ acc.length + d := by
  intro d
  induction d with
  | zero => intro rest acc pc; exact Nat.le_refl _
  | succ d ih =>
    intro rest acc pc
    unfold ptS
    split
    · have := ih (dif rest (pcS cs mo rest (ptN cs mo rest)).2) (acc ++ [(ptN cs mo rest, (pcS cs mo rest (ptN cs mo rest)).1, (pcS cs mo rest (ptN cs mo rest)).2)]) (pc + (pc14 (ptN cs mo rest) + (pcS cs mo rest (ptN cs mo rest)).1 - 1))
      rw [List.length_append] at this
      simp only [List.length_cons, List.length_nil] at this
      omega
    · show acc.length ≤ _; omega
abbrev mX6_parted : xC := mkC yX6_parted cX6_parted 3 (some .int) 7 700 0 0
set_option maxHeartbeats 4000000 in
set_option maxRecDepth 100000 in
theorem tX6_parted {n : Nat} {w : xW} {s : St} (hS : ClsS w s) {k a : Int} : Ctr mX6_parted [xr 0, xi k, xi a] n w (pI (fun v w2 => v = opParted s k a ∧ ClsS w2 s ∧ FrO w w2)) := by
  refine Ctr.of ykX6_parted rfl (Nat.le_of_ble_eq_true rfl) okI (fun hin hW => ?_)
  have hS0 := hS
  obtain ⟨hv, wk, bk, bc, bg, H, hc⟩ := hS
  have hlen := H.P.len
  obtain ⟨ya, yb, yc, yf0, yg0, yh0, hy1, -⟩ := id H.Y
  show Ex _ _ 0 0 n w 0 [some (xr 0), some (xi k), some (xi a)] []
  refine ex_iload_n (pc := 0) dX6_parted_0 rfl ?_
  refine ex_if_lt (pc := 1) dX6_parted_1 (tgt := 13) (by decide) (fun c1 => ?_) (fun c1 => ?_)
  · refine ex_iconst (pc := 13) dX6_parted_13 (by decide) ?_
    exact ex_iret (pc := 14) dX6_parted_14 ⟨by unfold opParted; rw [if_pos (by omega)], hS0, fun _ _ => rfl⟩ rfl (Nat.le_refl _)
  · refine ex_iload_n (pc := 4) dX6_parted_4 rfl ?_
    refine ex_if_lt (pc := 5) dX6_parted_5 (tgt := 13) (by decide) (fun c5 => ?_) (fun c5 => ?_)
    · refine ex_iconst (pc := 13) dX6_parted_13 (by decide) ?_
      exact ex_iret (pc := 14) dX6_parted_14 ⟨by unfold opParted; rw [if_pos (by omega)], hS0, fun _ _ => rfl⟩ rfl (Nat.le_refl _)
    · refine ex_iload_n (pc := 8) dX6_parted_8 rfl ?_
      refine ex_iconst (pc := 9) dX6_parted_9 (by decide) ?_
      refine ex_icmp_le (pc := 10) dX6_parted_10 (tgt := 15) (by decide) (fun c10 => ?_) (fun c10 => ?_)
      · refine ex_aload_n (pc := 15) dX6_parted_15 rfl ?_
        refine ex_getfield (pc := 16) dX6_parted_16 fk_X6_51 H.o (by rfl) ?_
        refine ex_aload_n (pc := 19) dX6_parted_19 rfl ?_
        refine ex_getfield (pc := 20) dX6_parted_20 fk_X6_19 H.o (by rfl) ?_
        refine ex_aload_n (pc := 23) dX6_parted_23 rfl ?_
        refine ex_getfield (pc := 24) dX6_parted_24 fk_X6_45 H.o (by rfl) ?_
        refine ex_callVV (as := [_, _]) (pc := 27) dX6_parted_27 (tX1_takeApart H.X H.Y H.P hv.1.1 (by decide) (by decide) (by decide) (by decide) (by decide) (RES := resP s.1 s.2.1) rfl) lk_X6_180 ykX1_takeApart vkX1_takeApart hy1 rfl rfl rfl (Nat.le_of_ble_eq_true rfl) ⟨by decide, by decide⟩ ⟨Nat.le_refl _, Nat.le_refl _⟩ (fun w1 p27 => ?_)
        obtain ⟨q1, q2, q3, q4⟩ := p27
        have H1 := H.finds (H.H.fr (fun z z1 z2 => q4 z (by omega) (by omega))) q3 q1.X (H.V.fr (q4 _ (by decide) (by decide)) (q4 _ (by decide) (by decide))) (fun z hz => q4 z (by omega) (by omega))
        have hS9 : ClsS w1 s := ClsS.mk hv H1 (hc.fr (fun z z1 z2 => q4 z (by omega) (by omega)))
        have f1 : FrO w w1 := fun z hz => q4 z (by omega) (by omega)
        obtain ⟨yf, yg, yh, h1_y, h1_yf, h1_yg, h1_yh, hpt⟩ := id q1
        generalize hRP : resP s.1 s.2.1 = RP at *
        have h1_o := H1.o
        have h1_p := H1.p
        have h1_u := H1.u
        have h1_k := H1.k
        refine ex_iload_n (pc := 30) dX6_parted_30 rfl ?_
        refine ex_aload_n (pc := 31) dX6_parted_31 rfl ?_
        refine ex_getfield (pc := 32) dX6_parted_32 fk_X6_51 h1_o (by rfl) ?_
        refine ex_getfield (pc := 35) dX6_parted_35 fk_X6_184 h1_y (by rfl) ?_
        have hRl : RP.1.length ≤ 14 := by rw [← hRP]; have := ptS_len s.1 s.2.1 14 (Al s.1) [] 0; simpa using this
        refine ex_icmp_lt (pc := 38) dX6_parted_38 (tgt := 44) (by decide) (fun c38 => ?_) (fun c38 => ?_)
        · refine ex_iload_n (pc := 44) dX6_parted_44 rfl ?_
          refine ex_if_ne (pc := 45) dX6_parted_45 (tgt := 58) (by decide) (fun c45 => ?_) (fun c45 => ?_)
          · refine ex_iload_n (pc := 58) dX6_parted_58 rfl ?_
            refine ex_iconst (pc := 59) dX6_parted_59 (by decide) ?_
            refine ex_icmp_ne (pc := 60) dX6_parted_60 (tgt := 75) (by decide) (fun c60 => ?_) (fun c60 => ?_)
            · refine ex_aload_n (pc := 75) dX6_parted_75 rfl ?_
              refine ex_getfield (pc := 76) dX6_parted_76 fk_X6_51 h1_o (by rfl) ?_
              refine ex_getfield (pc := 79) dX6_parted_79 fk_X6_191 h1_y (by rfl) ?_
              refine ex_iload_n (pc := 82) dX6_parted_82 rfl ?_
              refine ex_iaload (pc := 83) dX6_parted_83 h1_yh (by omega) (by omega) ?_
              rw [(hpt k.toNat (by omega)).2.2]
              exact ex_iret (pc := 84) dX6_parted_84 ⟨by unfold opParted; rw [hRP, if_neg (by omega), if_neg (by omega), if_neg (by omega), if_neg (by omega)], hS9, f1⟩ rfl (Nat.le_refl _)
            · refine ex_aload_n (pc := 63) dX6_parted_63 rfl ?_
              refine ex_getfield (pc := 64) dX6_parted_64 fk_X6_51 h1_o (by rfl) ?_
              refine ex_getfield (pc := 67) dX6_parted_67 fk_X6_188 h1_y (by rfl) ?_
              refine ex_iload_n (pc := 70) dX6_parted_70 rfl ?_
              refine ex_iaload (pc := 71) dX6_parted_71 h1_yg (by omega) (by omega) ?_
              rw [(hpt k.toNat (by omega)).2.1]
              refine ex_goto (pc := 72) dX6_parted_72 (tgt := 84) (by decide) ?_
              exact ex_iret (pc := 84) dX6_parted_84 ⟨by unfold opParted; rw [hRP, if_neg (by omega), if_neg (by omega), if_neg (by omega), if_pos (by omega)], hS9, f1⟩ rfl (Nat.le_refl _)
          · refine ex_aload_n (pc := 48) dX6_parted_48 rfl ?_
            refine ex_getfield (pc := 49) dX6_parted_49 fk_X6_51 h1_o (by rfl) ?_
            refine ex_getfield (pc := 52) dX6_parted_52 fk_X6_185 h1_y (by rfl) ?_
            refine ex_iload_n (pc := 55) dX6_parted_55 rfl ?_
            refine ex_iaload (pc := 56) dX6_parted_56 h1_yf (by omega) (by omega) ?_
            rw [(hpt k.toNat (by omega)).1]
            exact ex_iret (pc := 57) dX6_parted_57 ⟨by unfold opParted; rw [hRP, if_neg (by omega), if_neg (by omega), if_pos (by omega)], hS9, f1⟩ rfl (Nat.le_refl _)
        · refine ex_bipush (pc := 41) dX6_parted_41 (by decide) ?_
          exact ex_iret (pc := 43) dX6_parted_43 ⟨by unfold opParted; rw [hRP, if_neg (by omega), if_pos (by omega)], hS9, f1⟩ rfl (Nat.le_refl _)
      · refine ex_iconst (pc := 13) dX6_parted_13 (by decide) ?_
        exact ex_iret (pc := 14) dX6_parted_14 ⟨by unfold opParted; rw [if_pos (by omega)], hS0, fun _ _ => rfl⟩ rfl (Nat.le_refl _)

abbrev mX6_parting : xC := mkC yX6_parting cX6_parting 2 (some .int) 7 700 0 0
set_option maxHeartbeats 4000000 in
set_option maxRecDepth 100000 in
theorem tX6_parting {n : Nat} {w : xW} {s : St} (hS : ClsS w s) {a : Int} : Ctr mX6_parting [xr 0, xi a] n w (pI (fun v w2 => v = opParting s a ∧ ClsS w2 s ∧ FrO w w2)) := by
  refine Ctr.of ykX6_parting rfl (Nat.le_of_ble_eq_true rfl) okI (fun hin hW => ?_)
  have hS0 := hS
  obtain ⟨hv, wk, bk, bc, bg, H, hc⟩ := hS
  have hlen := H.P.len
  obtain ⟨ya, yb, yc, yf0, yg0, yh0, hy1, -⟩ := id H.Y
  show Ex _ _ 0 0 n w 0 [some (xr 0), some (xi a)] []
  refine ex_iload_n (pc := 0) dX6_parting_0 rfl ?_
  refine ex_if_lt (pc := 1) dX6_parting_1 (tgt := 9) (by decide) (fun c1 => ?_) (fun c1 => ?_)
  · refine ex_iconst (pc := 9) dX6_parting_9 (by decide) ?_
    exact ex_iret (pc := 10) dX6_parting_10 ⟨by unfold opParting; rw [if_pos (by omega)], hS0, fun _ _ => rfl⟩ rfl (Nat.le_refl _)
  · refine ex_iload_n (pc := 4) dX6_parting_4 rfl ?_
    refine ex_iconst (pc := 5) dX6_parting_5 (by decide) ?_
    refine ex_icmp_le (pc := 6) dX6_parting_6 (tgt := 11) (by decide) (fun c6 => ?_) (fun c6 => ?_)
    · refine ex_aload_n (pc := 11) dX6_parting_11 rfl ?_
      refine ex_getfield (pc := 12) dX6_parting_12 fk_X6_51 H.o (by rfl) ?_
      refine ex_aload_n (pc := 15) dX6_parting_15 rfl ?_
      refine ex_getfield (pc := 16) dX6_parting_16 fk_X6_19 H.o (by rfl) ?_
      refine ex_aload_n (pc := 19) dX6_parting_19 rfl ?_
      refine ex_getfield (pc := 20) dX6_parting_20 fk_X6_45 H.o (by rfl) ?_
      refine ex_callVV (as := [_, _]) (pc := 23) dX6_parting_23 (tX1_takeApart H.X H.Y H.P hv.1.1 (by decide) (by decide) (by decide) (by decide) (by decide) (RES := resP s.1 s.2.1) rfl) lk_X6_180 ykX1_takeApart vkX1_takeApart hy1 rfl rfl rfl (Nat.le_of_ble_eq_true rfl) ⟨by decide, by decide⟩ ⟨Nat.le_refl _, Nat.le_refl _⟩ (fun w1 p23 => ?_)
      obtain ⟨q1, q2, q3, q4⟩ := p23
      have H1 := H.finds (H.H.fr (fun z z1 z2 => q4 z (by omega) (by omega))) q3 q1.X (H.V.fr (q4 _ (by decide) (by decide)) (q4 _ (by decide) (by decide))) (fun z hz => q4 z (by omega) (by omega))
      have hS9 : ClsS w1 s := ClsS.mk hv H1 (hc.fr (fun z z1 z2 => q4 z (by omega) (by omega)))
      have f1 : FrO w w1 := fun z hz => q4 z (by omega) (by omega)
      obtain ⟨yf, yg, yh, h1_y, h1_yf, h1_yg, h1_yh, hpt⟩ := id q1
      generalize hRP : resP s.1 s.2.1 = RP at *
      have h1_o := H1.o
      have h1_p := H1.p
      have h1_u := H1.u
      have h1_k := H1.k
      refine ex_iload_n (pc := 26) dX6_parting_26 rfl ?_
      refine ex_if_ne (pc := 27) dX6_parting_27 (tgt := 38) (by decide) (fun c27 => ?_) (fun c27 => ?_)
      · refine ex_iload_n (pc := 38) dX6_parting_38 rfl ?_
        refine ex_iconst (pc := 39) dX6_parting_39 (by decide) ?_
        refine ex_icmp_ne (pc := 40) dX6_parting_40 (tgt := 53) (by decide) (fun c40 => ?_) (fun c40 => ?_)
        · refine ex_aload_n (pc := 53) dX6_parting_53 rfl ?_
          refine ex_getfield (pc := 54) dX6_parting_54 fk_X6_51 h1_o (by rfl) ?_
          refine ex_getfield (pc := 57) dX6_parting_57 fk_X6_197 h1_y (by rfl) ?_
          exact ex_iret (pc := 60) dX6_parting_60 ⟨by unfold opParting; rw [hRP, if_neg (by omega), if_neg (by omega), if_neg (by omega)], hS9, f1⟩ rfl (Nat.le_refl _)
        · refine ex_aload_n (pc := 43) dX6_parting_43 rfl ?_
          refine ex_getfield (pc := 44) dX6_parting_44 fk_X6_51 h1_o (by rfl) ?_
          refine ex_getfield (pc := 47) dX6_parting_47 fk_X6_194 h1_y (by rfl) ?_
          refine ex_goto (pc := 50) dX6_parting_50 (tgt := 60) (by decide) ?_
          exact ex_iret (pc := 60) dX6_parting_60 ⟨by unfold opParting; rw [hRP, if_neg (by omega), if_neg (by omega), if_pos (by omega)], hS9, f1⟩ rfl (Nat.le_refl _)
      · refine ex_aload_n (pc := 30) dX6_parting_30 rfl ?_
        refine ex_getfield (pc := 31) dX6_parting_31 fk_X6_51 h1_o (by rfl) ?_
        refine ex_getfield (pc := 34) dX6_parting_34 fk_X6_184 h1_y (by rfl) ?_
        exact ex_iret (pc := 37) dX6_parting_37 ⟨by unfold opParting; rw [hRP, if_neg (by omega), if_pos (by omega)], hS9, f1⟩ rfl (Nat.le_refl _)
    · refine ex_iconst (pc := 9) dX6_parting_9 (by decide) ?_
      exact ex_iret (pc := 10) dX6_parting_10 ⟨by unfold opParting; rw [if_pos (by omega)], hS0, fun _ _ => rfl⟩ rfl (Nat.le_refl _)

abbrev mX6_shapes : xC := mkC yX6_shapes cX6_shapes 2 (some .int) 18 1800 0 0
set_option maxHeartbeats 4000000 in
set_option maxRecDepth 100000 in
theorem tX6_shapes {n : Nat} {w : xW} {s : St} (hS : ClsS w s) {a : Int} : Ctr mX6_shapes [xr 0, xi a] n w (pI (fun v w2 => v = opShapes s a ∧ ClsS w2 s ∧ FrO w w2)) := by
  refine Ctr.of ykX6_shapes rfl (Nat.le_of_ble_eq_true rfl) okI (fun hin hW => ?_)
  have hS0 := hS
  obtain ⟨hv, wk, bk, bc, bg, H, hc⟩ := hS
  have hlen := H.P.len
  show Ex _ _ 0 0 n w 0 [some (xr 0), some (xi a)] []
  refine ex_iload_n (pc := 0) dX6_shapes_0 rfl ?_
  by_cases q1_0 : a = 0
  · refine ex_tableIn (pc := 1) dX6_shapes_1 (by omega) (by omega) (off := 27) (tgt := 28) (by rw [q1_0]; rfl) (by decide) ?_
    refine ex_aload_n (pc := 28) dX6_shapes_28 rfl ?_
    refine ex_callVR (as := []) (pc := 29) dX6_shapes_29 (tX6_wholeSearch hS0) lk_X6_141 ykX6_wholeSearch vkX6_wholeSearch H.o rfl rfl rfl (Nat.le_of_ble_eq_true rfl) ⟨by decide, by decide⟩ ⟨Nat.le_refl _, Nat.le_refl _⟩ (fun i29 w1 p29 => ?_)
    obtain ⟨e_r, s1, hS1, f1⟩ := p29
    subst e_r
    have hS9 := hS1
    obtain ⟨hv1, wk1, bk1, bc1, bg1, H1, hc1⟩ := hS1
    have h1_o := H1.o
    have h1_p := H1.p
    have h1_u := H1.u
    have h1_k := H1.k
    have h1_h := s1.q
    refine ex_getfield (pc := 32) dX6_shapes_32 fk_X6_152 h1_h (by rfl) ?_
    exact ex_iret (pc := 35) dX6_shapes_35 ⟨by unfold opShapes; rw [if_pos q1_0], hS9, f1⟩ rfl (Nat.le_refl _)
  by_cases q1_1 : a = 1
  · refine ex_tableIn (pc := 1) dX6_shapes_1 (by omega) (by omega) (off := 35) (tgt := 36) (by rw [q1_1]; rfl) (by decide) ?_
    refine ex_aload_n (pc := 36) dX6_shapes_36 rfl ?_
    refine ex_getfield (pc := 37) dX6_shapes_37 fk_X6_58 H.o (by rfl) ?_
    refine ex_aload_n (pc := 40) dX6_shapes_40 rfl ?_
    refine ex_callVR (as := []) (pc := 41) dX6_shapes_41 (tX6_wholeSearch hS0) lk_X6_141 ykX6_wholeSearch vkX6_wholeSearch H.o rfl rfl rfl (Nat.le_of_ble_eq_true rfl) ⟨by decide, by decide⟩ ⟨Nat.le_refl _, Nat.le_refl _⟩ (fun i41 w1 p41 => ?_)
    obtain ⟨e_r, s1, hS1, f1⟩ := p41
    subst e_r
    have hS9 := hS1
    obtain ⟨hv1, wk1, bk1, bc1, bg1, H1, hc1⟩ := hS1
    have h1_o := H1.o
    have h1_p := H1.p
    have h1_u := H1.u
    have h1_k := H1.k
    have h1_h := s1.q
    obtain ⟨cs9, cf9, j1, j2⟩ := H1.V
    refine ex_callVI (as := [_]) (pc := 44) dX6_shapes_44 (tX0_fewestOf s1 H1.P.len j1 j2 (by decide)) lk_X6_200 ykX0_fewestOf vkX0_fewestOf j1 rfl rfl rfl (Nat.le_of_ble_eq_true rfl) ⟨by decide, by decide⟩ ⟨Nat.le_refl _, Nat.le_refl _⟩ (fun i44 w2 r44 p44 => ?_)
    obtain ⟨q1, ⟨d1, d2, d3, d4⟩, q4⟩ := p44
    have H2 := H1.finds (H1.H.fr (fun z z1 z2 => q4 z (by omega) (by omega))) (H1.X.fr (fun z z1 z2 => q4 z (by omega) (by omega))) (H1.Y.fr (fun z z1 z2 => q4 z (by omega) (by omega))) ⟨d1, d2, d3, d4⟩ (fun z hz => q4 z (by omega) (by omega))
    have hS8 : ClsS w2 s := ClsS.mk hv H2 (hc1.fr (fun z z1 z2 => q4 z (by omega) (by omega)))
    exact ex_iret (pc := 47) dX6_shapes_47 ⟨by unfold opShapes; rw [if_neg q1_0, if_pos q1_1]; exact q1, hS8, fun z hz => (q4 z (by omega) (by omega)).trans (f1 z hz)⟩ rfl (Nat.le_refl _)
  by_cases q1_2 : a = 2
  · refine ex_tableIn (pc := 1) dX6_shapes_1 (by omega) (by omega) (off := 47) (tgt := 48) (by rw [q1_2]; rfl) (by decide) ?_
    refine ex_aload_n (pc := 48) dX6_shapes_48 rfl ?_
    refine ex_getfield (pc := 49) dX6_shapes_49 fk_X6_19 H.o (by rfl) ?_
    refine ex_callVI (as := []) (pc := 52) dX6_shapes_52 (lX2_allNotes H.P) lk_X6_167 ykX2_allNotes vkX2_allNotes H.p rfl rfl rfl (Nat.le_of_ble_eq_true rfl) ⟨by decide, by decide⟩ ⟨Nat.le_refl _, Nat.le_refl _⟩ (fun i52 w1 r52 p52 => ?_)
    obtain ⟨e52, p52⟩ := p52
    rw [e52, p52]
    refine ex_aload_n (pc := 55) dX6_shapes_55 rfl ?_
    refine ex_callVR (as := []) (pc := 56) dX6_shapes_56 (tX6_wholeSearch hS0) lk_X6_141 ykX6_wholeSearch vkX6_wholeSearch H.o rfl rfl rfl (Nat.le_of_ble_eq_true rfl) ⟨by decide, by decide⟩ ⟨Nat.le_refl _, Nat.le_refl _⟩ (fun i56 w1 p56 => ?_)
    obtain ⟨e_r, s1, hS1, f1⟩ := p56
    subst e_r
    have hS9 := hS1
    obtain ⟨hv1, wk1, bk1, bc1, bg1, H1, hc1⟩ := hS1
    have h1_o := H1.o
    have h1_p := H1.p
    have h1_u := H1.u
    have h1_k := H1.k
    have h1_h := s1.q
    refine ex_callVI (as := []) (pc := 59) dX6_shapes_59 (tX5_covered s1 H1.P.len) lk_X6_204 ykX5_covered vkX5_covered h1_h rfl rfl rfl (Nat.le_of_ble_eq_true rfl) ⟨by decide, by decide⟩ ⟨Nat.le_refl _, Nat.le_refl _⟩ (fun i59 w2 r59 p59 => ?_)
    obtain ⟨e59, p59⟩ := p59
    rw [e59, p59]
    refine ex_iconst (pc := 62) dX6_shapes_62 (by decide) ?_
    refine ex_ixor (pc := 63) dX6_shapes_63 ?_
    refine ex_iand (pc := 64) dX6_shapes_64 ?_
    refine ex_eq (xdif_n (b := covS s.1 s.2.1 (Al s.1)) (by have := Al_16 hlen; unfold Al at this; omega)) ?_
    exact ex_iret (pc := 65) dX6_shapes_65 ⟨by unfold opShapes; rw [if_neg q1_0, if_neg q1_1, if_pos q1_2], hS9, f1⟩ rfl (Nat.le_refl _)
  refine ex_tableOut (pc := 1) dX6_shapes_1 (by omega) (tgt := 66) (by decide) ?_
  refine ex_iconst (pc := 66) dX6_shapes_66 (by decide) ?_
  exact ex_iret (pc := 67) dX6_shapes_67 ⟨by unfold opShapes; rw [if_neg q1_0, if_neg q1_1, if_neg q1_2], hS0, fun _ _ => rfl⟩ rfl (Nat.le_refl _)

abbrev mX6_link : xC := mkC yX6_link cX6_link 6 (some .int) 7 700 0 0
set_option maxHeartbeats 4000000 in
set_option maxRecDepth 100000 in
theorem tX6_link {n : Nat} {w : xW} {s : St} (hS : ClsS w s) {a b c : Int} : Ctr mX6_link [xr 0, xi a, xi b, xi c] n w (pI (fun v w2 => v = opLink s a b c ∧ ClsS w2 s ∧ FrO w w2)) := by
  refine Ctr.of ykX6_link rfl (Nat.le_of_ble_eq_true rfl) okI (fun hin hW => ?_)
  have hS0 := hS
  obtain ⟨hv, wk, bk, bc, bg, H, hc⟩ := hS
  have hlen := H.P.len
  show Ex _ _ 0 0 n w 0 [some (xr 0), some (xi a), some (xi b), some (xi c), none, none] []
  refine ex_aload_n (pc := 0) dX6_link_0 rfl ?_
  refine ex_iload_n (pc := 1) dX6_link_1 rfl ?_
  refine ex_callVZ (as := [_]) (pc := 2) dX6_link_2 (tX6_isNote H) lk_X6_100 ykX6_isNote vkX6_isNote H.o rfl rfl rfl (Nat.le_of_ble_eq_true rfl) ⟨by decide, by decide⟩ ⟨Nat.le_refl _, Nat.le_refl _⟩ (fun i2 w1 r2 p2 => ?_)
  obtain ⟨e2, p2⟩ := p2
  rw [e2]
  refine ex_if_eq (pc := 5) dX6_link_5 (tgt := 21) (by decide) (fun c5 => ?_) (fun c5 => ?_)
  · refine ex_iconst (pc := 21) dX6_link_21 (by decide) ?_
    exact ex_iret (pc := 22) dX6_link_22 ⟨by unfold opLink; rw [if_pos (by omega)], hS0, fun _ _ => rfl⟩ rfl (Nat.le_refl _)
  · refine ex_aload_n (pc := 8) dX6_link_8 rfl ?_
    refine ex_iload_n (pc := 9) dX6_link_9 rfl ?_
    refine ex_callVZ (as := [_]) (pc := 10) dX6_link_10 (tX6_isNote H) lk_X6_100 ykX6_isNote vkX6_isNote H.o rfl rfl rfl (Nat.le_of_ble_eq_true rfl) ⟨by decide, by decide⟩ ⟨Nat.le_refl _, Nat.le_refl _⟩ (fun i10 w1 r10 p10 => ?_)
    obtain ⟨e10, p10⟩ := p10
    rw [e10]
    refine ex_if_eq (pc := 13) dX6_link_13 (tgt := 21) (by decide) (fun c13 => ?_) (fun c13 => ?_)
    · refine ex_iconst (pc := 21) dX6_link_21 (by decide) ?_
      exact ex_iret (pc := 22) dX6_link_22 ⟨by unfold opLink; rw [if_neg (by omega), if_pos (by omega)], hS0, fun _ _ => rfl⟩ rfl (Nat.le_refl _)
    · refine ex_iload_n (pc := 16) dX6_link_16 rfl ?_
      refine ex_iload_n (pc := 17) dX6_link_17 rfl ?_
      refine ex_icmp_ne (pc := 18) dX6_link_18 (tgt := 23) (by decide) (fun c18 => ?_) (fun c18 => ?_)
      · have hcb : 0 ≤ s.1.getD b.toNat 0 ∧ s.1.getD b.toNat 0 < 240 := hv.1.1 b.toNat (show b.toNat < s.1.length by omega)
        have hca : 0 ≤ s.1.getD a.toNat 0 ∧ s.1.getD a.toNat 0 < 240 := hv.1.1 a.toNat (show a.toNat < s.1.length by omega)
        have hub : tmL s.1 b.toNat = s.1.getD b.toNat 0 / 12 ∧ ptL s.1 b.toNat = s.1.getD b.toNat 0 % 12 := ⟨rfl, rfl⟩
        have hua : tmL s.1 a.toNat = s.1.getD a.toNat 0 / 12 ∧ ptL s.1 a.toNat = s.1.getD a.toNat 0 % 12 := ⟨rfl, rfl⟩
        refine ex_aload_n (pc := 23) dX6_link_23 rfl ?_
        refine ex_getfield (pc := 24) dX6_link_24 fk_X6_19 H.o (by rfl) ?_
        refine ex_iload_n (pc := 27) dX6_link_27 rfl ?_
        refine ex_callVI (as := [_]) (pc := 28) dX6_link_28 (lX2_timeOf H.P hv.1.1) lk_X6_103 ykX2_timeOf vkX2_timeOf H.p rfl rfl rfl (Nat.le_of_ble_eq_true rfl) ⟨by decide, by decide⟩ ⟨Nat.le_refl _, Nat.le_refl _⟩ (fun i28 w1 r28 p28 => ?_)
        obtain ⟨e28, p28⟩ := p28
        rw [e28]
        rw [if_pos (by omega)] at p28
        have p28 : i28 = tmL s.1 b.toNat := p28
        refine ex_aload_n (pc := 31) dX6_link_31 rfl ?_
        refine ex_getfield (pc := 32) dX6_link_32 fk_X6_19 H.o (by rfl) ?_
        refine ex_iload_n (pc := 35) dX6_link_35 rfl ?_
        refine ex_callVI (as := [_]) (pc := 36) dX6_link_36 (lX2_timeOf H.P hv.1.1) lk_X6_103 ykX2_timeOf vkX2_timeOf H.p rfl rfl rfl (Nat.le_of_ble_eq_true rfl) ⟨by decide, by decide⟩ ⟨Nat.le_refl _, Nat.le_refl _⟩ (fun i36 w1 r36 p36 => ?_)
        obtain ⟨e36, p36⟩ := p36
        rw [e36]
        rw [if_pos (by omega)] at p36
        have p36 : i36 = tmL s.1 a.toNat := p36
        refine ex_isub (pc := 39) dX6_link_39 (by unfold inI; omega) ?_
        refine ex_istore (L2 := [_, _, _, _, _, _]) (pc := 40) dX6_link_40 rfl (Nat.le_of_ble_eq_true rfl) rfl ?_
        refine ex_aload_n (pc := 42) dX6_link_42 rfl ?_
        refine ex_getfield (pc := 43) dX6_link_43 fk_X6_19 H.o (by rfl) ?_
        refine ex_iload_n (pc := 46) dX6_link_46 rfl ?_
        refine ex_callVI (as := [_]) (pc := 47) dX6_link_47 (lX2_pitchOf H.P hv.1.1) lk_X6_106 ykX2_pitchOf vkX2_pitchOf H.p rfl rfl rfl (Nat.le_of_ble_eq_true rfl) ⟨by decide, by decide⟩ ⟨Nat.le_refl _, Nat.le_refl _⟩ (fun i47 w1 r47 p47 => ?_)
        obtain ⟨e47, p47⟩ := p47
        rw [e47]
        rw [if_pos (by omega)] at p47
        have p47 : i47 = ptL s.1 b.toNat := p47
        refine ex_aload_n (pc := 50) dX6_link_50 rfl ?_
        refine ex_getfield (pc := 51) dX6_link_51 fk_X6_19 H.o (by rfl) ?_
        refine ex_iload_n (pc := 54) dX6_link_54 rfl ?_
        refine ex_callVI (as := [_]) (pc := 55) dX6_link_55 (lX2_pitchOf H.P hv.1.1) lk_X6_106 ykX2_pitchOf vkX2_pitchOf H.p rfl rfl rfl (Nat.le_of_ble_eq_true rfl) ⟨by decide, by decide⟩ ⟨Nat.le_refl _, Nat.le_refl _⟩ (fun i55 w1 r55 p55 => ?_)
        obtain ⟨e55, p55⟩ := p55
        rw [e55]
        rw [if_pos (by omega)] at p55
        have p55 : i55 = ptL s.1 a.toNat := p55
        refine ex_isub (pc := 58) dX6_link_58 (by unfold inI; omega) ?_
        refine ex_istore (L2 := [_, _, _, _, _, _]) (pc := 59) dX6_link_59 rfl (Nat.le_of_ble_eq_true rfl) rfl ?_
        refine ex_aload_n (pc := 61) dX6_link_61 rfl ?_
        refine ex_getfield (pc := 62) dX6_link_62 fk_X6_19 H.o (by rfl) ?_
        refine ex_getfield (pc := 65) dX6_link_65 fk_X6_132 H.p (by rfl) ?_
        refine ex_iconst (pc := 68) dX6_link_68 (by decide) ?_
        refine ex_icmp_ne (pc := 69) dX6_link_69 (tgt := 81) (by decide) (fun c69 => ?_) (fun c69 => ?_)
        · refine ex_iload_n (pc := 81) dX6_link_81 rfl ?_
          by_cases q82_0 : c = 0
          · refine ex_tableIn (pc := 82) dX6_link_82 (by omega) (by omega) (off := 26) (tgt := 108) (by rw [q82_0]; rfl) (by decide) ?_
            refine ex_iload (pc := 108) dX6_link_108 rfl ?_
            refine ex_bipush (pc := 110) dX6_link_110 (by decide) ?_
            refine ex_iadd (pc := 112) dX6_link_112 (by unfold inI; omega) ?_
            exact ex_iret (pc := 113) dX6_link_113 ⟨by unfold opLink; rw [if_neg (by omega), if_neg (by omega), if_neg (by omega), if_pos q82_0]; omega, hS0, fun _ _ => rfl⟩ rfl (Nat.le_refl _)
          by_cases q82_1 : c = 1
          · refine ex_tableIn (pc := 82) dX6_link_82 (by omega) (by omega) (off := 32) (tgt := 114) (by rw [q82_1]; rfl) (by decide) ?_
            refine ex_iload (pc := 114) dX6_link_114 rfl ?_
            refine ex_bipush (pc := 116) dX6_link_116 (by decide) ?_
            refine ex_iadd (pc := 118) dX6_link_118 (by unfold inI; omega) ?_
            have hE : i47 - i55 = linkE s.2.1 (ptL s.1 b.toNat - ptL s.1 a.toNat) := by unfold linkE; rw [if_neg c69]; omega
            exact ex_iret (pc := 119) dX6_link_119 ⟨by unfold opLink; rw [if_neg (by omega), if_neg (by omega), if_neg (by omega), if_neg q82_0, if_pos q82_1, ← hE], hS0, fun _ _ => rfl⟩ rfl (Nat.le_refl _)
          by_cases q82_2 : c = 2
          · refine ex_tableIn (pc := 82) dX6_link_82 (by omega) (by omega) (off := 38) (tgt := 120) (by rw [q82_2]; rfl) (by decide) ?_
            refine ex_aload_n (pc := 120) dX6_link_120 rfl ?_
            refine ex_callVR (as := []) (pc := 121) dX6_link_121 (tX6_wholeSearch hS0) lk_X6_141 ykX6_wholeSearch vkX6_wholeSearch H.o rfl rfl rfl (Nat.le_of_ble_eq_true rfl) ⟨by decide, by decide⟩ ⟨Nat.le_refl _, Nat.le_refl _⟩ (fun i121 w1 p121 => ?_)
            obtain ⟨e_r, s1, hS1, f1⟩ := p121
            subst e_r
            have hS9 := hS1
            obtain ⟨hv1, wk1, bk1, bc1, bg1, H1, hc1⟩ := hS1
            have h1_o := H1.o
            have h1_p := H1.p
            have h1_u := H1.u
            have h1_k := H1.k
            have h1_h := s1.q
            refine ex_iload (pc := 124) dX6_link_124 rfl ?_
            refine ex_iload (pc := 126) dX6_link_126 rfl ?_
            have hE : i47 - i55 = linkE s.2.1 (ptL s.1 b.toNat - ptL s.1 a.toNat) := by unfold linkE; rw [if_neg c69]; omega
            refine ex_callVI (as := [_, _]) (pc := 128) dX6_link_128 (tX5_largestOf s1 (by omega)) lk_X6_145 ykX5_largestOf vkX5_largestOf h1_h rfl rfl rfl (Nat.le_of_ble_eq_true rfl) ⟨by decide, by decide⟩ ⟨Nat.le_refl _, Nat.le_refl _⟩ (fun i128 w2 r128 p128 => ?_)
            obtain ⟨e128, p128⟩ := p128
            rw [e128]
            rw [if_pos (by omega)] at p128
            rw [p128]
            refine ex_callSI (as := [_]) (pc := 131) dX6_link_131 (tJ6_bitCount_0f7a4 (lgS_lt _ _ _ _)) lk_X6_212 ykJ6_bitCount_0f7a4 zkJ6_bitCount_0f7a4 rfl rfl (Nat.le_of_ble_eq_true rfl) ⟨by decide, by decide⟩ ⟨Nat.le_refl _, Nat.le_refl _⟩ (fun i131 w2 r131 p131 => ?_)
            obtain ⟨e131, p131⟩ := p131
            rw [e131]
            exact ex_iret (pc := 134) dX6_link_134 ⟨by unfold opLink; rw [if_neg (by omega), if_neg (by omega), if_neg (by omega), if_neg q82_0, if_neg q82_1, if_pos q82_2, p131, hE, p28, p36], hS9, f1⟩ rfl (Nat.le_refl _)
          refine ex_tableOut (pc := 82) dX6_link_82 (by omega) (tgt := 135) (by decide) ?_
          refine ex_iconst (pc := 135) dX6_link_135 (by decide) ?_
          exact ex_iret (pc := 136) dX6_link_136 ⟨by unfold opLink; rw [if_neg (by omega), if_neg (by omega), if_neg (by omega), if_neg q82_0, if_neg q82_1, if_neg q82_2], hS0, fun _ _ => rfl⟩ rfl (Nat.le_refl _)
        · refine ex_iload (pc := 72) dX6_link_72 rfl ?_
          refine ex_bipush (pc := 74) dX6_link_74 (by decide) ?_
          refine ex_callSI (as := [_, _]) (pc := 76) dX6_link_76 (tJ9_floorMod_7cf53) lk_X6_207 ykJ9_floorMod_7cf53 zkJ9_floorMod_7cf53 rfl rfl (Nat.le_of_ble_eq_true rfl) ⟨by decide, by decide⟩ ⟨Nat.le_refl _, Nat.le_refl _⟩ (fun i76 w1 r76 p76 => ?_)
          obtain ⟨e76, p76⟩ := p76
          rw [e76]
          refine ex_istore (L2 := [_, _, _, _, _, _]) (pc := 79) dX6_link_79 rfl (Nat.le_of_ble_eq_true rfl) rfl ?_
          refine ex_iload_n (pc := 81) dX6_link_81 rfl ?_
          by_cases q82_0 : c = 0
          · refine ex_tableIn (pc := 82) dX6_link_82 (by omega) (by omega) (off := 26) (tgt := 108) (by rw [q82_0]; rfl) (by decide) ?_
            refine ex_iload (pc := 108) dX6_link_108 rfl ?_
            refine ex_bipush (pc := 110) dX6_link_110 (by decide) ?_
            refine ex_iadd (pc := 112) dX6_link_112 (by unfold inI; omega) ?_
            exact ex_iret (pc := 113) dX6_link_113 ⟨by unfold opLink; rw [if_neg (by omega), if_neg (by omega), if_neg (by omega), if_pos q82_0]; omega, hS0, fun _ _ => rfl⟩ rfl (Nat.le_refl _)
          by_cases q82_1 : c = 1
          · refine ex_tableIn (pc := 82) dX6_link_82 (by omega) (by omega) (off := 32) (tgt := 114) (by rw [q82_1]; rfl) (by decide) ?_
            refine ex_iload (pc := 114) dX6_link_114 rfl ?_
            refine ex_bipush (pc := 116) dX6_link_116 (by decide) ?_
            refine ex_iadd (pc := 118) dX6_link_118 (by unfold inI; omega) ?_
            have hE : i76 = linkE s.2.1 (ptL s.1 b.toNat - ptL s.1 a.toNat) := by unfold linkE; rw [if_pos c69]; rw [p76, p47, p55]
            exact ex_iret (pc := 119) dX6_link_119 ⟨by unfold opLink; rw [if_neg (by omega), if_neg (by omega), if_neg (by omega), if_neg q82_0, if_pos q82_1, ← hE], hS0, fun _ _ => rfl⟩ rfl (Nat.le_refl _)
          by_cases q82_2 : c = 2
          · refine ex_tableIn (pc := 82) dX6_link_82 (by omega) (by omega) (off := 38) (tgt := 120) (by rw [q82_2]; rfl) (by decide) ?_
            refine ex_aload_n (pc := 120) dX6_link_120 rfl ?_
            refine ex_callVR (as := []) (pc := 121) dX6_link_121 (tX6_wholeSearch hS0) lk_X6_141 ykX6_wholeSearch vkX6_wholeSearch H.o rfl rfl rfl (Nat.le_of_ble_eq_true rfl) ⟨by decide, by decide⟩ ⟨Nat.le_refl _, Nat.le_refl _⟩ (fun i121 w1 p121 => ?_)
            obtain ⟨e_r, s1, hS1, f1⟩ := p121
            subst e_r
            have hS9 := hS1
            obtain ⟨hv1, wk1, bk1, bc1, bg1, H1, hc1⟩ := hS1
            have h1_o := H1.o
            have h1_p := H1.p
            have h1_u := H1.u
            have h1_k := H1.k
            have h1_h := s1.q
            refine ex_iload (pc := 124) dX6_link_124 rfl ?_
            refine ex_iload (pc := 126) dX6_link_126 rfl ?_
            have hE : i76 = linkE s.2.1 (ptL s.1 b.toNat - ptL s.1 a.toNat) := by unfold linkE; rw [if_pos c69]; rw [p76, p47, p55]
            refine ex_callVI (as := [_, _]) (pc := 128) dX6_link_128 (tX5_largestOf s1 (by omega)) lk_X6_145 ykX5_largestOf vkX5_largestOf h1_h rfl rfl rfl (Nat.le_of_ble_eq_true rfl) ⟨by decide, by decide⟩ ⟨Nat.le_refl _, Nat.le_refl _⟩ (fun i128 w2 r128 p128 => ?_)
            obtain ⟨e128, p128⟩ := p128
            rw [e128]
            rw [if_pos (by omega)] at p128
            rw [p128]
            refine ex_callSI (as := [_]) (pc := 131) dX6_link_131 (tJ6_bitCount_0f7a4 (lgS_lt _ _ _ _)) lk_X6_212 ykJ6_bitCount_0f7a4 zkJ6_bitCount_0f7a4 rfl rfl (Nat.le_of_ble_eq_true rfl) ⟨by decide, by decide⟩ ⟨Nat.le_refl _, Nat.le_refl _⟩ (fun i131 w2 r131 p131 => ?_)
            obtain ⟨e131, p131⟩ := p131
            rw [e131]
            exact ex_iret (pc := 134) dX6_link_134 ⟨by unfold opLink; rw [if_neg (by omega), if_neg (by omega), if_neg (by omega), if_neg q82_0, if_neg q82_1, if_pos q82_2, p131, hE, p28, p36], hS9, f1⟩ rfl (Nat.le_refl _)
          refine ex_tableOut (pc := 82) dX6_link_82 (by omega) (tgt := 135) (by decide) ?_
          refine ex_iconst (pc := 135) dX6_link_135 (by decide) ?_
          exact ex_iret (pc := 136) dX6_link_136 ⟨by unfold opLink; rw [if_neg (by omega), if_neg (by omega), if_neg (by omega), if_neg q82_0, if_neg q82_1, if_neg q82_2], hS0, fun _ _ => rfl⟩ rfl (Nat.le_refl _)
      · refine ex_iconst (pc := 21) dX6_link_21 (by decide) ?_
        exact ex_iret (pc := 22) dX6_link_22 ⟨by unfold opLink; rw [if_neg (by omega), if_neg (by omega), if_pos (by omega)], hS0, fun _ _ => rfl⟩ rfl (Nat.le_refl _)

