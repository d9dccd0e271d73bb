/-- a pile is emptied -/
theorem PiAt.clear {w w2 : xW} {b M : Nat} {S : List (List Int × Int)} (h : PiAt w b M S) (hM : 0 < M) (h0 : w2 b = xO 3 [xr (b + 1), xi 0]) (hf : ∀ z, z ≠ b → w2 z = w z) : PiAt w2 b M [] := by
  obtain ⟨ps, ⟨h1, h2, h3, h4, h5, h6⟩, -⟩ := h
  refine ⟨ps, ⟨h0, (hf _ (by omega)).trans h2, h3, h4, fun k hk => ?_, by show 0 ≤ M; omega⟩, fun i hi => absurd hi (Nat.not_lt_zero _)⟩
  obtain ⟨u1, u2, f, g1, g2⟩ := h5 k hk
  exact ⟨u1, u2, f, (hf _ (by omega)).trans g1, (hf _ (by omega)).trans g2⟩
theorem ClsC.undo0 {w w2 : xW} {cs : List Int} {mo : Int} {und kep : List (List Int × Int)} {tx : List Int} {wk bk bc bg : Int} (h : ClsC w cs mo und kep tx wk bk bc bg) (e : w2 = va_up w 7 (xO 3 [xr 8, xi 0])) : ClsC w2 cs mo [] kep tx wk bk bc bg := by
  subst e
  exact h.undo (h.U.clear (by decide) up_s (fun z hz => up_n hz)) (fun z hz => up_n (by omega))
theorem ClsC.kept0 {w w2 : xW} {cs : List Int} {mo : Int} {und kep : List (List Int × Int)} {tx : List Int} {wk bk bc bg : Int} (h : ClsC w cs mo und kep tx wk bk bc bg) (e : w2 = va_up w 25 (xO 3 [xr 26, xi 0])) : ClsC w2 cs mo und [] tx wk bk bc bg := by
  subst e
  exact h.kept (h.K.clear (by decide) up_s (fun z hz => up_n hz)) (fun z hz => up_n (by omega))
abbrev mX6_back : xC := mkC yX6_back cX6_back 1 (some .int) 3 300 0 0
set_option maxHeartbeats 4000000 in
set_option maxRecDepth 100000 in
theorem tX6_back {n : Nat} {w : xW} {s : St} (hS : ClsS w s) : Ctr mX6_back [xr 0] n w (pI (fun v w2 => v = (opBack s).1 ∧ ClsS w2 (opBack s).2 ∧ FrO w w2)) := by
  refine Ctr.of ykX6_back rfl (Nat.le_of_ble_eq_true rfl) okI (fun hin hW => ?_)
  have hS0 := hS
  obtain ⟨hv, wk, bk, bc, bg, H, hc⟩ := hS
  have hlen := H.P.len
  show Ex _ _ 0 0 n w 0 [some (xr 0)] []
  refine ex_aload_n (pc := 0) dX6_back_0 rfl ?_
  refine ex_getfield (pc := 1) dX6_back_1 fk_X6_35 H.o (by rfl) ?_
  refine ex_getfield (pc := 4) dX6_back_4 fk_X6_96 H.k (by rfl) ?_
  refine ex_if_ne (pc := 7) dX6_back_7 (tgt := 13) (by decide) (fun c7 => ?_) (fun c7 => ?_)
  · rcases last_cases s.2.2.2.1 with hu0 | ⟨t, x, hu⟩
    · exfalso; rw [hu0] at c7; exact c7 rfl
    obtain ⟨f, g1, g2⟩ := H.P.raw
    have hU := H.K
    rw [hu] at hU
    refine ex_aload_n (pc := 13) dX6_back_13 rfl ?_
    refine ex_getfield (pc := 14) dX6_back_14 fk_X6_35 H.o (by rfl) ?_
    refine ex_aload_n (pc := 17) dX6_back_17 rfl ?_
    refine ex_getfield (pc := 18) dX6_back_18 fk_X6_19 H.o (by rfl) ?_
    refine ex_callVV (as := [_]) (pc := 21) dX6_back_21 (tX3_popInto hU g1 g2 (by decide) (by decide) (by decide) (by decide)) lk_X6_135 ykX3_popInto vkX3_popInto H.k rfl rfl rfl (Nat.le_of_ble_eq_true rfl) ⟨by decide, by decide⟩ ⟨Nat.le_refl _, Nat.le_refl _⟩ (fun w1 p21 => ?_)
    obtain ⟨q1, q2, q3⟩ := p21
    have H1 : ClsC w1 x.1 x.2 s.2.2.1 t s.2.2.2.2 wk bk bc bg := ⟨(q3 _ (by decide) (by decide) (by decide)).trans H.o, H.S.imp (fun _ q => q.fr (q3 _ (by decide) (by decide) (by decide)) (q3 _ (by decide) (by decide) (by decide))), q2, H.T.fr (q3 _ (by decide) (by decide) (by decide)) (q3 _ (by decide) (by decide) (by decide)), H.U.fr (fun z z1 z2 => q3 z (by omega) (by omega) (by omega)) (by decide), q1, H.H.fr (fun z z1 _ => q3 z (by omega) (by omega) (by omega)), H.X.fr (fun z z1 _ => q3 z (by omega) (by omega) (by omega)), H.Y.fr (fun z z1 _ => q3 z (by omega) (by omega) (by omega)), H.V.fr (q3 _ (by decide) (by decide) (by decide)) (q3 _ (by decide) (by decide) (by decide))⟩
    have h1_o := H1.o
    have h1_p := H1.p
    have h1_u := H1.u
    have h1_k := H1.k
    refine ex_aload_n (pc := 24) dX6_back_24 rfl ?_
    refine ex_getfield (pc := 25) dX6_back_25 fk_X6_31 h1_o (by rfl) ?_
    refine ex_iconst (pc := 28) dX6_back_28 (by decide) ?_
    refine ex_putA (pc := 29) dX6_back_29 fk_X6_96 (ty := tyX3 1) (fun _ _ _ h9 => by cases h9; exact ⟨tyX3_ok 1 (by decide), rfl⟩) h1_u (Nat.le_of_ble_eq_true rfl) (fun _ => rfl) (fun _ => rfl) ?_
    refine ex_up (fun w2 e_w2 => ?_)
    have h2_o := ((congrFun e_w2 0).trans (up_n (by first | assumption | decide | omega))).trans h1_o
    have h2_p := ((congrFun e_w2 3).trans (up_n (by first | assumption | decide | omega))).trans h1_p
    have h2_u := (congrFun e_w2 7).trans up_s
    have h2_k := ((congrFun e_w2 25).trans (up_n (by first | assumption | decide | omega))).trans h1_k
    have H2 := H1.undo0 e_w2
    refine ex_aload_n (pc := 32) dX6_back_32 rfl ?_
    refine ex_callVV (as := []) (pc := 33) dX6_back_33 (tX6_forgetFindings H2) lk_X6_97 ykX6_forgetFindings vkX6_forgetFindings h2_o rfl rfl rfl (Nat.le_of_ble_eq_true rfl) ⟨by decide, by decide⟩ ⟨Nat.le_refl _, Nat.le_refl _⟩ (fun w3 p33 => ?_)
    obtain ⟨H3, f3⟩ := p33
    have h3_o := H3.o
    have h3_p := H3.p
    have h3_u := H3.u
    have h3_k := H3.k
    have hx : okP x := hv.2.2 x (by rw [hu]; exact List.mem_append_right _ (List.mem_singleton.mpr rfl))
    have hvn : Vld x.1 x.2 [] t := ⟨hx, fun y hy => absurd hy List.not_mem_nil, fun y hy => hv.2.2 y (by rw [hu]; exact List.mem_append_left _ hy)⟩
    have hop : opBack s = ((s.2.2.2.1.length : Int) - 1, (x.1, x.2, [], t, s.2.2.2.2)) := by unfold opBack; rw [hu, List.getLast?_append]; simp
    refine ex_aload_n (pc := 36) dX6_back_36 rfl ?_
    refine ex_getfield (pc := 37) dX6_back_37 fk_X6_35 h3_o (by rfl) ?_
    refine ex_getfield (pc := 40) dX6_back_40 fk_X6_96 h3_k (by rfl) ?_
    exact ex_iret (pc := 43) dX6_back_43 ⟨by rw [hop, hu, List.length_append]; show _ = ((t.length + 1 : Nat) : Int) - 1; omega, by rw [hop]; exact ClsS.mk hvn H3 Csh0, fun z hz => (f3 z hz).trans (((congrFun e_w2 z).trans (up_n (by omega))).trans (q3 z (by omega) (by omega) (by omega)))⟩ rfl (Nat.le_refl _)
  · refine ex_bipush (pc := 10) dX6_back_10 (by decide) ?_
    have hu0 : s.2.2.2.1 = [] := List.eq_nil_of_length_eq_zero (by omega)
    exact ex_iret (pc := 12) dX6_back_12 ⟨by unfold opBack; rw [hu0]; rfl, by unfold opBack; rw [hu0]; exact hS0, fun _ _ => rfl⟩ rfl (Nat.le_refl _)

abbrev mX6_write : xC := mkC yX6_write cX6_write 2 (some .int) 2 200 0 0
set_option maxHeartbeats 4000000 in
set_option maxRecDepth 100000 in
theorem tX4_appendA {n : Nat} {w : xW} {s l at_ : Nat} {tx : List Int} {t : Nat → Int} (h_s : w s = xO 4 [xr l, xi tx.length, xi at_]) (h_l : w l = xA 200 t) (ht : Lst t tx) (hlen : tx.length ≤ 200) {c : Int} : Ctr mX4_append [xr s, xi c] n w (pZ (fun v w2 => (tx.length < 200 → v = 1 ∧ w2 = va_up (va_up w l (xA 200 (va_up t tx.length c))) s (xO 4 [xr l, xi (tx.length + 1 : Nat), xi at_])) ∧ (¬ tx.length < 200 → v = 0 ∧ w2 = w))) := by
  refine Ctr.of ykX4_append rfl (Nat.le_of_ble_eq_true rfl) okZ (fun hin hW => ?_)
  have ne1 : l ≠ s := by rintro rfl; rw [h_l] at h_s; cases h_s
  have ne2 : s ≠ l := fun q => ne1 q.symm
  show Ex _ _ 0 0 n w 0 [some (xr s), some (xi c)] []
  refine ex_aload_n (pc := 0) dX4_append_0 rfl ?_
  refine ex_getfield (pc := 1) dX4_append_1 fk_X4_15 h_s (by rfl) ?_
  refine ex_sipush (pc := 4) dX4_append_4 (by decide) ?_
  refine ex_icmp_lt (pc := 7) dX4_append_7 (tgt := 12) (by decide) (fun c7 => ?_) (fun c7 => ?_)
  · refine ex_aload_n (pc := 12) dX4_append_12 rfl ?_
    refine ex_getfield (pc := 13) dX4_append_13 fk_X4_9 h_s (by rfl) ?_
    refine ex_aload_n (pc := 16) dX4_append_16 rfl ?_
    refine ex_getfield (pc := 17) dX4_append_17 fk_X4_15 h_s (by rfl) ?_
    refine ex_iload_n (pc := 20) dX4_append_20 rfl ?_
    refine ex_iastore (pc := 21) dX4_append_21 h_l (by omega) (by omega) ?_
    refine ex_up (fun w1 e_w1 => ?_)
    have h1_s := ((congrFun e_w1 s).trans (up_n (by first | assumption | decide | omega))).trans h_s
    have h1_l := (congrFun e_w1 l).trans up_s
    refine ex_aload_n (pc := 22) dX4_append_22 rfl ?_
    refine ex_dup (pc := 23) dX4_append_23 rfl ?_
    refine ex_getfield (pc := 24) dX4_append_24 fk_X4_15 h1_s (by rfl) ?_
    refine ex_iconst (pc := 27) dX4_append_27 (by decide) ?_
    refine ex_iadd (pc := 28) dX4_append_28 (by unfold inI; omega) ?_
    refine ex_putA (pc := 29) dX4_append_29 fk_X4_15 (ty := tyX4 1) (fun _ _ _ h9 => by cases h9; exact ⟨tyX4_ok 1 (by decide), rfl⟩) h1_s (Nat.le_of_ble_eq_true rfl) (fun _ => rfl) (fun _ => rfl) ?_
    refine ex_up (fun w2 e_w2 => ?_)
    have h2_s := (congrFun e_w2 s).trans up_s
    have h2_l := ((congrFun e_w2 l).trans (up_n (by first | assumption | decide | omega))).trans h1_l
    refine ex_iconst (pc := 32) dX4_append_32 (by decide) ?_
    exact ex_zret (pc := 33) dX4_append_33 ⟨Or.inr rfl, fun _ => ⟨rfl, by rw [e_w2, e_w1]; rfl⟩, fun q => by omega⟩ rfl (Nat.le_refl _)
  · refine ex_iconst (pc := 10) dX4_append_10 (by decide) ?_
    exact ex_zret (pc := 11) dX4_append_11 ⟨Or.inl rfl, fun q => by omega, fun _ => ⟨rfl, rfl⟩⟩ rfl (Nat.le_refl _)

set_option maxHeartbeats 4000000 in
set_option maxRecDepth 100000 in
theorem tX6_write {n : Nat} {w : xW} {s : St} (hS : ClsS w s) {c : Int} : Ctr mX6_write [xr 0, xi c] n w (pI (fun v w2 => v = (opWrite s c).1 ∧ ClsS w2 (opWrite s c).2 ∧ FrO w w2)) := by
  refine Ctr.of ykX6_write rfl (Nat.le_of_ble_eq_true rfl) okI (fun hin hW => ?_)
  have hS0 := hS
  obtain ⟨hv, wk, bk, bc, bg, H, hc⟩ := hS
  have hlen := H.P.len
  obtain ⟨at1, hs1⟩ := H.S
  obtain ⟨t0, g1, g2, g3, g4⟩ := id hs1
  show Ex _ _ 0 0 n w 0 [some (xr 0), some (xi c)] []
  refine ex_iload_n (pc := 0) dX6_write_0 rfl ?_
  refine ex_bipush (pc := 1) dX6_write_1 (by decide) ?_
  refine ex_icmp_lt (pc := 3) dX6_write_3 (tgt := 12) (by decide) (fun c3 => ?_) (fun c3 => ?_)
  · refine ex_iconst (pc := 12) dX6_write_12 (by decide) ?_
    exact ex_iret (pc := 13) dX6_write_13 ⟨by unfold opWrite; rw [if_pos (by omega)], by unfold opWrite; rw [if_pos (by omega)]; exact hS0, fun _ _ => rfl⟩ rfl (Nat.le_refl _)
  · refine ex_iload_n (pc := 6) dX6_write_6 rfl ?_
    refine ex_bipush (pc := 7) dX6_write_7 (by decide) ?_
    refine ex_icmp_le (pc := 9) dX6_write_9 (tgt := 14) (by decide) (fun c9 => ?_) (fun c9 => ?_)
    · refine ex_aload_n (pc := 14) dX6_write_14 rfl ?_
      refine ex_getfield (pc := 15) dX6_write_15 fk_X6_12 H.o (by rfl) ?_
      refine ex_iload_n (pc := 18) dX6_write_18 rfl ?_
      refine ex_callVZ (as := [_]) (pc := 19) dX6_write_19 (tX4_appendA g1 g2 g3 g4) lk_X6_77 ykX4_append vkX4_append g1 rfl rfl rfl (Nat.le_of_ble_eq_true rfl) ⟨by decide, by decide⟩ ⟨Nat.le_refl _, Nat.le_refl _⟩ (fun i19 w1 r19 p19 => ?_)
      by_cases hfull : s.2.2.2.2.length < 200
      · obtain ⟨q1, q2⟩ := p19.1 hfull
        have hL2 : ∃ a, ScAt w1 1 2 (s.2.2.2.2 ++ [c]) a := by
          refine ⟨at1, va_up t0 s.2.2.2.2.length c, by rw [q2, up_s, List.length_append]; rfl, by rw [q2, up_n (by decide), up_s], fun i hi => ?_, by rw [List.length_append]; show s.2.2.2.2.length + 1 ≤ 200; omega⟩
          rw [List.length_append] at hi
          by_cases y : i < s.2.2.2.2.length
          · rw [up_n (by omega), getD_ap1 y]; exact g3 i y
          · have y2 : i = s.2.2.2.2.length := by simp at hi; omega
            rw [y2, up_s, getD_ap2]
        have H1 := H.text hL2 (fun z z1 z2 => by rw [q2, up_n z1, up_n z2])
        obtain ⟨at2, hs2⟩ := H1.S
        refine ex_if_eq (pc := 22) dX6_write_22 (tgt := 35) (by decide) (fun c22 => by exfalso; omega) (fun c22 => ?_)
        refine ex_aload_n (pc := 25) dX6_write_25 rfl ?_
        refine ex_getfield (pc := 26) dX6_write_26 fk_X6_12 H1.o (by rfl) ?_
        refine ex_getfield (pc := 29) dX6_write_29 fk_X6_81 hs2.s (by rfl) ?_
        refine ex_goto (pc := 32) dX6_write_32 (tgt := 37) (by decide) ?_
        refine ex_iret (pc := 37) dX6_write_37 ⟨by unfold opWrite; rw [if_neg (by omega), if_pos hfull, List.length_append]; rfl, by unfold opWrite; rw [if_neg (by omega), if_pos hfull]; exact ClsS.mk hv H1 (hc.fr (fun z z1 z2 => by rw [q2, up_n (by omega), up_n (by omega)])), fun z hz => by rw [q2, up_n (by omega), up_n (by omega)]⟩ rfl (Nat.le_refl _)
      · obtain ⟨q1, q2⟩ := p19.2 hfull
        rw [q2]
        refine ex_if_eq (pc := 22) dX6_write_22 (tgt := 35) (by decide) (fun c22 => ?_) (fun c22 => by exfalso; omega)
        refine ex_bipush (pc := 35) dX6_write_35 (by decide) ?_
        exact ex_iret (pc := 37) dX6_write_37 ⟨by unfold opWrite; rw [if_neg (by omega), if_neg hfull], by unfold opWrite; rw [if_neg (by omega), if_neg hfull]; exact hS0, fun _ _ => rfl⟩ rfl (Nat.le_refl _)
    · refine ex_iconst (pc := 12) dX6_write_12 (by decide) ?_
      exact ex_iret (pc := 13) dX6_write_13 ⟨by unfold opWrite; rw [if_pos (by omega)], by unfold opWrite; rw [if_pos (by omega)]; exact hS0, fun _ _ => rfl⟩ rfl (Nat.le_refl _)

abbrev mX6_wipe : xC := mkC yX6_wipe cX6_wipe 2 (some .int) 1 100 0 0
set_option maxHeartbeats 4000000 in
set_option maxRecDepth 100000 in
theorem tX6_wipe {n : Nat} {w : xW} {s : St} (hS : ClsS w s) : Ctr mX6_wipe [xr 0] n w (pI (fun v w2 => v = (opWipe s).1 ∧ ClsS w2 (opWipe s).2 ∧ FrO w w2)) := by
  refine Ctr.of ykX6_wipe rfl (Nat.le_of_ble_eq_true rfl) okI (fun hin hW => ?_)
  have hS0 := hS
  obtain ⟨hv, wk, bk, bc, bg, H, hc⟩ := hS
  have hlen := H.P.len
  obtain ⟨at1, hs1⟩ := H.S
  obtain ⟨t0, g1, g2, g3, g4⟩ := id hs1
  show Ex _ _ 0 0 n w 0 [some (xr 0), none] []
  refine ex_aload_n (pc := 0) dX6_wipe_0 rfl ?_
  refine ex_getfield (pc := 1) dX6_wipe_1 fk_X6_12 H.o (by rfl) ?_
  refine ex_getfield (pc := 4) dX6_wipe_4 fk_X6_81 g1 (by rfl) ?_
  refine ex_istore_n (L2 := [_, _]) (pc := 7) dX6_wipe_7 rfl (Nat.le_of_ble_eq_true rfl) rfl ?_
  refine ex_aload_n (pc := 8) dX6_wipe_8 rfl ?_
  refine ex_getfield (pc := 9) dX6_wipe_9 fk_X6_12 H.o (by rfl) ?_
  refine ex_iconst (pc := 12) dX6_wipe_12 (by decide) ?_
  refine ex_putA (pc := 13) dX6_wipe_13 fk_X6_81 (ty := tyX4 1) (fun _ _ _ h9 => by cases h9; exact ⟨tyX4_ok 1 (by decide), rfl⟩) g1 (Nat.le_of_ble_eq_true rfl) (fun _ => rfl) (fun _ => rfl) ?_
  refine ex_up (fun w1 e_w1 => ?_)
  have h1_o := ((congrFun e_w1 0).trans (up_n (by first | assumption | decide | omega))).trans H.o
  have h1_s := (congrFun e_w1 1).trans up_s
  have h1_l := ((congrFun e_w1 2).trans (up_n (by first | assumption | decide | omega))).trans g2
  refine ex_iload_n (pc := 16) dX6_wipe_16 rfl ?_
  have hL2 : ∃ a, ScAt w1 1 2 [] a := ⟨at1, t0, h1_s, h1_l, fun i hi => absurd hi (Nat.not_lt_zero _), by decide⟩
  have H1 := H.text hL2 (fun z z1 z2 => (congrFun e_w1 z).trans (up_n z1))
  exact ex_iret (pc := 17) dX6_wipe_17 ⟨rfl, ClsS.mk hv H1 (hc.fr (fun z z1 z2 => (congrFun e_w1 z).trans (up_n (by omega)))), fun z hz => (congrFun e_w1 z).trans (up_n (by omega))⟩ rfl (Nat.le_refl _)

abbrev mX6_fault : xC := mkC yX6_fault cX6_fault 1 (some .int) 6 600 0 0
set_option maxHeartbeats 4000000 in
set_option maxRecDepth 100000 in
theorem tX6_fault {n : Nat} {w : xW} {s : St} (hS : ClsS w s) : Ctr mX6_fault [xr 0] n w (pI (fun v w2 => v = (opFault s).1 ∧ ClsS w2 (opFault s).2 ∧ FrO w w2)) := by
  refine Ctr.of ykX6_fault rfl (Nat.le_of_ble_eq_true rfl) okI (fun hin hW => ?_)
  have hS0 := hS
  obtain ⟨hv, wk, bk, bc, bg, H, hc⟩ := hS
  have hlen := H.P.len
  obtain ⟨at1, hs1⟩ := H.S
  obtain ⟨t0, g1, g2, g3, g4⟩ := id hs1
  obtain ⟨u1, u2, f0, k1, k2⟩ := H.T
  show Ex _ _ 0 0 n w 0 [some (xr 0)] []
  refine ex_aload_n (pc := 0) dX6_fault_0 rfl ?_
  refine ex_getfield (pc := 1) dX6_fault_1 fk_X6_12 H.o (by rfl) ?_
  refine ex_aload_n (pc := 4) dX6_fault_4 rfl ?_
  refine ex_getfield (pc := 5) dX6_fault_5 fk_X6_23 H.o (by rfl) ?_
  refine ex_callVI (as := [_]) (pc := 8) dX6_fault_8 ((tX4_readInto hs1 k1 k2 (by decide) (RS := rdA s) rfl)) lk_X6_85 ykX4_readInto vkX4_readInto g1 rfl rfl rfl (Nat.le_of_ble_eq_true rfl) ⟨by decide, by decide⟩ ⟨Nat.le_refl _, Nat.le_refl _⟩ (fun i8 w1 r8 p8 => ?_)
  obtain ⟨q1, q2, q3, q4, ⟨b9, q5⟩, q6⟩ := p8
  have H1 : ClsC w1 s.1 s.2.1 s.2.2.1 s.2.2.2.1 s.2.2.2.2 wk bk bc bg := ⟨(q6 _ (by decide) (by decide) (by decide)).trans H.o, ⟨b9, q5⟩, H.P.fr (q6 _ (by decide) (by decide) (by decide)) (q6 _ (by decide) (by decide) (by decide)), q2.Tr, H.U.fr (fun z z1 _ => q6 z (by omega) (by omega) (by omega)) (by decide), H.K.fr (fun z z1 _ => q6 z (by omega) (by omega) (by omega)) (by decide), H.H.fr (fun z z1 _ => q6 z (by omega) (by omega) (by omega)), H.X.fr (fun z z1 _ => q6 z (by omega) (by omega) (by omega)), H.Y.fr (fun z z1 _ => q6 z (by omega) (by omega) (by omega)), H.V.fr (q6 _ (by decide) (by decide) (by decide)) (q6 _ (by decide) (by decide) (by decide))⟩
  exact ex_iret (pc := 11) dX6_fault_11 ⟨q1, ClsS.mk hv H1 (hc.fr (fun z z1 z2 => q6 z (by omega) (by omega) (by omega))), fun z hz => q6 z (by omega) (by omega) (by omega)⟩ rfl (Nat.le_refl _)

abbrev mX6_lay : xC := mkC yX6_lay cX6_lay 1 (some .int) 6 600 0 0
set_option maxHeartbeats 4000000 in
set_option maxRecDepth 100000 in
theorem tX6_lay {n : Nat} {w : xW} {s : St} (hS : ClsS w s) : Ctr mX6_lay [xr 0] n w (pI (fun v w2 => v = (opLay s).1 ∧ ClsS w2 (opLay s).2 ∧ FrO w w2)) := by
  refine Ctr.of ykX6_lay rfl (Nat.le_of_ble_eq_true rfl) okI (fun hin hW => ?_)
  have hS0 := hS
  obtain ⟨hv, wk, bk, bc, bg, H, hc⟩ := hS
  have hlen := H.P.len
  obtain ⟨at1, hs1⟩ := H.S
  obtain ⟨t0, g1, g2, g3, g4⟩ := id hs1
  obtain ⟨u1, u2, f0, k1, k2⟩ := H.T
  show Ex _ _ 0 0 n w 0 [some (xr 0)] []
  refine ex_aload_n (pc := 0) dX6_lay_0 rfl ?_
  refine ex_getfield (pc := 1) dX6_lay_1 fk_X6_12 H.o (by rfl) ?_
  refine ex_aload_n (pc := 4) dX6_lay_4 rfl ?_
  refine ex_getfield (pc := 5) dX6_lay_5 fk_X6_23 H.o (by rfl) ?_
  refine ex_callVI (as := [_]) (pc := 8) dX6_lay_8 ((tX4_readInto hs1 k1 k2 (by decide) (RS := rdA s) rfl)) lk_X6_85 ykX4_readInto vkX4_readInto g1 rfl rfl rfl (Nat.le_of_ble_eq_true rfl) ⟨by decide, by decide⟩ ⟨Nat.le_refl _, Nat.le_refl _⟩ (fun i8 w1 r8 p8 => ?_)
  obtain ⟨q1, q2, q3, q4, ⟨b9, q5⟩, q6⟩ := p8
  have H1 : ClsC w1 s.1 s.2.1 s.2.2.1 s.2.2.2.1 s.2.2.2.2 wk bk bc bg := ⟨(q6 _ (by decide) (by decide) (by decide)).trans H.o, ⟨b9, q5⟩, H.P.fr (q6 _ (by decide) (by decide) (by decide)) (q6 _ (by decide) (by decide) (by decide)), q2.Tr, H.U.fr (fun z z1 _ => q6 z (by omega) (by omega) (by omega)) (by decide), H.K.fr (fun z z1 _ => q6 z (by omega) (by omega) (by omega)) (by decide), H.H.fr (fun z z1 _ => q6 z (by omega) (by omega) (by omega)), H.X.fr (fun z z1 _ => q6 z (by omega) (by omega) (by omega)), H.Y.fr (fun z z1 _ => q6 z (by omega) (by omega) (by omega)), H.V.fr (q6 _ (by decide) (by decide) (by decide)) (q6 _ (by decide) (by decide) (by decide))⟩
  have h1_o := H1.o
  have h1_p := H1.p
  have h1_u := H1.u
  have h1_k := H1.k
  have h1_t := q2.r
  have h1_s := q5.s
  refine ex_bipush (pc := 11) dX6_lay_11 (by decide) ?_
  refine ex_icmp_ne (pc := 13) dX6_lay_13 (tgt := 26) (by decide) (fun c13 => ?_) (fun c13 => ?_)
  · refine ex_bipush (pc := 26) dX6_lay_26 (by decide) ?_
    exact ex_iret (pc := 28) dX6_lay_28 ⟨by unfold opLay; rw [if_pos (Or.inl (by rw [← q1]; exact c13))], by unfold opLay; rw [if_pos (Or.inl (by rw [← q1]; exact c13))]; exact ClsS.mk hv H1 (hc.fr (fun z z1 z2 => q6 z (by omega) (by omega) (by omega))), fun z hz => q6 z (by omega) (by omega) (by omega)⟩ rfl (Nat.le_refl _)
  · refine ex_aload_n (pc := 16) dX6_lay_16 rfl ?_
    refine ex_getfield (pc := 17) dX6_lay_17 fk_X6_23 h1_o (by rfl) ?_
    refine ex_getfield (pc := 20) dX6_lay_20 fk_X6_89 h1_t (by rfl) ?_
    refine ex_if_ne (pc := 23) dX6_lay_23 (tgt := 29) (by decide) (fun c23 => ?_) (fun c23 => ?_)
    · refine ex_aload_n (pc := 29) dX6_lay_29 rfl ?_
      refine ex_getfield (pc := 30) dX6_lay_30 fk_X6_19 h1_o (by rfl) ?_
      refine ex_aload_n (pc := 33) dX6_lay_33 rfl ?_
      refine ex_getfield (pc := 34) dX6_lay_34 fk_X6_23 h1_o (by rfl) ?_
      obtain ⟨f9, j1, j2⟩ := H1.P.raw
      refine ex_callVV (as := [_]) (pc := 37) dX6_lay_37 (lX2_copyFrom j1 j2 q2 (by decide) (by decide)) lk_X6_92 ykX2_copyFrom vkX2_copyFrom h1_p rfl rfl rfl (Nat.le_of_ble_eq_true rfl) ⟨by decide, by decide⟩ ⟨Nat.le_refl _, Nat.le_refl _⟩ (fun w2 p37 => ?_)
      obtain ⟨q7, q8⟩ := p37
      have H2 := H1.piece q7 q8
      have h2_o := H2.o
      have h2_p := H2.p
      have h2_u := H2.u
      have h2_k := H2.k
      have h2_t := (q8 5 (by decide) (by decide)).trans h1_t
      have h2_s := (q8 1 (by decide) (by decide)).trans h1_s
      refine ex_aload_n (pc := 40) dX6_lay_40 rfl ?_
      refine ex_getfield (pc := 41) dX6_lay_41 fk_X6_31 h2_o (by rfl) ?_
      refine ex_iconst (pc := 44) dX6_lay_44 (by decide) ?_
      refine ex_putA (pc := 45) dX6_lay_45 fk_X6_96 (ty := tyX3 1) (fun _ _ _ h9 => by cases h9; exact ⟨tyX3_ok 1 (by decide), rfl⟩) h2_u (Nat.le_of_ble_eq_true rfl) (fun _ => rfl) (fun _ => rfl) ?_
      refine ex_up (fun w3 e_w3 => ?_)
      have h3_o := ((congrFun e_w3 0).trans (up_n (by first | assumption | decide | omega))).trans h2_o
      have h3_p := ((congrFun e_w3 3).trans (up_n (by first | assumption | decide | omega))).trans h2_p
      have h3_u := (congrFun e_w3 7).trans up_s
      have h3_k := ((congrFun e_w3 25).trans (up_n (by first | assumption | decide | omega))).trans h2_k
      have h3_s := ((congrFun e_w3 1).trans (up_n (by first | assumption | decide | omega))).trans h2_s
      have h3_t := ((congrFun e_w3 5).trans (up_n (by first | assumption | decide | omega))).trans h2_t
      have H3 := H2.undo0 e_w3
      refine ex_aload_n (pc := 48) dX6_lay_48 rfl ?_
      refine ex_getfield (pc := 49) dX6_lay_49 fk_X6_35 h3_o (by rfl) ?_
      refine ex_iconst (pc := 52) dX6_lay_52 (by decide) ?_
      refine ex_putA (pc := 53) dX6_lay_53 fk_X6_96 (ty := tyX3 1) (fun _ _ _ h9 => by cases h9; exact ⟨tyX3_ok 1 (by decide), rfl⟩) h3_k (Nat.le_of_ble_eq_true rfl) (fun _ => rfl) (fun _ => rfl) ?_
      refine ex_up (fun w4 e_w4 => ?_)
      have h4_o := ((congrFun e_w4 0).trans (up_n (by first | assumption | decide | omega))).trans h3_o
      have h4_p := ((congrFun e_w4 3).trans (up_n (by first | assumption | decide | omega))).trans h3_p
      have h4_u := ((congrFun e_w4 7).trans (up_n (by first | assumption | decide | omega))).trans h3_u
      have h4_k := (congrFun e_w4 25).trans up_s
      have h4_s := ((congrFun e_w4 1).trans (up_n (by first | assumption | decide | omega))).trans h3_s
      have h4_t := ((congrFun e_w4 5).trans (up_n (by first | assumption | decide | omega))).trans h3_t
      have H4 := H3.kept0 e_w4
      refine ex_aload_n (pc := 56) dX6_lay_56 rfl ?_
      refine ex_callVV (as := []) (pc := 57) dX6_lay_57 (tX6_forgetFindings H4) lk_X6_97 ykX6_forgetFindings vkX6_forgetFindings h4_o rfl rfl rfl (Nat.le_of_ble_eq_true rfl) ⟨by decide, by decide⟩ ⟨Nat.le_refl _, Nat.le_refl _⟩ (fun w5 p57 => ?_)
      obtain ⟨H5, f5⟩ := p57
      have h5_o := H5.o
      have h5_p := H5.p
      have h5_u := H5.u
      have h5_k := H5.k
      have h5_t := h4_t
      have h5_s := h4_s
      have hok : okP ((rdA s).2.1, (rdA s).2.2) := ⟨q3, by show 1 ≤ (rdA s).2.1.length; omega, q2.len, q4⟩
      have hvn : Vld (rdA s).2.1 (rdA s).2.2 [] [] := ⟨hok, fun y hy => absurd hy List.not_mem_nil, fun y hy => absurd hy List.not_mem_nil⟩
      refine ex_aload_n (pc := 60) dX6_lay_60 rfl ?_
      refine ex_getfield (pc := 61) dX6_lay_61 fk_X6_19 h5_o (by rfl) ?_
      refine ex_getfield (pc := 64) dX6_lay_64 fk_X6_89 h5_p (by rfl) ?_
      have hcond : ¬ ((rdA s).1 ≠ -4 ∨ (rdA s).2.1.length = 0) := by rw [← q1]; omega
      exact ex_iret (pc := 67) dX6_lay_67 ⟨by unfold opLay; rw [if_neg hcond], by unfold opLay; rw [if_neg hcond]; exact ClsS.mk hvn H5 Csh0, fun z hz => (f5 z hz).trans (by rw [e_w4, up_n (by omega), e_w3, up_n (by omega)]; exact (q8 z (by omega) (by omega)).trans (q6 z (by omega) (by omega) (by omega)))⟩ rfl (Nat.le_refl _)
    · refine ex_bipush (pc := 26) dX6_lay_26 (by decide) ?_
      exact ex_iret (pc := 28) dX6_lay_28 ⟨by unfold opLay; rw [if_pos (Or.inr (by omega))], by unfold opLay; rw [if_pos (Or.inr (by omega))]; exact ClsS.mk hv H1 (hc.fr (fun z z1 z2 => q6 z (by omega) (by omega) (by omega))), fun z hz => q6 z (by omega) (by omega) (by omega)⟩ rfl (Nat.le_refl _)

