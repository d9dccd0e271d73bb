theorem Lst_snoc {t : Nat → Int} {tx : List Int} {c : Int} (h : Lst t tx) : Lst (va_up t ((tx.length : Int)).toNat c) (tx ++ [c]) := by
  intro i hi
  have e : ((tx.length : Int)).toNat = tx.length := by omega
  rw [List.length_append] at hi
  simp only [List.length_singleton] at hi
  rw [e]
  by_cases z : i = tx.length
  · subst z; rw [up_s]; simp [List.getD]
  · rw [up_n z, h i (by omega)]
    simp [List.getD, List.getElem?_append_left (show i < tx.length by omega)]
theorem Scr.rd {w w2 : xW} (h : Scr w) (h7 : AX w2 57 30) (hf : ∀ z, z ≠ 55 → z ≠ 57 → w2 z = w z) : Scr w2 := by
  obtain ⟨h1, h2, h3, h4, h5, h6, h7, h8⟩ := h
  exact ⟨by assumption, h2.fr (hf _ (by decide) (by decide)), h3.fr (hf _ (by decide) (by decide)), h4.fr (hf _ (by decide) (by decide)), h5.fr (hf _ (by decide) (by decide)), h6.fr (hf _ (by decide) (by decide)), h7.fr (hf _ (by decide) (by decide)), h8.fr (hf _ (by decide) (by decide))⟩
theorem RefS.mk {w w2 : xW} {cs : List Int} {mo : Int} {und kep : List (List Int × Int)} {tx : List Int} (hs : Scr w2) (hf : FrR w w2) (hv : Vld cs mo und kep) {pl mn pq cv sh be bg bc bp pa re px : Int} (h0 : w2 55 = rO und.length kep.length tx.length pl mn pq cv sh be bg bc bp pa re px) {f g k t : Nat → Int} (h1 : w2 56 = xA 30 f) (hR : RowL f 0 cs mo) (h4 : w2 59 = xA 240 g) (hU : RowsL g und) (hu : und.length ≤ 8) (h5 : w2 60 = xA 60 k) (hK : RowsL k kep) (hk : kep.length ≤ 2) (h6 : w2 61 = xA 200 t) (ht : Lst t tx) (hl : tx.length ≤ 200) : RefS w2 (cs, mo, und, kep, tx) ∧ FrR w w2 :=
  ⟨⟨hv, hs, ⟨_, _, _, _, _, _, _, _, _, _, _, _, h0⟩, ⟨f, h1, hR⟩, ⟨g, h4, hU⟩, hu, ⟨k, h5, hK⟩, hk, ⟨t, h6, ht⟩, hl⟩, hf⟩
theorem rows_nil {g : Nat → Int} : RowsL g [] := fun i x hx => by simp at hx
theorem rows_drop {g : Nat → Int} {L : List (List Int × Int)} (h : RowsL g L) : RowsL g L.dropLast := by
  intro i x hx
  rw [List.getElem?_dropLast] at hx
  split at hx
  · exact h i x hx
  · cases hx
theorem row_of {f g : Nat → Int} {o : Nat} {cs : List Int} {mo : Int} (h : RowL g o cs mo) (hl : cs.length ≤ 14) : RowL (fun q => if 0 ≤ q ∧ q < 0 + 30 then g (o + (q - 0)) else f q) 0 cs mo := by
  refine h.congr hl (fun i hi => ?_)
  show (if _ then _ else _) = _
  rw [if_pos (by omega), Nat.zero_add, Nat.sub_zero]
theorem mem_dropL {L : List (List Int × Int)} {x : List Int × Int} (h : x ∈ L.dropLast) : x ∈ L := by
  rw [List.dropLast_eq_take] at h
  exact List.mem_of_mem_take h
theorem getLast_at {L : List (List Int × Int)} {x : List Int × Int} (h : L.getLast? = some x) : L[L.length - 1]? = some x := by rw [← List.getLast?_eq_getElem?]; exact h
abbrev mX7_write : xC := mkC yX7_write cX7_write 2 (some .int) 2 200 0 0
set_option maxHeartbeats 4000000 in
set_option maxRecDepth 100000 in
theorem tX7_write {n : Nat} {w : xW} {s : St} (hS : RefS w s) {c : Int} : Ctr mX7_write [xr 55, xi c] n w (pI (fun v w2 => v = (opWrite s c).1 ∧ RefS w2 (opWrite s c).2 ∧ FrR w w2)) := by
  refine Ctr.of ykX7_write rfl (Nat.le_of_ble_eq_true rfl) okI (fun hin hW => ?_)
  have hS0 := hS
  obtain ⟨hv, hsc, ⟨pl, mn, pq, cv, sh, be, bg, bc, bp, pa, re, px, h_o⟩, ⟨f, h_n, hR⟩, ⟨g, h_p, hU⟩, hu8, ⟨kf, h_k, hK⟩, hk2, ⟨t, h_t, ht⟩, hlen⟩ := hS
  have hl : s.1.length ≤ 14 := hv.1.2.2.1
  have hl1 : 1 ≤ s.1.length := hv.1.2.1
  have hcd : Cod s.1 := hv.1.1
  show Ex _ _ 0 0 n w 0 [some (xr 55), some (xi c)] []
  refine ex_iload_n (pc := 0) dX7_write_0 rfl ?_
  refine ex_bipush (pc := 1) dX7_write_1 (by decide) ?_
  refine ex_bipush (pc := 3) dX7_write_3 (by decide) ?_
  refine ex_callSZ (as := [_, _, _]) (pc := 5) dX7_write_5 (tX7_in) lk_X7_68 ykX7_in zkX7_in rfl rfl (Nat.le_of_ble_eq_true rfl) ⟨by decide, by decide⟩ ⟨Nat.le_refl _, Nat.le_refl _⟩ (fun i5 w1 r5 p5 => ?_)
  obtain ⟨e5, p5⟩ := p5
  rw [e5]
  refine ex_if_ne (pc := 8) dX7_write_8 (tgt := 13) (by decide) (fun c8 => ?_) (fun c8 => ?_)
  · refine ex_aload_n (pc := 13) dX7_write_13 rfl ?_
    refine ex_getfield (pc := 14) dX7_write_14 fk_X7_61 h_o (by rfl) ?_
    refine ex_sipush (pc := 17) dX7_write_17 (by decide) ?_
    refine ex_icmp_ne (pc := 20) dX7_write_20 (tgt := 26) (by decide) (fun c20 => ?_) (fun c20 => ?_)
    · refine ex_aload_n (pc := 26) dX7_write_26 rfl ?_
      refine ex_getfield (pc := 27) dX7_write_27 fk_X7_25 h_o (by rfl) ?_
      refine ex_aload_n (pc := 30) dX7_write_30 rfl ?_
      refine ex_getfield (pc := 31) dX7_write_31 fk_X7_61 h_o (by rfl) ?_
      refine ex_iload_n (pc := 34) dX7_write_34 rfl ?_
      refine ex_iastore (pc := 35) dX7_write_35 h_t (by omega) (by omega) ?_
      refine ex_up (fun w1 e_w1 => ?_)
      have h1_o := ((congrFun e_w1 55).trans (up_n (by first | assumption | decide | omega))).trans h_o
      have h1_n := ((congrFun e_w1 56).trans (up_n (by first | assumption | decide | omega))).trans h_n
      have h1_p := ((congrFun e_w1 59).trans (up_n (by first | assumption | decide | omega))).trans h_p
      have h1_k := ((congrFun e_w1 60).trans (up_n (by first | assumption | decide | omega))).trans h_k
      have h1_t := (congrFun e_w1 61).trans up_s
      refine ex_aload_n (pc := 36) dX7_write_36 rfl ?_
      refine ex_dup (pc := 37) dX7_write_37 rfl ?_
      refine ex_getfield (pc := 38) dX7_write_38 fk_X7_61 h1_o (by rfl) ?_
      refine ex_iconst (pc := 41) dX7_write_41 (by decide) ?_
      refine ex_iadd (pc := 42) dX7_write_42 (by unfold inI; omega) ?_
      refine ex_putA (pc := 43) dX7_write_43 fk_X7_61 (ty := tyX7 8) (fun _ _ _ h9 => by cases h9; exact ⟨tyX7_ok 8 (by decide), rfl⟩) h1_o (Nat.le_of_ble_eq_true rfl) (fun _ => rfl) (fun _ => rfl) ?_
      refine ex_up (fun w2 e_w2 => ?_)
      have h2_o := (congrFun e_w2 55).trans up_s
      have h2_n := ((congrFun e_w2 56).trans (up_n (by first | assumption | decide | omega))).trans h1_n
      have h2_p := ((congrFun e_w2 59).trans (up_n (by first | assumption | decide | omega))).trans h1_p
      have h2_k := ((congrFun e_w2 60).trans (up_n (by first | assumption | decide | omega))).trans h1_k
      have h2_t := ((congrFun e_w2 61).trans (up_n (by first | assumption | decide | omega))).trans h1_t
      refine ex_aload_n (pc := 46) dX7_write_46 rfl ?_
      refine ex_getfield (pc := 47) dX7_write_47 fk_X7_61 h2_o (by rfl) ?_
      exact ex_iret (pc := 50) dX7_write_50 (by unfold opWrite; rw [if_neg (by omega), if_pos (by omega)]; exact ⟨rfl, RefS.fin hsc (fun z z1 z2 z3 z4 z5 => by simp only [e_w2, e_w1, up_n z1, up_n z2, up_n z3, up_n z4, up_n z5]) hv (by rw [List.length_append]; exact h2_o) h2_n (hR) h2_p (hU) (hu8) h2_k (hK) (hk2) h2_t (Lst_snoc ht) (by rw [List.length_append]; simp only [List.length_singleton]; omega)⟩) rfl (Nat.le_refl _)
    · refine ex_bipush (pc := 23) dX7_write_23 (by decide) ?_
      exact ex_iret (pc := 25) dX7_write_25 ⟨by unfold opWrite; rw [if_neg (by omega), if_neg (by omega)], by unfold opWrite; rw [if_neg (by omega), if_neg (by omega)]; exact hS0, fun _ _ => rfl⟩ rfl (Nat.le_refl _)
  · refine ex_iconst (pc := 11) dX7_write_11 (by decide) ?_
    exact ex_iret (pc := 12) dX7_write_12 ⟨by unfold opWrite; rw [if_pos (by omega)], by unfold opWrite; rw [if_pos (by omega)]; exact hS0, fun _ _ => rfl⟩ rfl (Nat.le_refl _)

abbrev mX7_wipe : xC := mkC yX7_wipe cX7_wipe 2 (some .int) 1 100 0 0
set_option maxHeartbeats 4000000 in
set_option maxRecDepth 100000 in
theorem tX7_wipe {n : Nat} {w : xW} {s : St} (hS : RefS w s) : Ctr mX7_wipe [xr 55] n w (pI (fun v w2 => v = (opWipe s).1 ∧ RefS w2 (opWipe s).2 ∧ FrR w w2)) := by
  refine Ctr.of ykX7_wipe rfl (Nat.le_of_ble_eq_true rfl) okI (fun hin hW => ?_)
  have hS0 := hS
  obtain ⟨hv, hsc, ⟨pl, mn, pq, cv, sh, be, bg, bc, bp, pa, re, px, h_o⟩, ⟨f, h_n, hR⟩, ⟨g, h_p, hU⟩, hu8, ⟨kf, h_k, hK⟩, hk2, ⟨t, h_t, ht⟩, hlen⟩ := hS
  have hl : s.1.length ≤ 14 := hv.1.2.2.1
  have hl1 : 1 ≤ s.1.length := hv.1.2.1
  have hcd : Cod s.1 := hv.1.1
  show Ex _ _ 0 0 n w 0 [some (xr 55), none] []
  refine ex_aload_n (pc := 0) dX7_wipe_0 rfl ?_
  refine ex_getfield (pc := 1) dX7_wipe_1 fk_X7_61 h_o (by rfl) ?_
  refine ex_istore_n (L2 := [_, _]) (pc := 4) dX7_wipe_4 rfl (Nat.le_of_ble_eq_true rfl) rfl ?_
  refine ex_aload_n (pc := 5) dX7_wipe_5 rfl ?_
  refine ex_iconst (pc := 6) dX7_wipe_6 (by decide) ?_
  refine ex_putA (pc := 7) dX7_wipe_7 fk_X7_61 (ty := tyX7 8) (fun _ _ _ h9 => by cases h9; exact ⟨tyX7_ok 8 (by decide), rfl⟩) h_o (Nat.le_of_ble_eq_true rfl) (fun _ => rfl) (fun _ => rfl) ?_
  refine ex_up (fun w1 e_w1 => ?_)
  have h1_o := (congrFun e_w1 55).trans up_s
  have h1_n := ((congrFun e_w1 56).trans (up_n (by first | assumption | decide | omega))).trans h_n
  have h1_p := ((congrFun e_w1 59).trans (up_n (by first | assumption | decide | omega))).trans h_p
  have h1_k := ((congrFun e_w1 60).trans (up_n (by first | assumption | decide | omega))).trans h_k
  have h1_t := ((congrFun e_w1 61).trans (up_n (by first | assumption | decide | omega))).trans h_t
  refine ex_iload_n (pc := 10) dX7_wipe_10 rfl ?_
  exact ex_iret (pc := 11) dX7_wipe_11 ⟨rfl, RefS.fin hsc (fun z z1 z2 z3 z4 z5 => by simp only [e_w1, up_n z1, up_n z2, up_n z3, up_n z4, up_n z5]) hv h1_o h1_n (hR) h1_p (hU) (hu8) h1_k (hK) (hk2) h1_t (fun i hi => absurd hi (Nat.not_lt_zero _)) (by decide)⟩ rfl (Nat.le_refl _)

abbrev mX7_fault : xC := mkC yX7_fault cX7_fault 1 (some .int) 5 500 0 0
set_option maxHeartbeats 4000000 in
set_option maxRecDepth 100000 in
theorem tX7_fault {n : Nat} {w : xW} {s : St} (hS : RefS w s) : Ctr mX7_fault [xr 55] n w (pI (fun v w2 => v = (opFault s).1 ∧ RefS w2 (opFault s).2 ∧ FrR w w2)) := by
  refine Ctr.of ykX7_fault rfl (Nat.le_of_ble_eq_true rfl) okI (fun hin hW => ?_)
  have hS0 := hS
  obtain ⟨hv, hsc, ⟨pl, mn, pq, cv, sh, be, bg, bc, bp, pa, re, px, h_o⟩, ⟨f, h_n, hR⟩, ⟨g, h_p, hU⟩, hu8, ⟨kf, h_k, hK⟩, hk2, ⟨t, h_t, ht⟩, hlen⟩ := hS
  have hl : s.1.length ≤ 14 := hv.1.2.2.1
  have hl1 : 1 ≤ s.1.length := hv.1.2.1
  have hcd : Cod s.1 := hv.1.1
  have hsc0 := hsc
  obtain ⟨⟨fr9, h_r⟩, -⟩ := hsc0
  show Ex _ _ 0 0 n w 0 [some (xr 55)] []
  refine ex_aload_n (pc := 0) dX7_fault_0 rfl ?_
  refine ex_callVI (as := []) (pc := 1) dX7_fault_1 (tX7_reading h_o h_t ht hlen h_r (RS := rdA s) rfl) lk_X7_83 ykX7_reading vkX7_reading h_o rfl rfl rfl (Nat.le_of_ble_eq_true rfl) ⟨by decide, by decide⟩ ⟨Nat.le_refl _, Nat.le_refl _⟩ (fun i1 w1 r1 p1 => ?_)
  obtain ⟨ev, hRc, hRm, hRl, ⟨b, h1_o⟩, hfA, f2, h1_r, hRR⟩ := p1
  have h1_n := (hfA 56 (by decide) (by decide)).trans h_n
  have h1_p := (hfA 59 (by decide) (by decide)).trans h_p
  have h1_k := (hfA 60 (by decide) (by decide)).trans h_k
  have h1_t := (hfA 61 (by decide) (by decide)).trans h_t
  exact ex_iret (pc := 4) dX7_fault_4 ⟨ev, RefS.mk (hsc.rd ⟨f2, h1_r⟩ hfA) (fun z hz => hfA z (by omega) (by omega)) hv h1_o h1_n hR h1_p hU hu8 h1_k hK hk2 h1_t ht hlen⟩ rfl (Nat.le_refl _)

abbrev mX7_lay : xC := mkC yX7_lay cX7_lay 1 (some .int) 5 500 0 0
set_option maxHeartbeats 4000000 in
set_option maxRecDepth 100000 in
theorem tX7_lay {n : Nat} {w : xW} {s : St} (hS : RefS w s) : Ctr mX7_lay [xr 55] n w (pI (fun v w2 => v = (opLay s).1 ∧ RefS w2 (opLay s).2 ∧ FrR w w2)) := by
  refine Ctr.of ykX7_lay rfl (Nat.le_of_ble_eq_true rfl) okI (fun hin hW => ?_)
  have hS0 := hS
  obtain ⟨hv, hsc, ⟨pl, mn, pq, cv, sh, be, bg, bc, bp, pa, re, px, h_o⟩, ⟨f, h_n, hR⟩, ⟨g, h_p, hU⟩, hu8, ⟨kf, h_k, hK⟩, hk2, ⟨t, h_t, ht⟩, hlen⟩ := hS
  have hl : s.1.length ≤ 14 := hv.1.2.2.1
  have hl1 : 1 ≤ s.1.length := hv.1.2.1
  have hcd : Cod s.1 := hv.1.1
  have hsc0 := hsc
  obtain ⟨⟨fr9, h_r⟩, -⟩ := hsc0
  show Ex _ _ 0 0 n w 0 [some (xr 55)] []
  refine ex_aload_n (pc := 0) dX7_lay_0 rfl ?_
  refine ex_callVI (as := []) (pc := 1) dX7_lay_1 (tX7_reading h_o h_t ht hlen h_r (RS := rdA s) rfl) lk_X7_83 ykX7_reading vkX7_reading h_o rfl rfl rfl (Nat.le_of_ble_eq_true rfl) ⟨by decide, by decide⟩ ⟨Nat.le_refl _, Nat.le_refl _⟩ (fun i1 w1 r1 p1 => ?_)
  obtain ⟨ev, hRc, hRm, hRl, ⟨b, h1_o⟩, hfA, f2, h1_r, hRR⟩ := p1
  have h1_n := (hfA 56 (by decide) (by decide)).trans h_n
  have h1_p := (hfA 59 (by decide) (by decide)).trans h_p
  have h1_k := (hfA 60 (by decide) (by decide)).trans h_k
  have h1_t := (hfA 61 (by decide) (by decide)).trans h_t
  refine ex_bipush (pc := 4) dX7_lay_4 (by decide) ?_
  refine ex_icmp_ne (pc := 6) dX7_lay_6 (tgt := 18) (by decide) (fun c6 => ?_) (fun c6 => ?_)
  · refine ex_bipush (pc := 18) dX7_lay_18 (by decide) ?_
    exact ex_iret (pc := 20) dX7_lay_20 ⟨by unfold opLay; rw [if_pos (Or.inl (by rw [← ev]; exact c6))], by unfold opLay; rw [if_pos (Or.inl (by rw [← ev]; exact c6))]; exact (RefS.mk (hsc.rd ⟨f2, h1_r⟩ hfA) (fun z hz => hfA z (by omega) (by omega)) hv h1_o h1_n hR h1_p hU hu8 h1_k hK hk2 h1_t ht hlen).1, (fun z hz => hfA z (by omega) (by omega))⟩ rfl (Nat.le_refl _)
  · have hR4 := hRR (by omega)
    refine ex_aload_n (pc := 9) dX7_lay_9 rfl ?_
    refine ex_getfield (pc := 10) dX7_lay_10 fk_X7_13 h1_o (by rfl) ?_
    refine ex_iconst (pc := 13) dX7_lay_13 (by decide) ?_
    refine ex_iaload (pc := 14) dX7_lay_14 h1_r (by omega) (by omega) ?_
    have hz0 : f2 (0 : Int).toNat = ((rdA s).2.1.length : Int) := hR4.1
    rw [hz0]
    refine ex_if_ne (pc := 15) dX7_lay_15 (tgt := 21) (by decide) (fun c15 => ?_) (fun c15 => ?_)
    · refine ex_aload_n (pc := 21) dX7_lay_21 rfl ?_
      refine ex_getfield (pc := 22) dX7_lay_22 fk_X7_13 h1_o (by rfl) ?_
      refine ex_iconst (pc := 25) dX7_lay_25 (by decide) ?_
      refine ex_aload_n (pc := 26) dX7_lay_26 rfl ?_
      refine ex_getfield (pc := 27) dX7_lay_27 fk_X7_7 h1_o (by rfl) ?_
      refine ex_iconst (pc := 30) dX7_lay_30 (by decide) ?_
      refine ex_callSV (as := [_, _, _, _]) (pc := 31) dX7_lay_31 (tX7_copies (x := 0) (y := 0) h1_r h1_n (by decide) (by omega) (by omega) (by omega) (by omega)) lk_X7_49 ykX7_copies zkX7_copies rfl rfl (Nat.le_of_ble_eq_true rfl) ⟨by decide, by decide⟩ ⟨Nat.le_refl _, Nat.le_refl _⟩ (fun w2 p31 => ?_)
      have h2_o := ((congrFun p31 55).trans (up_n (by decide))).trans h1_o
      have h2_n := (congrFun p31 56).trans up_s
      have h2_p := ((congrFun p31 59).trans (up_n (by decide))).trans h1_p
      have h2_k := ((congrFun p31 60).trans (up_n (by decide))).trans h1_k
      have h2_t := ((congrFun p31 61).trans (up_n (by decide))).trans h1_t
      have h2_r := ((congrFun p31 57).trans (up_n (by decide))).trans h1_r
      refine ex_aload_n (pc := 34) dX7_lay_34 rfl ?_
      refine ex_iconst (pc := 35) dX7_lay_35 (by decide) ?_
      refine ex_putA (pc := 36) dX7_lay_36 fk_X7_86 (ty := tyX7 4) (fun _ _ _ h9 => by cases h9; exact ⟨tyX7_ok 4 (by decide), rfl⟩) h2_o (Nat.le_of_ble_eq_true rfl) (fun _ => rfl) (fun _ => rfl) ?_
      refine ex_up (fun w3 e_w3 => ?_)
      have h3_o := (congrFun e_w3 55).trans up_s
      have h3_n := ((congrFun e_w3 56).trans (up_n (by first | assumption | decide | omega))).trans h2_n
      have h3_p := ((congrFun e_w3 59).trans (up_n (by first | assumption | decide | omega))).trans h2_p
      have h3_k := ((congrFun e_w3 60).trans (up_n (by first | assumption | decide | omega))).trans h2_k
      have h3_t := ((congrFun e_w3 61).trans (up_n (by first | assumption | decide | omega))).trans h2_t
      have h3_r := ((congrFun e_w3 57).trans (up_n (by first | assumption | decide | omega))).trans h2_r
      refine ex_aload_n (pc := 39) dX7_lay_39 rfl ?_
      refine ex_iconst (pc := 40) dX7_lay_40 (by decide) ?_
      refine ex_putA (pc := 41) dX7_lay_41 fk_X7_89 (ty := tyX7 6) (fun _ _ _ h9 => by cases h9; exact ⟨tyX7_ok 6 (by decide), rfl⟩) h3_o (Nat.le_of_ble_eq_true rfl) (fun _ => rfl) (fun _ => rfl) ?_
      refine ex_up (fun w4 e_w4 => ?_)
      have h4_o := (congrFun e_w4 55).trans up_s
      have h4_n := ((congrFun e_w4 56).trans (up_n (by first | assumption | decide | omega))).trans h3_n
      have h4_p := ((congrFun e_w4 59).trans (up_n (by first | assumption | decide | omega))).trans h3_p
      have h4_k := ((congrFun e_w4 60).trans (up_n (by first | assumption | decide | omega))).trans h3_k
      have h4_t := ((congrFun e_w4 61).trans (up_n (by first | assumption | decide | omega))).trans h3_t
      have h4_r := ((congrFun e_w4 57).trans (up_n (by first | assumption | decide | omega))).trans h3_r
      refine ex_aload_n (pc := 44) dX7_lay_44 rfl ?_
      refine ex_getfield (pc := 45) dX7_lay_45 fk_X7_7 h4_o (by rfl) ?_
      refine ex_iconst (pc := 48) dX7_lay_48 (by decide) ?_
      refine ex_iaload (pc := 49) dX7_lay_49 h4_n (by omega) (by omega) ?_
      have hop : opLay s = (((rdA s).2.1.length : Int), ((rdA s).2.1, (rdA s).2.2, [], [], s.2.2.2.2)) := by unfold opLay; exact if_neg (by omega)
      exact ex_iret (pc := 50) dX7_lay_50 (by rw [hop]; exact ⟨(row_of (f := f) hR4 hRl).1, RefS.mk (Scr.fr (hsc.rd ⟨f2, h1_r⟩ hfA) (fun z z1 z2 z3 z4 z5 => by simp only [e_w4, e_w3, p31, up_n z1, up_n z2])) (fun z hz => by simp only [e_w4, e_w3, p31, up_n (show z ≠ 55 by omega), up_n (show z ≠ 56 by omega)]; exact hfA z (by omega) (by omega)) ⟨⟨hRc, (by show 1 ≤ (rdA s).2.1.length; omega), hRl, hRm⟩, fun x hx => by simp at hx, fun x hx => by simp at hx⟩ h4_o h4_n (row_of hR4 hRl) h4_p rows_nil (by decide) h4_k rows_nil (by decide) h4_t ht hlen⟩) rfl (Nat.le_refl _)
    · refine ex_bipush (pc := 18) dX7_lay_18 (by decide) ?_
      exact ex_iret (pc := 20) dX7_lay_20 ⟨by unfold opLay; rw [if_pos (Or.inr (by omega))], by unfold opLay; rw [if_pos (Or.inr (by omega))]; exact (RefS.mk (hsc.rd ⟨f2, h1_r⟩ hfA) (fun z hz => hfA z (by omega) (by omega)) hv h1_o h1_n hR h1_p hU hu8 h1_k hK hk2 h1_t ht hlen).1, (fun z hz => hfA z (by omega) (by omega))⟩ rfl (Nat.le_refl _)

abbrev mX7_count : xC := mkC yX7_count cX7_count 2 (some .int) 1 100 0 0
set_option maxHeartbeats 4000000 in
set_option maxRecDepth 100000 in
theorem tX7_count {n : Nat} {w : xW} {s : St} (hS : RefS w s) {a : Int} : Ctr mX7_count [xr 55, xi a] n w (pI (fun v w2 => v = (opCount s a).1 ∧ RefS w2 (opCount s a).2 ∧ FrR w w2)) := by
  refine Ctr.of ykX7_count rfl (Nat.le_of_ble_eq_true rfl) okI (fun hin hW => ?_)
  have hS0 := hS
  obtain ⟨hv, hsc, ⟨pl, mn, pq, cv, sh, be, bg, bc, bp, pa, re, px, h_o⟩, ⟨f, h_n, hR⟩, ⟨g, h_p, hU⟩, hu8, ⟨kf, h_k, hK⟩, hk2, ⟨t, h_t, ht⟩, hlen⟩ := hS
  have hl : s.1.length ≤ 14 := hv.1.2.2.1
  have hl1 : 1 ≤ s.1.length := hv.1.2.1
  have hcd : Cod s.1 := hv.1.1
  show Ex _ _ 0 0 n w 0 [some (xr 55), some (xi a)] []
  refine ex_iload_n (pc := 0) dX7_count_0 rfl ?_
  by_cases q1_0 : a = 0
  · refine ex_tableIn (pc := 1) dX7_count_1 (by omega) (by omega) (off := 35) (tgt := 36) (by rw [q1_0]; rfl) (by decide) ?_
    refine ex_aload_n (pc := 36) dX7_count_36 rfl ?_
    refine ex_getfield (pc := 37) dX7_count_37 fk_X7_7 h_o (by rfl) ?_
    refine ex_iconst (pc := 40) dX7_count_40 (by decide) ?_
    refine ex_iaload (pc := 41) dX7_count_41 h_n (by omega) (by omega) ?_
    exact ex_iret (pc := 42) dX7_count_42 ⟨by unfold opCount; rw [if_pos q1_0]; exact hR.1, hS0, fun _ _ => rfl⟩ rfl (Nat.le_refl _)
  by_cases q1_1 : a = 1
  · refine ex_tableIn (pc := 1) dX7_count_1 (by omega) (by omega) (off := 42) (tgt := 43) (by rw [q1_1]; rfl) (by decide) ?_
    refine ex_aload_n (pc := 43) dX7_count_43 rfl ?_
    refine ex_getfield (pc := 44) dX7_count_44 fk_X7_7 h_o (by rfl) ?_
    refine ex_iconst (pc := 47) dX7_count_47 (by decide) ?_
    refine ex_iaload (pc := 48) dX7_count_48 h_n (by omega) (by omega) ?_
    exact ex_iret (pc := 49) dX7_count_49 ⟨by unfold opCount; rw [if_neg q1_0, if_pos q1_1]; exact hR.2.1, hS0, fun _ _ => rfl⟩ rfl (Nat.le_refl _)
  by_cases q1_2 : a = 2
  · refine ex_tableIn (pc := 1) dX7_count_1 (by omega) (by omega) (off := 49) (tgt := 50) (by rw [q1_2]; rfl) (by decide) ?_
    refine ex_aload_n (pc := 50) dX7_count_50 rfl ?_
    refine ex_getfield (pc := 51) dX7_count_51 fk_X7_86 h_o (by rfl) ?_
    exact ex_iret (pc := 54) dX7_count_54 ⟨by unfold opCount; rw [if_neg q1_0, if_neg q1_1, if_pos q1_2], hS0, fun _ _ => rfl⟩ rfl (Nat.le_refl _)
  by_cases q1_3 : a = 3
  · refine ex_tableIn (pc := 1) dX7_count_1 (by omega) (by omega) (off := 54) (tgt := 55) (by rw [q1_3]; rfl) (by decide) ?_
    refine ex_aload_n (pc := 55) dX7_count_55 rfl ?_
    refine ex_getfield (pc := 56) dX7_count_56 fk_X7_89 h_o (by rfl) ?_
    exact ex_iret (pc := 59) dX7_count_59 ⟨by unfold opCount; rw [if_neg q1_0, if_neg q1_1, if_neg q1_2, if_pos q1_3], hS0, fun _ _ => rfl⟩ rfl (Nat.le_refl _)
  by_cases q1_4 : a = 4
  · refine ex_tableIn (pc := 1) dX7_count_1 (by omega) (by omega) (off := 59) (tgt := 60) (by rw [q1_4]; rfl) (by decide) ?_
    refine ex_aload_n (pc := 60) dX7_count_60 rfl ?_
    refine ex_getfield (pc := 61) dX7_count_61 fk_X7_61 h_o (by rfl) ?_
    exact ex_iret (pc := 64) dX7_count_64 ⟨by unfold opCount; rw [if_neg q1_0, if_neg q1_1, if_neg q1_2, if_neg q1_3, if_pos q1_4], hS0, fun _ _ => rfl⟩ rfl (Nat.le_refl _)
  refine ex_tableOut (pc := 1) dX7_count_1 (by omega) (tgt := 65) (by decide) ?_
  refine ex_iconst (pc := 65) dX7_count_65 (by decide) ?_
  exact ex_iret (pc := 66) dX7_count_66 ⟨by unfold opCount; rw [if_neg q1_0, if_neg q1_1, if_neg q1_2, if_neg q1_3, if_neg q1_4], hS0, fun _ _ => rfl⟩ rfl (Nat.le_refl _)

abbrev mX7_note : xC := mkC yX7_note cX7_note 3 (some .int) 3 300 0 0
set_option maxHeartbeats 4000000 in
set_option maxRecDepth 100000 in
theorem tX7_note {n : Nat} {w : xW} {s : St} (hS : RefS w s) {a b : Int} : Ctr mX7_note [xr 55, xi a, xi b] n w (pI (fun v w2 => v = (opNote s a b).1 ∧ RefS w2 (opNote s a b).2 ∧ FrR w w2)) := by
  refine Ctr.of ykX7_note rfl (Nat.le_of_ble_eq_true rfl) okI (fun hin hW => ?_)
  have hS0 := hS
  obtain ⟨hv, hsc, ⟨pl, mn, pq, cv, sh, be, bg, bc, bp, pa, re, px, h_o⟩, ⟨f, h_n, hR⟩, ⟨g, h_p, hU⟩, hu8, ⟨kf, h_k, hK⟩, hk2, ⟨t, h_t, ht⟩, hlen⟩ := hS
  have hl : s.1.length ≤ 14 := hv.1.2.2.1
  have hl1 : 1 ≤ s.1.length := hv.1.2.1
  have hcd : Cod s.1 := hv.1.1
  show Ex _ _ 0 0 n w 0 [some (xr 55), some (xi a), some (xi b)] []
  refine ex_aload_n (pc := 0) dX7_note_0 rfl ?_
  refine ex_iload_n (pc := 1) dX7_note_1 rfl ?_
  refine ex_callVZ (as := [_]) (pc := 2) dX7_note_2 (tX7_isNote h_o h_n hR hl) lk_X7_92 ykX7_isNote vkX7_isNote h_o rfl rfl rfl (Nat.le_of_ble_eq_true rfl) ⟨by decide, by decide⟩ ⟨Nat.le_refl _, Nat.le_refl _⟩ (fun i2 w1 r2 p2 => ?_)
  obtain ⟨e2, p2⟩ := p2
  rw [e2]
  refine ex_if_eq (pc := 5) dX7_note_5 (tgt := 37) (by decide) (fun c5 => ?_) (fun c5 => ?_)
  · refine ex_iconst (pc := 37) dX7_note_37 (by decide) ?_
    exact ex_iret (pc := 38) dX7_note_38 ⟨by unfold opNote; rw [if_neg (by omega)], hS0, fun _ _ => rfl⟩ rfl (Nat.le_refl _)
  · refine ex_iload_n (pc := 8) dX7_note_8 rfl ?_
    refine ex_iconst (pc := 9) dX7_note_9 (by decide) ?_
    refine ex_iconst (pc := 10) dX7_note_10 (by decide) ?_
    refine ex_callSZ (as := [_, _, _]) (pc := 11) dX7_note_11 (tX7_in) lk_X7_68 ykX7_in zkX7_in rfl rfl (Nat.le_of_ble_eq_true rfl) ⟨by decide, by decide⟩ ⟨Nat.le_refl _, Nat.le_refl _⟩ (fun i11 w1 r11 p11 => ?_)
    obtain ⟨e11, p11⟩ := p11
    rw [e11]
    refine ex_if_eq (pc := 14) dX7_note_14 (tgt := 37) (by decide) (fun c14 => ?_) (fun c14 => ?_)
    · refine ex_iconst (pc := 37) dX7_note_37 (by decide) ?_
      exact ex_iret (pc := 38) dX7_note_38 ⟨by unfold opNote; rw [if_pos (by omega), if_neg (by omega), if_neg (by omega)], hS0, fun _ _ => rfl⟩ rfl (Nat.le_refl _)
    · refine ex_aload_n (pc := 17) dX7_note_17 rfl ?_
      refine ex_getfield (pc := 18) dX7_note_18 fk_X7_7 h_o (by rfl) ?_
      refine ex_iload_n (pc := 21) dX7_note_21 rfl ?_
      refine ex_if_ne (pc := 22) dX7_note_22 (tgt := 29) (by decide) (fun c22 => ?_) (fun c22 => ?_)
      · refine ex_bipush (pc := 29) dX7_note_29 (by decide) ?_
        refine ex_iload_n (pc := 31) dX7_note_31 rfl ?_
        refine ex_iadd (pc := 32) dX7_note_32 (by unfold inI; omega) ?_
        refine ex_iaload (pc := 33) dX7_note_33 h_n (by omega) (by omega) ?_
        refine ex_goto (pc := 34) dX7_note_34 (tgt := 38) (by decide) ?_
        exact ex_iret (pc := 38) dX7_note_38 ⟨by unfold opNote; rw [if_pos (by omega), if_neg (by omega), if_pos (by omega), ← (hR.2.2 a.toNat (by omega)).2]; congr 1; omega, hS0, fun _ _ => rfl⟩ rfl (Nat.le_refl _)
      · refine ex_iconst (pc := 25) dX7_note_25 (by decide) ?_
        refine ex_goto (pc := 26) dX7_note_26 (tgt := 31) (by decide) ?_
        refine ex_iload_n (pc := 31) dX7_note_31 rfl ?_
        refine ex_iadd (pc := 32) dX7_note_32 (by unfold inI; omega) ?_
        refine ex_iaload (pc := 33) dX7_note_33 h_n (by omega) (by omega) ?_
        refine ex_goto (pc := 34) dX7_note_34 (tgt := 38) (by decide) ?_
        exact ex_iret (pc := 38) dX7_note_38 ⟨by unfold opNote; rw [if_pos (by omega), if_pos (by omega), ← (hR.2.2 a.toNat (by omega)).1]; congr 1; omega, hS0, fun _ _ => rfl⟩ rfl (Nat.le_refl _)

abbrev mX7_keep : xC := mkC yX7_keep cX7_keep 1 (some .int) 2 200 0 0
set_option maxHeartbeats 4000000 in
set_option maxRecDepth 100000 in
theorem tX7_keep {n : Nat} {w : xW} {s : St} (hS : RefS w s) : Ctr mX7_keep [xr 55] n w (pI (fun v w2 => v = (opKeep s).1 ∧ RefS w2 (opKeep s).2 ∧ FrR w w2)) := by
  refine Ctr.of ykX7_keep rfl (Nat.le_of_ble_eq_true rfl) okI (fun hin hW => ?_)
  have hS0 := hS
  obtain ⟨hv, hsc, ⟨pl, mn, pq, cv, sh, be, bg, bc, bp, pa, re, px, h_o⟩, ⟨f, h_n, hR⟩, ⟨g, h_p, hU⟩, hu8, ⟨kf, h_k, hK⟩, hk2, ⟨t, h_t, ht⟩, hlen⟩ := hS
  have hl : s.1.length ≤ 14 := hv.1.2.2.1
  have hl1 : 1 ≤ s.1.length := hv.1.2.1
  have hcd : Cod s.1 := hv.1.1
  show Ex _ _ 0 0 n w 0 [some (xr 55)] []
  refine ex_aload_n (pc := 0) dX7_keep_0 rfl ?_
  refine ex_getfield (pc := 1) dX7_keep_1 fk_X7_89 h_o (by rfl) ?_
  refine ex_iconst (pc := 4) dX7_keep_4 (by decide) ?_
  refine ex_icmp_ne (pc := 5) dX7_keep_5 (tgt := 11) (by decide) (fun c5 => ?_) (fun c5 => ?_)
  · refine ex_aload_n (pc := 11) dX7_keep_11 rfl ?_
    refine ex_getfield (pc := 12) dX7_keep_12 fk_X7_7 h_o (by rfl) ?_
    refine ex_iconst (pc := 15) dX7_keep_15 (by decide) ?_
    refine ex_aload_n (pc := 16) dX7_keep_16 rfl ?_
    refine ex_getfield (pc := 17) dX7_keep_17 fk_X7_22 h_o (by rfl) ?_
    refine ex_bipush (pc := 20) dX7_keep_20 (by decide) ?_
    refine ex_aload_n (pc := 22) dX7_keep_22 rfl ?_
    refine ex_getfield (pc := 23) dX7_keep_23 fk_X7_89 h_o (by rfl) ?_
    refine ex_imul (pc := 26) dX7_keep_26 (by unfold inI; omega) ?_
    rw [show ((30 : Int) * (s.2.2.2.1.length : Int)) = ((30 * s.2.2.2.1.length : Nat) : Int) by omega]
    refine ex_callSV (as := [_, _, _, _]) (pc := 27) dX7_keep_27 (tX7_copies (x := 0) (y := 30 * s.2.2.2.1.length) h_n h_k (by decide) (by omega) (by omega) (by omega) (by omega)) lk_X7_49 ykX7_copies zkX7_copies rfl rfl (Nat.le_of_ble_eq_true rfl) ⟨by decide, by decide⟩ ⟨Nat.le_refl _, Nat.le_refl _⟩ (fun w1 p27 => ?_)
    have h1_o := ((congrFun p27 55).trans (up_n (by decide))).trans h_o
    have h1_n := ((congrFun p27 56).trans (up_n (by decide))).trans h_n
    have h1_p := ((congrFun p27 59).trans (up_n (by decide))).trans h_p
    have h1_k := (congrFun p27 60).trans up_s
    have h1_t := ((congrFun p27 61).trans (up_n (by decide))).trans h_t
    refine ex_aload_n (pc := 30) dX7_keep_30 rfl ?_
    refine ex_dup (pc := 31) dX7_keep_31 rfl ?_
    refine ex_getfield (pc := 32) dX7_keep_32 fk_X7_89 h1_o (by rfl) ?_
    refine ex_iconst (pc := 35) dX7_keep_35 (by decide) ?_
    refine ex_iadd (pc := 36) dX7_keep_36 (by unfold inI; omega) ?_
    refine ex_putA (pc := 37) dX7_keep_37 fk_X7_89 (ty := tyX7 6) (fun _ _ _ h9 => by cases h9; exact ⟨tyX7_ok 6 (by decide), rfl⟩) h1_o (Nat.le_of_ble_eq_true rfl) (fun _ => rfl) (fun _ => rfl) ?_
    refine ex_up (fun w2 e_w2 => ?_)
    have h2_o := (congrFun e_w2 55).trans up_s
    have h2_n := ((congrFun e_w2 56).trans (up_n (by first | assumption | decide | omega))).trans h1_n
    have h2_p := ((congrFun e_w2 59).trans (up_n (by first | assumption | decide | omega))).trans h1_p
    have h2_k := ((congrFun e_w2 60).trans (up_n (by first | assumption | decide | omega))).trans h1_k
    have h2_t := ((congrFun e_w2 61).trans (up_n (by first | assumption | decide | omega))).trans h1_t
    refine ex_aload_n (pc := 40) dX7_keep_40 rfl ?_
    refine ex_getfield (pc := 41) dX7_keep_41 fk_X7_89 h2_o (by rfl) ?_
    exact ex_iret (pc := 44) dX7_keep_44 (by unfold opKeep; rw [if_neg (by omega)]; exact ⟨rfl, RefS.fin hsc (fun z z1 z2 z3 z4 z5 => by simp only [e_w2, p27, up_n z1, up_n z2, up_n z3, up_n z4, up_n z5]) ⟨hv.1, hv.2.1, fun x hx => by rcases List.mem_append.mp hx with q | q; exact hv.2.2 x q; rw [List.mem_singleton.mp q]; exact hv.1⟩ (by rw [List.length_append]; exact h2_o) h2_n (hR) h2_p (hU) (hu8) h2_k (rows_push hK hR hl hv.2.2) (by rw [List.length_append]; simp only [List.length_singleton]; omega) h2_t (ht) (hlen)⟩) rfl (Nat.le_refl _)
  · refine ex_bipush (pc := 8) dX7_keep_8 (by decide) ?_
    exact ex_iret (pc := 10) dX7_keep_10 ⟨by unfold opKeep; rw [if_pos (by omega)], by unfold opKeep; rw [if_pos (by omega)]; exact hS0, fun _ _ => rfl⟩ rfl (Nat.le_refl _)

abbrev mX7_undo : xC := mkC yX7_undo cX7_undo 1 (some .int) 2 200 0 0
set_option maxHeartbeats 4000000 in
set_option maxRecDepth 100000 in
theorem tX7_undo {n : Nat} {w : xW} {s : St} (hS : RefS w s) : Ctr mX7_undo [xr 55] n w (pI (fun v w2 => v = (opUndo s).1 ∧ RefS w2 (opUndo s).2 ∧ FrR w w2)) := by
  refine Ctr.of ykX7_undo rfl (Nat.le_of_ble_eq_true rfl) okI (fun hin hW => ?_)
  have hS0 := hS
  obtain ⟨hv, hsc, ⟨pl, mn, pq, cv, sh, be, bg, bc, bp, pa, re, px, h_o⟩, ⟨f, h_n, hR⟩, ⟨g, h_p, hU⟩, hu8, ⟨kf, h_k, hK⟩, hk2, ⟨t, h_t, ht⟩, hlen⟩ := hS
  have hl : s.1.length ≤ 14 := hv.1.2.2.1
  have hl1 : 1 ≤ s.1.length := hv.1.2.1
  have hcd : Cod s.1 := hv.1.1
  show Ex _ _ 0 0 n w 0 [some (xr 55)] []
  refine ex_aload_n (pc := 0) dX7_undo_0 rfl ?_
  refine ex_getfield (pc := 1) dX7_undo_1 fk_X7_86 h_o (by rfl) ?_
  refine ex_if_ne (pc := 4) dX7_undo_4 (tgt := 10) (by decide) (fun c4 => ?_) (fun c4 => ?_)
  · obtain ⟨x, hx⟩ : ∃ x, s.2.2.1.getLast? = some x := ⟨s.2.2.1.getLast (by intro q; rw [q] at c4; exact c4 rfl), List.getLast?_eq_some_getLast _⟩
    have hok := hv.2.1 x (List.mem_of_getLast? hx)
    have hrow := hU _ x (getLast_at hx)
    refine ex_aload_n (pc := 10) dX7_undo_10 rfl ?_
    refine ex_dup (pc := 11) dX7_undo_11 rfl ?_
    refine ex_getfield (pc := 12) dX7_undo_12 fk_X7_86 h_o (by rfl) ?_
    refine ex_iconst (pc := 15) dX7_undo_15 (by decide) ?_
    refine ex_isub (pc := 16) dX7_undo_16 (by unfold inI; omega) ?_
    refine ex_putA (pc := 17) dX7_undo_17 fk_X7_86 (ty := tyX7 4) (fun _ _ _ h9 => by cases h9; exact ⟨tyX7_ok 4 (by decide), rfl⟩) h_o (Nat.le_of_ble_eq_true rfl) (fun _ => rfl) (fun _ => rfl) ?_
    refine ex_up (fun w1 e_w1 => ?_)
    have h1_o := (congrFun e_w1 55).trans up_s
    have h1_n := ((congrFun e_w1 56).trans (up_n (by first | assumption | decide | omega))).trans h_n
    have h1_p := ((congrFun e_w1 59).trans (up_n (by first | assumption | decide | omega))).trans h_p
    have h1_k := ((congrFun e_w1 60).trans (up_n (by first | assumption | decide | omega))).trans h_k
    have h1_t := ((congrFun e_w1 61).trans (up_n (by first | assumption | decide | omega))).trans h_t
    refine ex_aload_n (pc := 20) dX7_undo_20 rfl ?_
    refine ex_getfield (pc := 21) dX7_undo_21 fk_X7_19 h1_o (by rfl) ?_
    refine ex_bipush (pc := 24) dX7_undo_24 (by decide) ?_
    refine ex_aload_n (pc := 26) dX7_undo_26 rfl ?_
    refine ex_getfield (pc := 27) dX7_undo_27 fk_X7_86 h1_o (by rfl) ?_
    refine ex_imul (pc := 30) dX7_undo_30 (by unfold inI; omega) ?_
    refine ex_aload_n (pc := 31) dX7_undo_31 rfl ?_
    refine ex_getfield (pc := 32) dX7_undo_32 fk_X7_7 h1_o (by rfl) ?_
    refine ex_iconst (pc := 35) dX7_undo_35 (by decide) ?_
    rw [show ((30 : Int) * ((s.2.2.1.length : Int) - 1)) = ((30 * (s.2.2.1.length - 1) : Nat) : Int) by omega]
    refine ex_callSV (as := [_, _, _, _]) (pc := 36) dX7_undo_36 (tX7_copies (x := 30 * (s.2.2.1.length - 1)) (y := 0) h1_p h1_n (by decide) (by omega) (by omega) (by omega) (by omega)) lk_X7_49 ykX7_copies zkX7_copies rfl rfl (Nat.le_of_ble_eq_true rfl) ⟨by decide, by decide⟩ ⟨Nat.le_refl _, Nat.le_refl _⟩ (fun w2 p36 => ?_)
    have h2_o := ((congrFun p36 55).trans (up_n (by decide))).trans h1_o
    have h2_n := (congrFun p36 56).trans up_s
    have h2_p := ((congrFun p36 59).trans (up_n (by decide))).trans h1_p
    have h2_k := ((congrFun p36 60).trans (up_n (by decide))).trans h1_k
    have h2_t := ((congrFun p36 61).trans (up_n (by decide))).trans h1_t
    refine ex_aload_n (pc := 39) dX7_undo_39 rfl ?_
    refine ex_getfield (pc := 40) dX7_undo_40 fk_X7_86 h2_o (by rfl) ?_
    exact ex_iret (pc := 43) dX7_undo_43 (by unfold opUndo; rw [hx]; exact ⟨rfl, RefS.fin hsc (fun z z1 z2 z3 z4 z5 => by simp only [p36, e_w1, up_n z1, up_n z2, up_n z3, up_n z4, up_n z5]) ⟨hok, fun z hz => hv.2.1 z (mem_dropL hz), hv.2.2⟩ (by rw [List.length_dropLast, show ((s.2.2.1.length - 1 : Nat) : Int) = (s.2.2.1.length : Int) - 1 by omega]; exact h2_o) h2_n (row_of hrow hok.2.2.1) h2_p (rows_drop hU) (by rw [List.length_dropLast]; omega) h2_k (hK) (hk2) h2_t (ht) (hlen)⟩) rfl (Nat.le_refl _)
  · have hx0 : s.2.2.1.getLast? = none := List.getLast?_eq_none_iff.mpr (List.eq_nil_of_length_eq_zero (by omega))
    refine ex_bipush (pc := 7) dX7_undo_7 (by decide) ?_
    exact ex_iret (pc := 9) dX7_undo_9 ⟨by unfold opUndo; rw [hx0], by unfold opUndo; rw [hx0]; exact hS0, fun _ _ => rfl⟩ rfl (Nat.le_refl _)

abbrev mX7_back : xC := mkC yX7_back cX7_back 1 (some .int) 2 200 0 0
set_option maxHeartbeats 4000000 in
set_option maxRecDepth 100000 in
theorem tX7_back {n : Nat} {w : xW} {s : St} (hS : RefS w s) : Ctr mX7_back [xr 55] n w (pI (fun v w2 => v = (opBack s).1 ∧ RefS w2 (opBack s).2 ∧ FrR w w2)) := by
  refine Ctr.of ykX7_back rfl (Nat.le_of_ble_eq_true rfl) okI (fun hin hW => ?_)
  have hS0 := hS
  obtain ⟨hv, hsc, ⟨pl, mn, pq, cv, sh, be, bg, bc, bp, pa, re, px, h_o⟩, ⟨f, h_n, hR⟩, ⟨g, h_p, hU⟩, hu8, ⟨kf, h_k, hK⟩, hk2, ⟨t, h_t, ht⟩, hlen⟩ := hS
  have hl : s.1.length ≤ 14 := hv.1.2.2.1
  have hl1 : 1 ≤ s.1.length := hv.1.2.1
  have hcd : Cod s.1 := hv.1.1
  show Ex _ _ 0 0 n w 0 [some (xr 55)] []
  refine ex_aload_n (pc := 0) dX7_back_0 rfl ?_
  refine ex_getfield (pc := 1) dX7_back_1 fk_X7_89 h_o (by rfl) ?_
  refine ex_if_ne (pc := 4) dX7_back_4 (tgt := 10) (by decide) (fun c4 => ?_) (fun c4 => ?_)
  · obtain ⟨x, hx⟩ : ∃ x, s.2.2.2.1.getLast? = some x := ⟨s.2.2.2.1.getLast (by intro q; rw [q] at c4; exact c4 rfl), List.getLast?_eq_some_getLast _⟩
    have hok := hv.2.2 x (List.mem_of_getLast? hx)
    have hrow := hK _ x (getLast_at hx)
    refine ex_aload_n (pc := 10) dX7_back_10 rfl ?_
    refine ex_dup (pc := 11) dX7_back_11 rfl ?_
    refine ex_getfield (pc := 12) dX7_back_12 fk_X7_89 h_o (by rfl) ?_
    refine ex_iconst (pc := 15) dX7_back_15 (by decide) ?_
    refine ex_isub (pc := 16) dX7_back_16 (by unfold inI; omega) ?_
    refine ex_putA (pc := 17) dX7_back_17 fk_X7_89 (ty := tyX7 6) (fun _ _ _ h9 => by cases h9; exact ⟨tyX7_ok 6 (by decide), rfl⟩) h_o (Nat.le_of_ble_eq_true rfl) (fun _ => rfl) (fun _ => rfl) ?_
    refine ex_up (fun w1 e_w1 => ?_)
    have h1_o := (congrFun e_w1 55).trans up_s
    have h1_n := ((congrFun e_w1 56).trans (up_n (by first | assumption | decide | omega))).trans h_n
    have h1_p := ((congrFun e_w1 59).trans (up_n (by first | assumption | decide | omega))).trans h_p
    have h1_k := ((congrFun e_w1 60).trans (up_n (by first | assumption | decide | omega))).trans h_k
    have h1_t := ((congrFun e_w1 61).trans (up_n (by first | assumption | decide | omega))).trans h_t
    refine ex_aload_n (pc := 20) dX7_back_20 rfl ?_
    refine ex_getfield (pc := 21) dX7_back_21 fk_X7_22 h1_o (by rfl) ?_
    refine ex_bipush (pc := 24) dX7_back_24 (by decide) ?_
    refine ex_aload_n (pc := 26) dX7_back_26 rfl ?_
    refine ex_getfield (pc := 27) dX7_back_27 fk_X7_89 h1_o (by rfl) ?_
    refine ex_imul (pc := 30) dX7_back_30 (by unfold inI; omega) ?_
    refine ex_aload_n (pc := 31) dX7_back_31 rfl ?_
    refine ex_getfield (pc := 32) dX7_back_32 fk_X7_7 h1_o (by rfl) ?_
    refine ex_iconst (pc := 35) dX7_back_35 (by decide) ?_
    rw [show ((30 : Int) * ((s.2.2.2.1.length : Int) - 1)) = ((30 * (s.2.2.2.1.length - 1) : Nat) : Int) by omega]
    refine ex_callSV (as := [_, _, _, _]) (pc := 36) dX7_back_36 (tX7_copies (x := 30 * (s.2.2.2.1.length - 1)) (y := 0) h1_k h1_n (by decide) (by omega) (by omega) (by omega) (by omega)) lk_X7_49 ykX7_copies zkX7_copies rfl rfl (Nat.le_of_ble_eq_true rfl) ⟨by decide, by decide⟩ ⟨Nat.le_refl _, Nat.le_refl _⟩ (fun w2 p36 => ?_)
    have h2_o := ((congrFun p36 55).trans (up_n (by decide))).trans h1_o
    have h2_n := (congrFun p36 56).trans up_s
    have h2_p := ((congrFun p36 59).trans (up_n (by decide))).trans h1_p
    have h2_k := ((congrFun p36 60).trans (up_n (by decide))).trans h1_k
    have h2_t := ((congrFun p36 61).trans (up_n (by decide))).trans h1_t
    refine ex_aload_n (pc := 39) dX7_back_39 rfl ?_
    refine ex_iconst (pc := 40) dX7_back_40 (by decide) ?_
    refine ex_putA (pc := 41) dX7_back_41 fk_X7_86 (ty := tyX7 4) (fun _ _ _ h9 => by cases h9; exact ⟨tyX7_ok 4 (by decide), rfl⟩) h2_o (Nat.le_of_ble_eq_true rfl) (fun _ => rfl) (fun _ => rfl) ?_
    refine ex_up (fun w3 e_w3 => ?_)
    have h3_o := (congrFun e_w3 55).trans up_s
    have h3_n := ((congrFun e_w3 56).trans (up_n (by first | assumption | decide | omega))).trans h2_n
    have h3_p := ((congrFun e_w3 59).trans (up_n (by first | assumption | decide | omega))).trans h2_p
    have h3_k := ((congrFun e_w3 60).trans (up_n (by first | assumption | decide | omega))).trans h2_k
    have h3_t := ((congrFun e_w3 61).trans (up_n (by first | assumption | decide | omega))).trans h2_t
    refine ex_aload_n (pc := 44) dX7_back_44 rfl ?_
    refine ex_getfield (pc := 45) dX7_back_45 fk_X7_89 h3_o (by rfl) ?_
    exact ex_iret (pc := 48) dX7_back_48 (by unfold opBack; rw [hx]; exact ⟨rfl, RefS.fin hsc (fun z z1 z2 z3 z4 z5 => by simp only [e_w3, p36, e_w1, up_n z1, up_n z2, up_n z3, up_n z4, up_n z5]) ⟨hok, fun z hz => by simp at hz, fun z hz => hv.2.2 z (mem_dropL hz)⟩ (by rw [List.length_dropLast, show ((s.2.2.2.1.length - 1 : Nat) : Int) = (s.2.2.2.1.length : Int) - 1 by omega]; exact h3_o) h3_n (row_of hrow hok.2.2.1) h3_p (rows_nil) (by decide) h3_k (rows_drop hK) (by rw [List.length_dropLast]; omega) h3_t (ht) (hlen)⟩) rfl (Nat.le_refl _)
  · have hx0 : s.2.2.2.1.getLast? = none := List.getLast?_eq_none_iff.mpr (List.eq_nil_of_length_eq_zero (by omega))
    refine ex_bipush (pc := 7) dX7_back_7 (by decide) ?_
    exact ex_iret (pc := 9) dX7_back_9 ⟨by unfold opBack; rw [hx0], by unfold opBack; rw [hx0]; exact hS0, fun _ _ => rfl⟩ rfl (Nat.le_refl _)

