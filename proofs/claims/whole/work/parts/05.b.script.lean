/-! ===== the text ===== -/
def ch (tx : List Int) (i : Nat) : Int := tx.getD i (-1)
def isF (c : Int) : Prop := 48 ≤ c ∧ c ≤ 57
theorem ch_in {tx : List Int} {i : Nat} (h : i < tx.length) : ch tx i = tx.getD i 0 := by simp [ch, List.getD, h]
theorem ch_out {tx : List Int} {i : Nat} (h : tx.length ≤ i) : ch tx i = -1 := by simp [ch, List.getD, h]
theorem ch_lt {tx : List Int} {i : Nat} (h : ch tx i ≠ -1) : i < tx.length := by
  rcases Nat.lt_or_ge i tx.length with q | q
  · exact q
  · exact absurd (ch_out q) h
theorem up_self {w : xW} {k : Nat} {e : xE} (h : w k = e) : va_up w k e = w := by
  funext q
  by_cases e1 : q = k
  · subst e1; rw [up_s, h]
  · rw [up_n e1]
theorem up_up {α : Type} {w : Nat → α} {k : Nat} {e e2 : α} : va_up (va_up w k e) k e2 = va_up w k e2 := by
  funext q
  by_cases e1 : q = k
  · subst e1; rw [up_s, up_s]
  · rw [up_n e1, up_n e1, up_n e1]
def rdN (tx : List Int) (i : Nat) : Int × Nat := if 48 ≤ ch tx i ∧ ch tx i ≤ 57 then (if 48 ≤ ch tx (i + 1) ∧ ch tx (i + 1) ≤ 57 then ((ch tx i - 48) * 10 + (ch tx (i + 1) - 48), 2) else (ch tx i - 48, 1)) else (-4, 0)

abbrev mX4_skip : xC := mkC yX4_skip cX4_skip 2 (some .boolean) 1 100 0 0
set_option maxHeartbeats 4000000 in
set_option maxRecDepth 100000 in
theorem tX4_skip {n : Nat} {w : xW} {s l at_ : Nat} {tx : List Int} {t : Nat → Int} (h_s : w s = xO 4 [xr l, xi tx.length, xi at_]) (h_l : w l = xA 200 t) (ht : Lst t tx) (hlen : tx.length ≤ 200) (hat : at_ ≤ 200) {c : Int} (hc : 0 ≤ c) : Ctr mX4_skip [xr s, xi c] n w (pZ (fun v w2 => (v = 1 ∧ at_ < tx.length ∧ ch tx at_ = c ∧ w2 = va_up w s (xO 4 [xr l, xi tx.length, xi (at_ + 1 : Nat)])) ∨ (v = 0 ∧ ch tx at_ ≠ c ∧ w2 = w))) := by
  refine Ctr.of ykX4_skip rfl (Nat.le_of_ble_eq_true rfl) okZ (fun hin hW => ?_)
  have ne1 : l ≠ s := by rintro rfl; rw [h_l] at h_s; cases h_s
  show Ex _ _ 0 0 n w 0 [some (xr s), some (xi c)] []
  refine ex_aload_n (pc := 0) dX4_skip_0 rfl ?_
  refine ex_getfield (pc := 1) dX4_skip_1 fk_X4_27 h_s (by rfl) ?_
  refine ex_aload_n (pc := 4) dX4_skip_4 rfl ?_
  refine ex_getfield (pc := 5) dX4_skip_5 fk_X4_15 h_s (by rfl) ?_
  refine ex_icmp_ge (pc := 8) dX4_skip_8 (tgt := 24) (by decide) (fun c8 => ?_) (fun c8 => ?_)
  · refine ex_iconst (pc := 24) dX4_skip_24 (by decide) ?_
    exact ex_zret (pc := 25) dX4_skip_25 ⟨Or.inl rfl, Or.inr ⟨rfl, by rw [ch_out (by omega)]; omega, rfl⟩⟩ rfl (Nat.le_refl _)
  · refine ex_aload_n (pc := 11) dX4_skip_11 rfl ?_
    refine ex_getfield (pc := 12) dX4_skip_12 fk_X4_9 h_s (by rfl) ?_
    refine ex_aload_n (pc := 15) dX4_skip_15 rfl ?_
    refine ex_getfield (pc := 16) dX4_skip_16 fk_X4_27 h_s (by rfl) ?_
    refine ex_iaload (pc := 19) dX4_skip_19 h_l (by omega) (by omega) ?_
    have hk1 : ((at_ : Int)).toNat = at_ := by omega
    rw [hk1, ht at_ (by omega)]
    refine ex_iload_n (pc := 20) dX4_skip_20 rfl ?_
    refine ex_icmp_eq (pc := 21) dX4_skip_21 (tgt := 26) (by decide) (fun c21 => ?_) (fun c21 => ?_)
    · refine ex_aload_n (pc := 26) dX4_skip_26 rfl ?_
      refine ex_dup (pc := 27) dX4_skip_27 rfl ?_
      refine ex_getfield (pc := 28) dX4_skip_28 fk_X4_27 h_s (by rfl) ?_
      refine ex_iconst (pc := 31) dX4_skip_31 (by decide) ?_
      refine ex_iadd (pc := 32) dX4_skip_32 (by unfold inI; omega) ?_
      refine ex_putA (pc := 33) dX4_skip_33 fk_X4_27 (ty := tyX4 2) (fun _ _ _ h9 => by cases h9; exact ⟨tyX4_ok 2 (by decide), rfl⟩) h_s (Nat.le_of_ble_eq_true rfl) (fun _ => rfl) (fun _ => rfl) ?_
      refine ex_up (fun w1 e_w1 => ?_)
      have h1_s := (congrFun e_w1 s).trans up_s
      have h1_l := ((congrFun e_w1 l).trans (up_n (by first | assumption | decide | omega))).trans h_l
      refine ex_iconst (pc := 36) dX4_skip_36 (by decide) ?_
      exact ex_zret (pc := 37) dX4_skip_37 ⟨Or.inr rfl, Or.inl ⟨rfl, by omega, by rw [ch_in (by omega)]; exact c21, e_w1⟩⟩ rfl (Nat.le_refl _)
    · refine ex_iconst (pc := 24) dX4_skip_24 (by decide) ?_
      exact ex_zret (pc := 25) dX4_skip_25 ⟨Or.inl rfl, Or.inr ⟨rfl, by rw [ch_in (by omega)]; omega, rfl⟩⟩ rfl (Nat.le_refl _)

abbrev mX4_isFigure : xC := mkC yX4_isFigure cX4_isFigure 1 (some .boolean) 1 100 0 0
set_option maxHeartbeats 4000000 in
set_option maxRecDepth 100000 in
theorem tX4_isFigure {n : Nat} {w : xW} {s l at_ : Nat} {tx : List Int} {t : Nat → Int} (h_s : w s = xO 4 [xr l, xi tx.length, xi at_]) (h_l : w l = xA 200 t) (ht : Lst t tx) (hlen : tx.length ≤ 200) (hat : at_ ≤ 200) : Ctr mX4_isFigure [xr s] n w (pZ (fun v w2 => w2 = w ∧ (v = 1 ↔ 48 ≤ ch tx at_ ∧ ch tx at_ ≤ 57))) := by
  refine Ctr.of ykX4_isFigure rfl (Nat.le_of_ble_eq_true rfl) okZ (fun hin hW => ?_)
  show Ex _ _ 0 0 n w 0 [some (xr s)] []
  refine ex_aload_n (pc := 0) dX4_isFigure_0 rfl ?_
  refine ex_getfield (pc := 1) dX4_isFigure_1 fk_X4_27 h_s (by rfl) ?_
  refine ex_aload_n (pc := 4) dX4_isFigure_4 rfl ?_
  refine ex_getfield (pc := 5) dX4_isFigure_5 fk_X4_15 h_s (by rfl) ?_
  refine ex_icmp_ge (pc := 8) dX4_isFigure_8 (tgt := 43) (by decide) (fun c8 => ?_) (fun c8 => ?_)
  · refine ex_iconst (pc := 43) dX4_isFigure_43 (by decide) ?_
    exact ex_zret (pc := 44) dX4_isFigure_44 ⟨Or.inl rfl, rfl, by rw [ch_out (by omega)]; omega⟩ rfl (Nat.le_refl _)
  · refine ex_aload_n (pc := 11) dX4_isFigure_11 rfl ?_
    refine ex_getfield (pc := 12) dX4_isFigure_12 fk_X4_9 h_s (by rfl) ?_
    refine ex_aload_n (pc := 15) dX4_isFigure_15 rfl ?_
    refine ex_getfield (pc := 16) dX4_isFigure_16 fk_X4_27 h_s (by rfl) ?_
    refine ex_iaload (pc := 19) dX4_isFigure_19 h_l (by omega) (by omega) ?_
    have hk1 : ((at_ : Int)).toNat = at_ := by omega
    rw [hk1, ht at_ (by omega)]
    refine ex_bipush (pc := 20) dX4_isFigure_20 (by decide) ?_
    refine ex_icmp_lt (pc := 22) dX4_isFigure_22 (tgt := 43) (by decide) (fun c22 => ?_) (fun c22 => ?_)
    · refine ex_iconst (pc := 43) dX4_isFigure_43 (by decide) ?_
      exact ex_zret (pc := 44) dX4_isFigure_44 ⟨by omega, rfl, by rw [ch_in (by omega)]; omega⟩ rfl (Nat.le_refl _)
    · refine ex_aload_n (pc := 25) dX4_isFigure_25 rfl ?_
      refine ex_getfield (pc := 26) dX4_isFigure_26 fk_X4_9 h_s (by rfl) ?_
      refine ex_aload_n (pc := 29) dX4_isFigure_29 rfl ?_
      refine ex_getfield (pc := 30) dX4_isFigure_30 fk_X4_27 h_s (by rfl) ?_
      refine ex_iaload (pc := 33) dX4_isFigure_33 h_l (by omega) (by omega) ?_
      rw [hk1, ht at_ (by omega)]
      refine ex_bipush (pc := 34) dX4_isFigure_34 (by decide) ?_
      refine ex_icmp_gt (pc := 36) dX4_isFigure_36 (tgt := 43) (by decide) (fun c36 => ?_) (fun c36 => ?_)
      · refine ex_iconst (pc := 43) dX4_isFigure_43 (by decide) ?_
        exact ex_zret (pc := 44) dX4_isFigure_44 ⟨by omega, rfl, by rw [ch_in (by omega)]; omega⟩ rfl (Nat.le_refl _)
      · refine ex_iconst (pc := 39) dX4_isFigure_39 (by decide) ?_
        refine ex_goto (pc := 40) dX4_isFigure_40 (tgt := 44) (by decide) ?_
        exact ex_zret (pc := 44) dX4_isFigure_44 ⟨by omega, rfl, by rw [ch_in (by omega)]; omega⟩ rfl (Nat.le_refl _)

abbrev mX4_readNumber : xC := mkC yX4_readNumber cX4_readNumber 3 (some .int) 2 200 0 0
set_option maxHeartbeats 4000000 in
set_option maxRecDepth 100000 in
theorem tX4_readNumber {n : Nat} {w : xW} {s l at_ : Nat} {tx : List Int} {t : Nat → Int} (h_s : w s = xO 4 [xr l, xi tx.length, xi at_]) (h_l : w l = xA 200 t) (ht : Lst t tx) (hlen : tx.length ≤ 200) (hat : at_ ≤ 200) : Ctr mX4_readNumber [xr s] n w (pI (fun v w2 => v = (rdN tx at_).1 ∧ w2 = va_up w s (xO 4 [xr l, xi tx.length, xi (at_ + (rdN tx at_).2 : Nat)]))) := by
  refine Ctr.of ykX4_readNumber rfl (Nat.le_of_ble_eq_true rfl) okI (fun hin hW => ?_)
  have ne1 : l ≠ s := by rintro rfl; rw [h_l] at h_s; cases h_s
  show Ex _ _ 0 0 n w 0 [some (xr s), none, none] []
  refine ex_bipush (pc := 0) dX4_readNumber_0 (by decide) ?_
  refine ex_istore_n (L2 := [_, _, _]) (pc := 2) dX4_readNumber_2 rfl (Nat.le_of_ble_eq_true rfl) rfl ?_
  refine ex_iconst (pc := 3) dX4_readNumber_3 (by decide) ?_
  refine ex_istore_n (L2 := [_, _, _]) (pc := 4) dX4_readNumber_4 rfl (Nat.le_of_ble_eq_true rfl) rfl ?_
  refine ex_iload_n (pc := 5) dX4_readNumber_5 rfl ?_
  refine ex_iconst (pc := 6) dX4_readNumber_6 (by decide) ?_
  refine ex_icmp_ge (pc := 7) dX4_readNumber_7 (tgt := 55) (by decide) (fun c7 => by exfalso; omega) (fun c7 => ?_)
  refine ex_aload_n (pc := 10) dX4_readNumber_10 rfl ?_
  refine ex_callVZ (as := []) (pc := 11) dX4_readNumber_11 (tX4_isFigure h_s h_l ht hlen hat) lk_X4_63 ykX4_isFigure vkX4_isFigure h_s rfl rfl rfl (Nat.le_of_ble_eq_true rfl) ⟨by decide, by decide⟩ ⟨Nat.le_refl _, Nat.le_refl _⟩ (fun i11 w1 r11 p11 => ?_)
  obtain ⟨e11, pA⟩ := p11
  subst e11
  refine ex_if_eq (pc := 14) dX4_readNumber_14 (tgt := 55) (by decide) (fun c14 => ?_) (fun c14 => ?_)
  · refine ex_iload_n (pc := 55) dX4_readNumber_55 rfl ?_
    exact ex_iret (pc := 56) dX4_readNumber_56 ⟨by unfold rdN; rw [if_neg (by omega)], by unfold rdN; rw [if_neg (by omega)]; exact (up_self h_s).symm⟩ rfl (Nat.le_refl _)
  · refine ex_iload_n (pc := 17) dX4_readNumber_17 rfl ?_
    refine ex_iconst (pc := 18) dX4_readNumber_18 (by decide) ?_
    refine ex_max (pc := 19) dX4_readNumber_19 wl_X4_67 (by decide) (Nat.le_of_ble_eq_true rfl) (Nat.le_refl _) (Nat.le_refl _) ?_
    have hA := pA.mp (by omega)
    have hl0 : at_ < tx.length := ch_lt (by omega)
    refine ex_eq (x := 0) (by decide) ?_
    refine ex_bipush (pc := 22) dX4_readNumber_22 (by decide) ?_
    refine ex_imul (pc := 24) dX4_readNumber_24 (by unfold inI; omega) ?_
    refine ex_aload_n (pc := 25) dX4_readNumber_25 rfl ?_
    refine ex_getfield (pc := 26) dX4_readNumber_26 fk_X4_9 h_s (by rfl) ?_
    refine ex_aload_n (pc := 29) dX4_readNumber_29 rfl ?_
    refine ex_getfield (pc := 30) dX4_readNumber_30 fk_X4_27 h_s (by rfl) ?_
    refine ex_iaload (pc := 33) dX4_readNumber_33 h_l (by omega) (by omega) ?_
    have hk1 : ((at_ : Int)).toNat = at_ := by omega
    rw [hk1, ht at_ hl0, ← ch_in hl0]
    refine ex_iadd (pc := 34) dX4_readNumber_34 (by unfold inI; omega) ?_
    refine ex_bipush (pc := 35) dX4_readNumber_35 (by decide) ?_
    refine ex_isub (pc := 37) dX4_readNumber_37 (by unfold inI; omega) ?_
    refine ex_istore_n (L2 := [_, _, _]) (pc := 38) dX4_readNumber_38 rfl (Nat.le_of_ble_eq_true rfl) rfl ?_
    refine ex_aload_n (pc := 39) dX4_readNumber_39 rfl ?_
    refine ex_dup (pc := 40) dX4_readNumber_40 rfl ?_
    refine ex_getfield (pc := 41) dX4_readNumber_41 fk_X4_27 h_s (by rfl) ?_
    refine ex_iconst (pc := 44) dX4_readNumber_44 (by decide) ?_
    refine ex_iadd (pc := 45) dX4_readNumber_45 (by unfold inI; omega) ?_
    refine ex_putA (pc := 46) dX4_readNumber_46 fk_X4_27 (ty := tyX4 2) (fun _ _ _ h9 => by cases h9; exact ⟨tyX4_ok 2 (by decide), rfl⟩) h_s (Nat.le_of_ble_eq_true rfl) (fun _ => rfl) (fun _ => rfl) ?_
    refine ex_up (fun w1 e_w1 => ?_)
    have h1_s := (congrFun e_w1 s).trans up_s
    have h1_l := ((congrFun e_w1 l).trans (up_n (by first | assumption | decide | omega))).trans h_l
    refine ex_iinc (L2 := [_, _, _]) (pc := 49) dX4_readNumber_49 rfl rfl (Nat.le_of_ble_eq_true rfl) (by unfold inI; omega) rfl ?_
    refine ex_goto (pc := 52) dX4_readNumber_52 (tgt := 5) (by decide) ?_
    refine ex_iload_n (pc := 5) dX4_readNumber_5 rfl ?_
    refine ex_iconst (pc := 6) dX4_readNumber_6 (by decide) ?_
    refine ex_icmp_ge (pc := 7) dX4_readNumber_7 (tgt := 55) (by decide) (fun c7 => by exfalso; omega) (fun c7 => ?_)
    refine ex_aload_n (pc := 10) dX4_readNumber_10 rfl ?_
    refine ex_callVZ (as := []) (pc := 11) dX4_readNumber_11 (tX4_isFigure (at_ := at_ + 1) h1_s h1_l ht hlen (by omega)) lk_X4_63 ykX4_isFigure vkX4_isFigure h1_s rfl rfl rfl (Nat.le_of_ble_eq_true rfl) ⟨by decide, by decide⟩ ⟨Nat.le_refl _, Nat.le_refl _⟩ (fun i11 w2 r11 p11 => ?_)
    obtain ⟨e11, pB⟩ := p11
    subst e11
    refine ex_if_eq (pc := 14) dX4_readNumber_14 (tgt := 55) (by decide) (fun c14 => ?_) (fun c14 => ?_)
    · refine ex_iload_n (pc := 55) dX4_readNumber_55 rfl ?_
      have hA2 := pA.mp (by omega)
      exact ex_iret (pc := 56) dX4_readNumber_56 ⟨by unfold rdN; rw [if_pos hA2, if_neg (by omega)]; show _ = ch tx at_ - 48; omega, by unfold rdN; rw [if_pos hA2, if_neg (by omega)]; exact e_w1⟩ rfl (Nat.le_refl _)
    · refine ex_iload_n (pc := 17) dX4_readNumber_17 rfl ?_
      refine ex_iconst (pc := 18) dX4_readNumber_18 (by decide) ?_
      refine ex_max (pc := 19) dX4_readNumber_19 wl_X4_67 (by decide) (Nat.le_of_ble_eq_true rfl) (Nat.le_refl _) (Nat.le_refl _) ?_
      have hB := pB.mp (by omega)
      have hl1 : at_ + 1 < tx.length := ch_lt (by omega)
      refine ex_eq (if_neg (by omega)) ?_
      refine ex_bipush (pc := 22) dX4_readNumber_22 (by decide) ?_
      refine ex_imul (pc := 24) dX4_readNumber_24 (by unfold inI; omega) ?_
      refine ex_aload_n (pc := 25) dX4_readNumber_25 rfl ?_
      refine ex_getfield (pc := 26) dX4_readNumber_26 fk_X4_9 h1_s (by rfl) ?_
      refine ex_aload_n (pc := 29) dX4_readNumber_29 rfl ?_
      refine ex_getfield (pc := 30) dX4_readNumber_30 fk_X4_27 h1_s (by rfl) ?_
      refine ex_iaload (pc := 33) dX4_readNumber_33 h1_l (by omega) (by omega) ?_
      have hk2 : ((at_ : Int) + 1).toNat = at_ + 1 := by omega
      rw [hk2, ht (at_ + 1) hl1, ← ch_in hl1]
      refine ex_iadd (pc := 34) dX4_readNumber_34 (by unfold inI; omega) ?_
      refine ex_bipush (pc := 35) dX4_readNumber_35 (by decide) ?_
      refine ex_isub (pc := 37) dX4_readNumber_37 (by unfold inI; omega) ?_
      refine ex_istore_n (L2 := [_, _, _]) (pc := 38) dX4_readNumber_38 rfl (Nat.le_of_ble_eq_true rfl) rfl ?_
      refine ex_aload_n (pc := 39) dX4_readNumber_39 rfl ?_
      refine ex_dup (pc := 40) dX4_readNumber_40 rfl ?_
      refine ex_getfield (pc := 41) dX4_readNumber_41 fk_X4_27 h1_s (by rfl) ?_
      refine ex_iconst (pc := 44) dX4_readNumber_44 (by decide) ?_
      refine ex_iadd (pc := 45) dX4_readNumber_45 (by unfold inI; omega) ?_
      refine ex_putA (pc := 46) dX4_readNumber_46 fk_X4_27 (ty := tyX4 2) (fun _ _ _ h9 => by cases h9; exact ⟨tyX4_ok 2 (by decide), rfl⟩) h1_s (Nat.le_of_ble_eq_true rfl) (fun _ => rfl) (fun _ => rfl) ?_
      refine ex_up (fun w2 e_w2 => ?_)
      have h2_s := (congrFun e_w2 s).trans up_s
      have h2_l := ((congrFun e_w2 l).trans (up_n (by first | assumption | decide | omega))).trans h1_l
      refine ex_iinc (L2 := [_, _, _]) (pc := 49) dX4_readNumber_49 rfl rfl (Nat.le_of_ble_eq_true rfl) (by unfold inI; omega) rfl ?_
      refine ex_goto (pc := 52) dX4_readNumber_52 (tgt := 5) (by decide) ?_
      refine ex_iload_n (pc := 5) dX4_readNumber_5 rfl ?_
      refine ex_iconst (pc := 6) dX4_readNumber_6 (by decide) ?_
      refine ex_icmp_ge (pc := 7) dX4_readNumber_7 (tgt := 55) (by decide) (fun c7 => ?_) (fun c7 => by exfalso; omega)
      refine ex_iload_n (pc := 55) dX4_readNumber_55 rfl ?_
      exact ex_iret (pc := 56) dX4_readNumber_56 ⟨by unfold rdN; rw [if_pos hA, if_pos hB]; show _ = (ch tx at_ - 48) * 10 + (ch tx (at_ + 1) - 48); omega, by unfold rdN; rw [if_pos hA, if_pos hB]; rw [e_w2, e_w1]; exact up_up⟩ rfl (Nat.le_refl _)

abbrev mX4_append : xC := mkC yX4_append cX4_append 2 (some .boolean) 1 100 0 0
set_option maxHeartbeats 4000000 in
set_option maxRecDepth 100000 in
theorem tX4_append {n : Nat} {w : xW} {s l at_ : Nat} {tx : List Int} {t : Nat → Int} (h_s : w s = xO 4 [xr l, xi tx.length, xi at_]) (h_l : w l = xA 200 t) (ht : Lst t tx) (hlen : tx.length ≤ 200) (hat : at_ ≤ 200) {c : Int} : Ctr mX4_append [xr s, xi c] n w (pZ (fun v w2 => (tx.length < 200 → v = 1 ∧ w2 = va_up (va_up w l (xA 200 (va_up t tx.length c))) s (xO 4 [xr l, xi (tx.length + 1 : Nat), xi at_])) ∧ (¬ tx.length < 200 → v = 0 ∧ w2 = w))) := by
  refine Ctr.of ykX4_append rfl (Nat.le_of_ble_eq_true rfl) okZ (fun hin hW => ?_)
  have ne1 : l ≠ s := by rintro rfl; rw [h_l] at h_s; cases h_s
  have ne2 : s ≠ l := fun q => ne1 q.symm
  show Ex _ _ 0 0 n w 0 [some (xr s), some (xi c)] []
  refine ex_aload_n (pc := 0) dX4_append_0 rfl ?_
  refine ex_getfield (pc := 1) dX4_append_1 fk_X4_15 h_s (by rfl) ?_
  refine ex_sipush (pc := 4) dX4_append_4 (by decide) ?_
  refine ex_icmp_lt (pc := 7) dX4_append_7 (tgt := 12) (by decide) (fun c7 => ?_) (fun c7 => ?_)
  · refine ex_aload_n (pc := 12) dX4_append_12 rfl ?_
    refine ex_getfield (pc := 13) dX4_append_13 fk_X4_9 h_s (by rfl) ?_
    refine ex_aload_n (pc := 16) dX4_append_16 rfl ?_
    refine ex_getfield (pc := 17) dX4_append_17 fk_X4_15 h_s (by rfl) ?_
    refine ex_iload_n (pc := 20) dX4_append_20 rfl ?_
    refine ex_iastore (pc := 21) dX4_append_21 h_l (by omega) (by omega) ?_
    refine ex_up (fun w1 e_w1 => ?_)
    have h1_s := ((congrFun e_w1 s).trans (up_n (by first | assumption | decide | omega))).trans h_s
    have h1_l := (congrFun e_w1 l).trans up_s
    refine ex_aload_n (pc := 22) dX4_append_22 rfl ?_
    refine ex_dup (pc := 23) dX4_append_23 rfl ?_
    refine ex_getfield (pc := 24) dX4_append_24 fk_X4_15 h1_s (by rfl) ?_
    refine ex_iconst (pc := 27) dX4_append_27 (by decide) ?_
    refine ex_iadd (pc := 28) dX4_append_28 (by unfold inI; omega) ?_
    refine ex_putA (pc := 29) dX4_append_29 fk_X4_15 (ty := tyX4 1) (fun _ _ _ h9 => by cases h9; exact ⟨tyX4_ok 1 (by decide), rfl⟩) h1_s (Nat.le_of_ble_eq_true rfl) (fun _ => rfl) (fun _ => rfl) ?_
    refine ex_up (fun w2 e_w2 => ?_)
    have h2_s := (congrFun e_w2 s).trans up_s
    have h2_l := ((congrFun e_w2 l).trans (up_n (by first | assumption | decide | omega))).trans h1_l
    refine ex_iconst (pc := 32) dX4_append_32 (by decide) ?_
    exact ex_zret (pc := 33) dX4_append_33 ⟨Or.inr rfl, fun _ => ⟨rfl, by rw [e_w2, e_w1]; rfl⟩, fun q => by omega⟩ rfl (Nat.le_refl _)
  · refine ex_iconst (pc := 10) dX4_append_10 (by decide) ?_
    exact ex_zret (pc := 11) dX4_append_11 ⟨Or.inl rfl, fun q => by omega, fun _ => ⟨rfl, rfl⟩⟩ rfl (Nat.le_refl _)

set_option maxHeartbeats 4000000 in
set_option maxRecDepth 100000 in
theorem tX2_insertFull {n : Nat} {w : xW} {r a : Nat} {mo : Int} {f : Nat → Int} {c : Int} (h_r : w r = xO 2 [xr a, xi 14, xi mo]) : Ctr mX2_insert [xr r, xi c] n w (pI (fun v w2 => w2 = w ∧ v = -3)) := by
  refine Ctr.of ykX2_insert rfl (Nat.le_of_ble_eq_true rfl) okI (fun hin hW => ?_)
  show Ex _ _ 0 0 n w 0 [some (xr r), some (xi c), none] []
  refine ex_aload_n (pc := 0) dX2_insert_0 rfl ?_
  refine ex_getfield (pc := 1) dX2_insert_1 fk_X2_15 h_r (by rfl) ?_
  refine ex_bipush (pc := 4) dX2_insert_4 (by decide) ?_
  refine ex_icmp_lt (pc := 6) dX2_insert_6 (tgt := 12) (by decide) (fun c6 => by exfalso; omega) (fun c6 => ?_)
  refine ex_bipush (pc := 9) dX2_insert_9 (by decide) ?_
  exact ex_iret (pc := 11) dX2_insert_11 ⟨rfl, rfl⟩ rfl (Nat.le_refl _)

def ScAt (w : xW) (s l : Nat) (tx : List Int) (at_ : Nat) : Prop := ∃ t, w s = xO 4 [xr l, xi tx.length, xi at_] ∧ w l = xA 200 t ∧ Lst t tx ∧ tx.length ≤ 200
theorem ScAt.ne {w : xW} {s l : Nat} {tx : List Int} {at_ : Nat} (h : ScAt w s l tx at_) : l ≠ s := by
  obtain ⟨t, q1, q2, -⟩ := h
  rintro rfl
  rw [q2] at q1; cases q1
theorem ScAt.put {w : xW} {s l : Nat} {tx : List Int} {at_ : Nat} (h : ScAt w s l tx at_) {b : Nat} : ScAt (va_up w s (xO 4 [xr l, xi tx.length, xi b])) s l tx b := by
  have ne := h.ne
  obtain ⟨t, q1, q2, q3, q4⟩ := h
  exact ⟨t, up_s, (up_n ne).trans q2, q3, q4⟩
theorem ScAt.fr {w w2 : xW} {s l : Nat} {tx : List Int} {at_ : Nat} (h : ScAt w s l tx at_) (h1 : w2 s = w s) (h2 : w2 l = w l) : ScAt w2 s l tx at_ := by
  obtain ⟨t, q1, q2, q3⟩ := h
  exact ⟨t, h1.trans q1, h2.trans q2, q3⟩
theorem PcAt.neS {w : xW} {r a s l : Nat} {cs : List Int} {mo : Int} {tx : List Int} {at_ : Nat} (h : PcAt w r a cs mo) (h2 : ScAt w s l tx at_) : r ≠ s ∧ a ≠ s ∧ r ≠ l := by
  obtain ⟨f, q1, q2, -⟩ := h
  obtain ⟨t, q3, q4, -⟩ := h2
  refine ⟨?_, ?_, ?_⟩ <;> rintro rfl
  · rw [q1] at q3; cases q3
  · rw [q2] at q3; cases q3
  · rw [q1] at q4; cases q4
/-- a number and the sign behind it -/
def numS (tx : List Int) (i : Nat) (sign : Int) : Option (Int × Nat) := if 0 < (rdN tx i).2 ∧ ch tx (i + (rdN tx i).2) = sign then some ((rdN tx i).1, i + (rdN tx i).2 + 1) else none
def noteS (tx : List Int) (i : Nat) : Option (Int × Nat) := match numS tx i 44 with
  | none => none
  | some (tm, j) => if 19 < tm then none else match numS tx j 59 with
    | none => none
    | some (pt, j2) => if 11 < pt then none else some (tm * 12 + pt, j2)
def mannS (tx : List Int) (i : Nat) : Option (Int × Nat) := match numS tx i 59 with
  | none => none
  | some (m, j) => if 2 < m then none else some (m, j)
theorem rdN_cases (tx : List Int) (i : Nat) : ((rdN tx i).2 = 0 ∧ (rdN tx i).1 = -4) ∨ ((rdN tx i).2 ≥ 1 ∧ (rdN tx i).2 ≤ 2 ∧ 0 ≤ (rdN tx i).1 ∧ (rdN tx i).1 ≤ 99 ∧ i + (rdN tx i).2 ≤ tx.length) := by
  unfold rdN
  split
  · rename_i h
    have h1 : i < tx.length := ch_lt (by omega)
    split
    · rename_i h2
      have h3 : i + 1 < tx.length := ch_lt (by omega)
      right
      refine ⟨?_, ?_, ?_, ?_, ?_⟩ <;> simp only <;> omega
    · right
      refine ⟨?_, ?_, ?_, ?_, ?_⟩ <;> simp only <;> omega
  · left; exact ⟨rfl, rfl⟩
