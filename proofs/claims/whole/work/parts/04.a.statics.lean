theorem zz1 {P : Prop} (h : P) : (((1 : Int) = 0 ∨ (1 : Int) = 1) ∧ ((1 : Int) = 1 ↔ P)) := ⟨Or.inr rfl, fun _ => h, fun _ => rfl⟩
abbrev mX6_isWithin : xC := mkC yX6_isWithin cX6_isWithin 2 (some .boolean) 1 100 0 0
set_option maxHeartbeats 4000000 in
set_option maxRecDepth 100000 in
theorem tX6_isWithin {n : Nat} {w : xW} {a b : Int} : Ctr mX6_isWithin [xi a, xi b] n w (pZ (fun v w2 => w2 = w ∧ (v = 1 ↔ 0 ≤ a ∧ a < 20 ∧ 0 ≤ b ∧ b < 12))) := by
  refine Ctr.of ykX6_isWithin rfl (Nat.le_of_ble_eq_true rfl) okZ (fun hin hW => ?_)
  show Ex _ _ 0 0 n w 0 [some (xi a), some (xi b)] []
  refine ex_iload_n (pc := 0) dX6_isWithin_0 rfl ?_
  refine ex_if_lt (pc := 1) dX6_isWithin_1 (tgt := 24) (by decide) (fun c1 => ?_) (fun c1 => ?_)
  · refine ex_iconst (pc := 24) dX6_isWithin_24 (by decide) ?_
    exact ex_zret (pc := 25) dX6_isWithin_25 ⟨by omega, rfl, by omega⟩ rfl (Nat.le_refl _)
  · refine ex_iload_n (pc := 4) dX6_isWithin_4 rfl ?_
    refine ex_bipush (pc := 5) dX6_isWithin_5 (by decide) ?_
    refine ex_icmp_ge (pc := 7) dX6_isWithin_7 (tgt := 24) (by decide) (fun c7 => ?_) (fun c7 => ?_)
    · refine ex_iconst (pc := 24) dX6_isWithin_24 (by decide) ?_
      exact ex_zret (pc := 25) dX6_isWithin_25 ⟨by omega, rfl, by omega⟩ rfl (Nat.le_refl _)
    · refine ex_iload_n (pc := 10) dX6_isWithin_10 rfl ?_
      refine ex_if_lt (pc := 11) dX6_isWithin_11 (tgt := 24) (by decide) (fun c11 => ?_) (fun c11 => ?_)
      · refine ex_iconst (pc := 24) dX6_isWithin_24 (by decide) ?_
        exact ex_zret (pc := 25) dX6_isWithin_25 ⟨by omega, rfl, by omega⟩ rfl (Nat.le_refl _)
      · refine ex_iload_n (pc := 14) dX6_isWithin_14 rfl ?_
        refine ex_bipush (pc := 15) dX6_isWithin_15 (by decide) ?_
        refine ex_icmp_ge (pc := 17) dX6_isWithin_17 (tgt := 24) (by decide) (fun c17 => ?_) (fun c17 => ?_)
        · refine ex_iconst (pc := 24) dX6_isWithin_24 (by decide) ?_
          exact ex_zret (pc := 25) dX6_isWithin_25 ⟨by omega, rfl, by omega⟩ rfl (Nat.le_refl _)
        · refine ex_iconst (pc := 20) dX6_isWithin_20 (by decide) ?_
          refine ex_goto (pc := 21) dX6_isWithin_21 (tgt := 25) (by decide) ?_
          exact ex_zret (pc := 25) dX6_isWithin_25 ⟨by omega, rfl, by omega⟩ rfl (Nat.le_refl _)

abbrev mX6_codeOf : xC := mkC yX6_codeOf cX6_codeOf 2 (some .int) 1 100 0 0
set_option maxHeartbeats 4000000 in
set_option maxRecDepth 100000 in
theorem tX6_codeOf {n : Nat} {w : xW} {a b : Int} (h : -100000 ≤ a ∧ a ≤ 100000 ∧ -100000 ≤ b ∧ b ≤ 100000) : Ctr mX6_codeOf [xi a, xi b] n w (pI (fun v w2 => w2 = w ∧ v = a * 12 + b)) := by
  refine Ctr.of ykX6_codeOf rfl (Nat.le_of_ble_eq_true rfl) okI (fun hin hW => ?_)
  show Ex _ _ 0 0 n w 0 [some (xi a), some (xi b)] []
  refine ex_iload_n (pc := 0) dX6_codeOf_0 rfl ?_
  refine ex_bipush (pc := 1) dX6_codeOf_1 (by decide) ?_
  refine ex_imul (pc := 3) dX6_codeOf_3 (by unfold inI; omega) ?_
  refine ex_iload_n (pc := 4) dX6_codeOf_4 rfl ?_
  refine ex_iadd (pc := 5) dX6_codeOf_5 (by unfold inI; omega) ?_
  exact ex_iret (pc := 6) dX6_codeOf_6 ⟨rfl, rfl⟩ rfl (Nat.le_refl _)

abbrev mX5_has : xC := mkC yX5_has cX5_has 2 (some .boolean) 1 100 0 0
set_option maxHeartbeats 4000000 in
set_option maxRecDepth 100000 in
theorem tX5_has {n : Nat} {w : xW} {a q : Nat} (ha : a < 2 ^ 31) (hn : q < 31) : Ctr mX5_has [xi a, xi q] n w (pZ (fun v w2 => w2 = w ∧ (v = 1 ↔ a.testBit q = true))) := by
  refine Ctr.of ykX5_has rfl (Nat.le_of_ble_eq_true rfl) okZ (fun hin hW => ?_)
  show Ex _ _ 0 0 n w 0 [some (xi a), some (xi q)] []
  refine ex_iload_n (pc := 0) dX5_has_0 rfl ?_
  refine ex_iload_n (pc := 1) dX5_has_1 rfl ?_
  refine ex_ishr (pc := 2) dX5_has_2 ?_
  refine ex_iconst (pc := 3) dX5_has_3 (by decide) ?_
  refine ex_iand (pc := 4) dX5_has_4 ?_
  refine ex_eq (xhas_n ha hn) ?_
  refine ex_if_eq (pc := 5) dX5_has_5 (tgt := 12) (by decide) (fun c5 => ?_) (fun c5 => ?_)
  · refine ex_iconst (pc := 12) dX5_has_12 (by decide) ?_
    exact ex_zret (pc := 13) dX5_has_13 ⟨by omega, rfl, by by_cases hb : a.testBit q <;> simp_all⟩ rfl (Nat.le_refl _)
  · refine ex_iconst (pc := 8) dX5_has_8 (by decide) ?_
    refine ex_goto (pc := 9) dX5_has_9 (tgt := 13) (by decide) ?_
    exact ex_zret (pc := 13) dX5_has_13 ⟨by omega, rfl, by by_cases hb : a.testBit q <;> simp_all⟩ rfl (Nat.le_refl _)

abbrev mX7_has : xC := mkC yX7_has cX7_has 2 (some .boolean) 1 100 0 0
set_option maxHeartbeats 4000000 in
set_option maxRecDepth 100000 in
theorem tX7_has {n : Nat} {w : xW} {a q : Nat} (ha : a < 2 ^ 31) (hn : q < 31) : Ctr mX7_has [xi a, xi q] n w (pZ (fun v w2 => w2 = w ∧ (v = 1 ↔ a.testBit q = true))) := by
  refine Ctr.of ykX7_has rfl (Nat.le_of_ble_eq_true rfl) okZ (fun hin hW => ?_)
  show Ex _ _ 0 0 n w 0 [some (xi a), some (xi q)] []
  refine ex_iload_n (pc := 0) dX7_has_0 rfl ?_
  refine ex_iload_n (pc := 1) dX7_has_1 rfl ?_
  refine ex_ishr (pc := 2) dX7_has_2 ?_
  refine ex_iconst (pc := 3) dX7_has_3 (by decide) ?_
  refine ex_iand (pc := 4) dX7_has_4 ?_
  refine ex_eq (xhas_n ha hn) ?_
  refine ex_iconst (pc := 5) dX7_has_5 (by decide) ?_
  refine ex_icmp_ne (pc := 6) dX7_has_6 (tgt := 13) (by decide) (fun c6 => ?_) (fun c6 => ?_)
  · refine ex_iconst (pc := 13) dX7_has_13 (by decide) ?_
    exact ex_zret (pc := 14) dX7_has_14 ⟨by omega, rfl, by by_cases hb : a.testBit q <;> simp_all⟩ rfl (Nat.le_refl _)
  · refine ex_iconst (pc := 9) dX7_has_9 (by decide) ?_
    refine ex_goto (pc := 10) dX7_has_10 (tgt := 14) (by decide) ?_
    exact ex_zret (pc := 14) dX7_has_14 ⟨by omega, rfl, by by_cases hb : a.testBit q <;> simp_all⟩ rfl (Nat.le_refl _)

abbrev mX5_hasTwo : xC := mkC yX5_hasTwo cX5_hasTwo 1 (some .boolean) 1 100 0 0
set_option maxHeartbeats 4000000 in
set_option maxRecDepth 100000 in
theorem tX5_hasTwo {n : Nat} {w : xW} {a : Nat} (ha : a < 2 ^ 31) : Ctr mX5_hasTwo [xi a] n w (pZ (fun v w2 => w2 = w ∧ (v = 1 ↔ a &&& (a - 1) ≠ 0))) := by
  refine Ctr.of ykX5_hasTwo rfl (Nat.le_of_ble_eq_true rfl) okZ (fun hin hW => ?_)
  show Ex _ _ 0 0 n w 0 [some (xi a)] []
  refine ex_iload_n (pc := 0) dX5_hasTwo_0 rfl ?_
  refine ex_iload_n (pc := 1) dX5_hasTwo_1 rfl ?_
  refine ex_iconst (pc := 2) dX5_hasTwo_2 (by decide) ?_
  refine ex_isub (pc := 3) dX5_hasTwo_3 (by unfold inI; omega) ?_
  refine ex_iand (pc := 4) dX5_hasTwo_4 ?_
  refine ex_eq (xtwo_n ha) ?_
  refine ex_if_eq (pc := 5) dX5_hasTwo_5 (tgt := 12) (by decide) (fun c5 => ?_) (fun c5 => ?_)
  · refine ex_iconst (pc := 12) dX5_hasTwo_12 (by decide) ?_
    exact ex_zret (pc := 13) dX5_hasTwo_13 ⟨by omega, rfl, by omega⟩ rfl (Nat.le_refl _)
  · refine ex_iconst (pc := 8) dX5_hasTwo_8 (by decide) ?_
    refine ex_goto (pc := 9) dX5_hasTwo_9 (tgt := 13) (by decide) ?_
    exact ex_zret (pc := 13) dX5_hasTwo_13 ⟨by omega, rfl, by omega⟩ rfl (Nat.le_refl _)

abbrev mX5_shiftOf : xC := mkC yX5_shiftOf cX5_shiftOf 2 (some .int) 1 100 0 0
set_option maxHeartbeats 4000000 in
set_option maxRecDepth 100000 in
theorem tX5_shiftOf {n : Nat} {w : xW} {a b : Int} (h : -1000 ≤ a ∧ a ≤ 1000 ∧ -1000 ≤ b ∧ b ≤ 1000) : Ctr mX5_shiftOf [xi a, xi b] n w (pI (fun v w2 => w2 = w ∧ v = (a + 19) * 23 + b + 11)) := by
  refine Ctr.of ykX5_shiftOf rfl (Nat.le_of_ble_eq_true rfl) okI (fun hin hW => ?_)
  show Ex _ _ 0 0 n w 0 [some (xi a), some (xi b)] []
  refine ex_iload_n (pc := 0) dX5_shiftOf_0 rfl ?_
  refine ex_bipush (pc := 1) dX5_shiftOf_1 (by decide) ?_
  refine ex_iadd (pc := 3) dX5_shiftOf_3 (by unfold inI; omega) ?_
  refine ex_bipush (pc := 4) dX5_shiftOf_4 (by decide) ?_
  refine ex_imul (pc := 6) dX5_shiftOf_6 (by unfold inI; omega) ?_
  refine ex_iload_n (pc := 7) dX5_shiftOf_7 rfl ?_
  refine ex_iadd (pc := 8) dX5_shiftOf_8 (by unfold inI; omega) ?_
  refine ex_bipush (pc := 9) dX5_shiftOf_9 (by decide) ?_
  refine ex_iadd (pc := 11) dX5_shiftOf_11 (by unfold inI; omega) ?_
  exact ex_iret (pc := 12) dX5_shiftOf_12 ⟨rfl, rfl⟩ rfl (Nat.le_refl _)

abbrev mX5_timePart : xC := mkC yX5_timePart cX5_timePart 1 (some .int) 1 100 0 0
set_option maxHeartbeats 4000000 in
set_option maxRecDepth 100000 in
theorem tX5_timePart {n : Nat} {w : xW} {a : Int} (h : 0 ≤ a ∧ a ≤ 100000) : Ctr mX5_timePart [xi a] n w (pI (fun v w2 => w2 = w ∧ v = a / 23 - 19)) := by
  refine Ctr.of ykX5_timePart rfl (Nat.le_of_ble_eq_true rfl) okI (fun hin hW => ?_)
  show Ex _ _ 0 0 n w 0 [some (xi a)] []
  refine ex_iload_n (pc := 0) dX5_timePart_0 rfl ?_
  refine ex_bipush (pc := 1) dX5_timePart_1 (by decide) ?_
  refine ex_idiv (pc := 3) dX5_timePart_3 (by omega) (by omega) ?_
  refine ex_bipush (pc := 4) dX5_timePart_4 (by decide) ?_
  refine ex_isub (pc := 6) dX5_timePart_6 (by unfold inI; omega) ?_
  exact ex_iret (pc := 7) dX5_timePart_7 ⟨rfl, rfl⟩ rfl (Nat.le_refl _)

abbrev mX5_pitchPart : xC := mkC yX5_pitchPart cX5_pitchPart 1 (some .int) 1 100 0 0
set_option maxHeartbeats 4000000 in
set_option maxRecDepth 100000 in
theorem tX5_pitchPart {n : Nat} {w : xW} {a : Int} (h : 0 ≤ a ∧ a ≤ 100000) : Ctr mX5_pitchPart [xi a] n w (pI (fun v w2 => w2 = w ∧ v = a % 23 - 11)) := by
  refine Ctr.of ykX5_pitchPart rfl (Nat.le_of_ble_eq_true rfl) okI (fun hin hW => ?_)
  show Ex _ _ 0 0 n w 0 [some (xi a)] []
  refine ex_iload_n (pc := 0) dX5_pitchPart_0 rfl ?_
  refine ex_bipush (pc := 1) dX5_pitchPart_1 (by decide) ?_
  refine ex_irem (pc := 3) dX5_pitchPart_3 (by omega) (by omega) ?_
  refine ex_bipush (pc := 4) dX5_pitchPart_4 (by decide) ?_
  refine ex_isub (pc := 6) dX5_pitchPart_6 (by unfold inI; omega) ?_
  exact ex_iret (pc := 7) dX5_pitchPart_7 ⟨rfl, rfl⟩ rfl (Nat.le_refl _)

abbrev mX5_isHeld : xC := mkC yX5_isHeld cX5_isHeld 2 (some .boolean) 1 100 0 0
set_option maxHeartbeats 4000000 in
set_option maxRecDepth 100000 in
theorem tX5_isHeld {n : Nat} {w : xW} {a b : Int} : Ctr mX5_isHeld [xi a, xi b] n w (pZ (fun v w2 => w2 = w ∧ (v = 1 ↔ -19 ≤ a ∧ a ≤ 19 ∧ -11 ≤ b ∧ b ≤ 11))) := by
  refine Ctr.of ykX5_isHeld rfl (Nat.le_of_ble_eq_true rfl) okZ (fun hin hW => ?_)
  show Ex _ _ 0 0 n w 0 [some (xi a), some (xi b)] []
  refine ex_iload_n (pc := 0) dX5_isHeld_0 rfl ?_
  refine ex_bipush (pc := 1) dX5_isHeld_1 (by decide) ?_
  refine ex_icmp_lt (pc := 3) dX5_isHeld_3 (tgt := 28) (by decide) (fun c3 => ?_) (fun c3 => ?_)
  · refine ex_iconst (pc := 28) dX5_isHeld_28 (by decide) ?_
    exact ex_zret (pc := 29) dX5_isHeld_29 ⟨by omega, rfl, by omega⟩ rfl (Nat.le_refl _)
  · refine ex_iload_n (pc := 6) dX5_isHeld_6 rfl ?_
    refine ex_bipush (pc := 7) dX5_isHeld_7 (by decide) ?_
    refine ex_icmp_gt (pc := 9) dX5_isHeld_9 (tgt := 28) (by decide) (fun c9 => ?_) (fun c9 => ?_)
    · refine ex_iconst (pc := 28) dX5_isHeld_28 (by decide) ?_
      exact ex_zret (pc := 29) dX5_isHeld_29 ⟨by omega, rfl, by omega⟩ rfl (Nat.le_refl _)
    · refine ex_iload_n (pc := 12) dX5_isHeld_12 rfl ?_
      refine ex_bipush (pc := 13) dX5_isHeld_13 (by decide) ?_
      refine ex_icmp_lt (pc := 15) dX5_isHeld_15 (tgt := 28) (by decide) (fun c15 => ?_) (fun c15 => ?_)
      · refine ex_iconst (pc := 28) dX5_isHeld_28 (by decide) ?_
        exact ex_zret (pc := 29) dX5_isHeld_29 ⟨by omega, rfl, by omega⟩ rfl (Nat.le_refl _)
      · refine ex_iload_n (pc := 18) dX5_isHeld_18 rfl ?_
        refine ex_bipush (pc := 19) dX5_isHeld_19 (by decide) ?_
        refine ex_icmp_gt (pc := 21) dX5_isHeld_21 (tgt := 28) (by decide) (fun c21 => ?_) (fun c21 => ?_)
        · refine ex_iconst (pc := 28) dX5_isHeld_28 (by decide) ?_
          exact ex_zret (pc := 29) dX5_isHeld_29 ⟨by omega, rfl, by omega⟩ rfl (Nat.le_refl _)
        · refine ex_iconst (pc := 24) dX5_isHeld_24 (by decide) ?_
          refine ex_goto (pc := 25) dX5_isHeld_25 (tgt := 29) (by decide) ?_
          exact ex_zret (pc := 29) dX5_isHeld_29 ⟨by omega, rfl, by omega⟩ rfl (Nat.le_refl _)

abbrev mX7_in : xC := mkC yX7_in cX7_in 3 (some .boolean) 1 100 0 0
set_option maxHeartbeats 4000000 in
set_option maxRecDepth 100000 in
theorem tX7_in {n : Nat} {w : xW} {a b c : Int} : Ctr mX7_in [xi a, xi b, xi c] n w (pZ (fun v w2 => w2 = w ∧ (v = 1 ↔ b ≤ a ∧ a ≤ c))) := by
  refine Ctr.of ykX7_in rfl (Nat.le_of_ble_eq_true rfl) okZ (fun hin hW => ?_)
  show Ex _ _ 0 0 n w 0 [some (xi a), some (xi b), some (xi c)] []
  refine ex_iload_n (pc := 0) dX7_in_0 rfl ?_
  refine ex_iload_n (pc := 1) dX7_in_1 rfl ?_
  refine ex_icmp_lt (pc := 2) dX7_in_2 (tgt := 14) (by decide) (fun c2 => ?_) (fun c2 => ?_)
  · refine ex_iconst (pc := 14) dX7_in_14 (by decide) ?_
    exact ex_zret (pc := 15) dX7_in_15 ⟨by omega, rfl, by omega⟩ rfl (Nat.le_refl _)
  · refine ex_iload_n (pc := 5) dX7_in_5 rfl ?_
    refine ex_iload_n (pc := 6) dX7_in_6 rfl ?_
    refine ex_icmp_gt (pc := 7) dX7_in_7 (tgt := 14) (by decide) (fun c7 => ?_) (fun c7 => ?_)
    · refine ex_iconst (pc := 14) dX7_in_14 (by decide) ?_
      exact ex_zret (pc := 15) dX7_in_15 ⟨by omega, rfl, by omega⟩ rfl (Nat.le_refl _)
    · refine ex_iconst (pc := 10) dX7_in_10 (by decide) ?_
      refine ex_goto (pc := 11) dX7_in_11 (tgt := 15) (by decide) ?_
      exact ex_zret (pc := 15) dX7_in_15 ⟨by omega, rfl, by omega⟩ rfl (Nat.le_refl _)

abbrev mX7_isThere : xC := mkC yX7_isThere cX7_isThere 2 (some .boolean) 2 200 0 0
set_option maxHeartbeats 4000000 in
set_option maxRecDepth 100000 in
theorem tX7_isThere {n : Nat} {w : xW} {a b : Int} : Ctr mX7_isThere [xi a, xi b] n w (pZ (fun v w2 => w2 = w ∧ (v = 1 ↔ 0 ≤ a ∧ a < 20 ∧ 0 ≤ b ∧ b < 12))) := by
  refine Ctr.of ykX7_isThere rfl (Nat.le_of_ble_eq_true rfl) okZ (fun hin hW => ?_)
  show Ex _ _ 0 0 n w 0 [some (xi a), some (xi b)] []
  refine ex_iload_n (pc := 0) dX7_isThere_0 rfl ?_
  refine ex_iconst (pc := 1) dX7_isThere_1 (by decide) ?_
  refine ex_bipush (pc := 2) dX7_isThere_2 (by decide) ?_
  refine ex_callSZ (as := [_, _, _]) (pc := 4) dX7_isThere_4 (tX7_in) lk_X7_68 ykX7_in zkX7_in rfl rfl (Nat.le_of_ble_eq_true rfl) ⟨by decide, by decide⟩ ⟨Nat.le_refl _, Nat.le_refl _⟩ (fun i4 w1 r4 p4 => ?_)
  obtain ⟨e4, p4⟩ := p4
  subst e4
  refine ex_if_eq (pc := 7) dX7_isThere_7 (tgt := 24) (by decide) (fun c7 => ?_) (fun c7 => ?_)
  · refine ex_iconst (pc := 24) dX7_isThere_24 (by decide) ?_
    exact ex_zret (pc := 25) dX7_isThere_25 ⟨by omega, rfl, by omega⟩ rfl (Nat.le_refl _)
  · refine ex_iload_n (pc := 10) dX7_isThere_10 rfl ?_
    refine ex_iconst (pc := 11) dX7_isThere_11 (by decide) ?_
    refine ex_bipush (pc := 12) dX7_isThere_12 (by decide) ?_
    refine ex_callSZ (as := [_, _, _]) (pc := 14) dX7_isThere_14 (tX7_in) lk_X7_68 ykX7_in zkX7_in rfl rfl (Nat.le_of_ble_eq_true rfl) ⟨by decide, by decide⟩ ⟨Nat.le_refl _, Nat.le_refl _⟩ (fun i14 w1 r14 p14 => ?_)
    obtain ⟨e14, p14⟩ := p14
    subst e14
    refine ex_if_eq (pc := 17) dX7_isThere_17 (tgt := 24) (by decide) (fun c17 => ?_) (fun c17 => ?_)
    · refine ex_iconst (pc := 24) dX7_isThere_24 (by decide) ?_
      exact ex_zret (pc := 25) dX7_isThere_25 ⟨by omega, rfl, by omega⟩ rfl (Nat.le_refl _)
    · refine ex_iconst (pc := 20) dX7_isThere_20 (by decide) ?_
      refine ex_goto (pc := 21) dX7_isThere_21 (tgt := 25) (by decide) ?_
      exact ex_zret (pc := 25) dX7_isThere_25 ⟨by omega, rfl, by omega⟩ rfl (Nat.le_refl _)

abbrev mX7_allOf : xC := mkC yX7_allOf cX7_allOf 1 (some .int) 1 100 0 0
set_option maxHeartbeats 4000000 in
set_option maxRecDepth 100000 in
theorem tX7_allOf {n : Nat} {w : xW} {a sz N : Nat} {f : Nat → Int} (h_a : w a = xA N f) (hN : 1 ≤ N) (hsz : f 0 = sz) (hle : sz ≤ 14) : Ctr mX7_allOf [xr a] n w (pI (fun v w2 => w2 = w ∧ v = ((2 ^ sz - 1 : Nat) : Int))) := by
  refine Ctr.of ykX7_allOf rfl (Nat.le_of_ble_eq_true rfl) okI (fun hin hW => ?_)
  show Ex _ _ 0 0 n w 0 [some (xr a)] []
  refine ex_iconst (pc := 0) dX7_allOf_0 (by decide) ?_
  refine ex_aload_n (pc := 1) dX7_allOf_1 rfl ?_
  refine ex_iconst (pc := 2) dX7_allOf_2 (by decide) ?_
  refine ex_iaload (pc := 3) dX7_allOf_3 h_a (by omega) (by omega) ?_
  refine ex_ishl (pc := 4) dX7_allOf_4 ?_
  have e0 : (0 : Int).toNat = 0 := rfl
  rw [e0, hsz]
  refine ex_eq (xshl_n sz (by omega)) ?_
  have hp := two14 hle
  have hp1 : 1 ≤ 2 ^ sz := Nat.one_le_two_pow
  generalize hz : 2 ^ sz = z at hp hp1 ⊢
  refine ex_iconst (pc := 5) dX7_allOf_5 (by decide) ?_
  refine ex_isub (pc := 6) dX7_allOf_6 (by unfold inI; omega) ?_
  exact ex_iret (pc := 7) dX7_allOf_7 ⟨rfl, by omega⟩ rfl (Nat.le_refl _)

abbrev mX7_bits : xC := mkC yX7_bits cX7_bits 3 (some .int) 1 100 0 0
theorem pc_le (a : Nat) : pc14 a ≤ 14 := by unfold pc14; omega
set_option maxHeartbeats 4000000 in
set_option maxRecDepth 100000 in
theorem tX7_bits {n : Nat} {w : xW} {a : Nat} (ha : a < 16384) : Ctr mX7_bits [xi a] n w (pI (fun v w2 => w2 = w ∧ v = pc14 a)) := by
  refine Ctr.of ykX7_bits rfl (Nat.le_of_ble_eq_true rfl) okI (fun hin hW => ?_)
  show Ex _ _ 0 0 n w 0 [some (xi a), none, none] []
  have loop : ∀ (d c b : Nat), b < 16384 → c + pc14 b = pc14 a → pc14 b + 1 ≤ d → Ex mX7_bits (pI (fun v w2 => w2 = w ∧ v = pc14 a)) 0 0 n w 4 [some (xi a), some (xi c), some (xi b)] [] := by
    intro d
    induction d with
    | zero => intro c b h1 h2 h3; omega
    | succ d ih =>
      intro c b hb hc hd
      refine ex_iload_n (pc := 4) dX7_bits_4 rfl ?_
      refine ex_if_eq (pc := 5) dX7_bits_5 (tgt := 20) (by decide) (fun c5 => ?_) (fun c5 => ?_)
      · have hb0 : b = 0 := by omega
        subst hb0
        have hp0 : pc14 0 = 0 := rfl
        refine ex_iload_n (pc := 20) dX7_bits_20 rfl ?_
        exact ex_iret (pc := 21) dX7_bits_21 ⟨rfl, by omega⟩ rfl (Nat.le_refl _)
      · have hb0 : b ≠ 0 := by omega
        have hlow := ((pc_low hb).1.resolve_left hb0)
        have hc1 : c + 1 + pc14 (b &&& (b - 1)) = pc14 a := by omega
        have hpl : pc14 a ≤ 14 := pc_le a
        refine ex_iinc (L2 := [_, _, _]) (pc := 8) dX7_bits_8 rfl rfl (Nat.le_of_ble_eq_true rfl) (by unfold inI; omega) rfl ?_
        refine ex_iload_n (pc := 11) dX7_bits_11 rfl ?_
        refine ex_iload_n (pc := 12) dX7_bits_12 rfl ?_
        refine ex_iconst (pc := 13) dX7_bits_13 (by decide) ?_
        refine ex_isub (pc := 14) dX7_bits_14 (by unfold inI; omega) ?_
        refine ex_iand (pc := 15) dX7_bits_15 ?_
        refine ex_eq (xtwo_n (by omega)) ?_
        refine ex_istore_n (L2 := [_, _, _]) (pc := 16) dX7_bits_16 rfl (Nat.le_of_ble_eq_true rfl) rfl ?_
        refine ex_goto (pc := 17) dX7_bits_17 (tgt := 4) (by decide) ?_
        exact ih (c + 1) (b &&& (b - 1)) (Nat.lt_of_le_of_lt Nat.and_le_left hb) hc1 (by omega)
  refine ex_iconst (pc := 0) dX7_bits_0 (by decide) ?_
  refine ex_istore_n (L2 := [_, _, _]) (pc := 1) dX7_bits_1 rfl (Nat.le_of_ble_eq_true rfl) rfl ?_
  refine ex_iload_n (pc := 2) dX7_bits_2 rfl ?_
  refine ex_istore_n (L2 := [_, _, _]) (pc := 3) dX7_bits_3 rfl (Nat.le_of_ble_eq_true rfl) rfl ?_
  exact loop (pc14 a + 1) 0 a ha (by omega) (by omega)

abbrev mJ7_fill_53178 : xC := mkC yJ7_fill_53178 cJ7_fill_53178 4 none 1 100 0 0
set_option maxHeartbeats 4000000 in
set_option maxRecDepth 100000 in
theorem tJ7_fill_53178 {n : Nat} {W : xW} {a N : Nat} {f : Nat → Int} {c : Int} (h_a : W a = xA N f) (hN : N ≤ 100000) : Ctr mJ7_fill_53178 [xr a, xi c] n W (pV (fun w2 => w2 = va_up W a (xA N (fun i => if i < N then c else f i)))) := by
  refine Ctr.of ykJ7_fill_53178 rfl (Nat.le_of_ble_eq_true rfl) okV (fun hin hW => ?_)
  show Ex _ _ 0 0 n W 0 [some (xr a), some (xi c), none, none] []
  have loop : ∀ (d k : Nat), k ≤ N → N + 1 ≤ k + d → ∀ (w : xW) (g : Nat → Int), (∀ i, g i = if i < k then c else f i) → w a = xA N g → (∀ q, q ≠ a → w q = W q) → Ex mJ7_fill_53178 (pV (fun w2 => w2 = va_up W a (xA N (fun i => if i < N then c else f i)))) 0 0 n w 5 [some (xr a), some (xi c), some (xi k), some (xi N)] [] := by
    intro d
    induction d with
    | zero => intro k h1 h2; omega
    | succ d ih =>
      intro k h1 h2 w g hg h_a hfr
      refine ex_iload_n (pc := 5) dJ7_fill_53178_5 rfl ?_
      refine ex_iload_n (pc := 6) dJ7_fill_53178_6 rfl ?_
      refine ex_icmp_ge (pc := 7) dJ7_fill_53178_7 (tgt := 20) (by decide) (fun c7 => ?_) (fun c7 => ?_)
      · exact ex_vret (pc := 20) dJ7_fill_53178_20 (by
  have hks : k = N := by omega
  subst hks
  funext q
  by_cases q1 : q = a
  · subst q1
    rw [up_s, h_a]
    congr 2
    funext i
    exact hg i
  · rw [up_n q1, hfr q q1]) rfl (Nat.le_refl _)
      · refine ex_aload_n (pc := 10) dJ7_fill_53178_10 rfl ?_
        refine ex_iload_n (pc := 11) dJ7_fill_53178_11 rfl ?_
        refine ex_iload_n (pc := 12) dJ7_fill_53178_12 rfl ?_
        refine ex_iastore (pc := 13) dJ7_fill_53178_13 h_a (by omega) (by omega) ?_
        refine ex_up (fun w1 e_w1 => ?_)
        have h1_a := (congrFun e_w1 a).trans up_s
        refine ex_iinc (L2 := [_, _, _, _]) (pc := 14) dJ7_fill_53178_14 rfl rfl (Nat.le_of_ble_eq_true rfl) (by unfold inI; omega) rfl ?_
        refine ex_goto (pc := 17) dJ7_fill_53178_17 (tgt := 5) (by decide) ?_
        exact ih (k + 1) (by omega) (by omega) w1 (fun i => if i < k + 1 then c else f i) (fun i => rfl) (h1_a.trans (by
          congr 2
          funext i
          have hk1 : ((k : Int)).toNat = k := by omega
          simp only [va_up, hk1, hg]
          by_cases h9 : i = k
          · subst h9; rw [if_pos rfl, if_pos (by omega)]
          · rw [if_neg h9]
            by_cases h8 : i < k
            · rw [if_pos h8, if_pos (by omega)]
            · rw [if_neg h8, if_neg (by omega)])) (fun q hq => (((congrFun e_w1 q).trans (up_n hq)).trans (hfr q hq)))
  refine ex_iconst (pc := 0) dJ7_fill_53178_0 (by decide) ?_
  refine ex_istore_n (L2 := [_, _, _, _]) (pc := 1) dJ7_fill_53178_1 rfl (Nat.le_of_ble_eq_true rfl) rfl ?_
  refine ex_aload_n (pc := 2) dJ7_fill_53178_2 rfl ?_
  refine ex_alen (pc := 3) dJ7_fill_53178_3 h_a (by omega) ?_
  refine ex_istore_n (L2 := [_, _, _, _]) (pc := 4) dJ7_fill_53178_4 rfl (Nat.le_of_ble_eq_true rfl) rfl ?_
  exact loop (N + 1) 0 (by omega) (by omega) W f (fun i => by split <;> first | rfl | omega) h_a (fun _ _ => rfl)

theorem neg_bit (x : Int32) : x.toInt < 0 ↔ bt x 31 = true := by
  have h := BitVec.msb_eq_toInt (x := x.toBitVec)
  have h2 : x.toBitVec.msb = bt x 31 := BitVec.msb_eq_getLsbD_last _
  rw [h2] at h
  have h3 : x.toInt = x.toBitVec.toInt := rfl
  rw [h3]
  constructor
  · intro q; rw [h]; exact decide_eq_true q
  · intro q; rw [h] at q; exact of_decide_eq_true q
theorem xxor_12 {a : Int} (ha : inI a) : 0 ≤ xxor a 12 ↔ 0 ≤ a := by
  have h1 := neg_bit (Int32.ofInt a ^^^ Int32.ofInt 12)
  have h2 := neg_bit (Int32.ofInt a)
  rw [i32_to ha] at h2
  have h3 : bt (Int32.ofInt 12) 31 = false := by decide
  rw [b_xor, h3, Bool.xor_false] at h1
  have h4 : (Int32.ofInt a ^^^ Int32.ofInt 12).toInt = xxor a 12 := rfl
  rw [h4] at h1
  have h5 := h1.trans h2.symm
  omega
theorem tmod_12 (a : Int) : (0 ≤ a → Int.tmod a 12 = a % 12) ∧ (a < 0 → (Int.tmod a 12 = 0 → a % 12 = 0) ∧ (Int.tmod a 12 ≠ 0 → a % 12 = Int.tmod a 12 + 12)) := by
  refine ⟨fun h => Int.tmod_eq_emod_of_nonneg h, fun h => ?_⟩
  have h1 : Int.tmod a 12 = -((-a) % 12) := by
    have h2 := Int.neg_tmod (-a) 12
    rw [Int.neg_neg] at h2
    rw [h2, Int.tmod_eq_emod_of_nonneg (show 0 ≤ -a by omega)]
  rw [h1]
  omega
abbrev mJ9_floorMod_7cf53 : xC := mkC yJ9_floorMod_7cf53 cJ9_floorMod_7cf53 3 (some .int) 1 100 0 0
set_option maxHeartbeats 4000000 in
set_option maxRecDepth 100000 in
theorem tJ9_floorMod_7cf53 {n : Nat} {w : xW} {a : Int} : Ctr mJ9_floorMod_7cf53 [xi a, xi 12] n w (pI (fun v w2 => w2 = w ∧ v = a % 12)) := by
  refine Ctr.of ykJ9_floorMod_7cf53 rfl (Nat.le_of_ble_eq_true rfl) okI (fun hin hW => ?_)
  have hia : inI a := hin _ List.mem_cons_self
  have ht := tmod_12 a
  have hb1 : Int.tmod a 12 < 12 := Int.tmod_lt_of_pos a (by omega)
  have hb2 : -12 < Int.tmod a 12 := by
    rcases Int.le_total 0 a with q | q
    · have := Int.tmod_nonneg 12 q
      omega
    · have h8 := Int.tmod_lt_of_pos (-a) (show (0 : Int) < 12 by omega)
      rw [Int.neg_tmod] at h8
      omega
  show Ex _ _ 0 0 n w 0 [some (xi a), some (xi 12), none] []
  refine ex_iload_n (pc := 0) dJ9_floorMod_7cf53_0 rfl ?_
  refine ex_iload_n (pc := 1) dJ9_floorMod_7cf53_1 rfl ?_
  refine ex_iremT (pc := 2) dJ9_floorMod_7cf53_2 (by omega) ?_
  refine ex_istore_n (L2 := [_, _, _]) (pc := 3) dJ9_floorMod_7cf53_3 rfl (Nat.le_of_ble_eq_true rfl) rfl ?_
  refine ex_iload_n (pc := 4) dJ9_floorMod_7cf53_4 rfl ?_
  refine ex_iload_n (pc := 5) dJ9_floorMod_7cf53_5 rfl ?_
  refine ex_ixor (pc := 6) dJ9_floorMod_7cf53_6 ?_
  have hx := xxor_12 hia
  refine ex_if_ge (pc := 7) dJ9_floorMod_7cf53_7 (tgt := 18) (by decide) (fun c7 => ?_) (fun c7 => ?_)
  · refine ex_iload_n (pc := 18) dJ9_floorMod_7cf53_18 rfl ?_
    exact ex_iret (pc := 19) dJ9_floorMod_7cf53_19 ⟨rfl, (ht.1 (by omega))⟩ rfl (Nat.le_refl _)
  · refine ex_iload_n (pc := 10) dJ9_floorMod_7cf53_10 rfl ?_
    refine ex_if_eq (pc := 11) dJ9_floorMod_7cf53_11 (tgt := 18) (by decide) (fun c11 => ?_) (fun c11 => ?_)
    · refine ex_iload_n (pc := 18) dJ9_floorMod_7cf53_18 rfl ?_
      exact ex_iret (pc := 19) dJ9_floorMod_7cf53_19 ⟨rfl, by have := (ht.2 (by omega)).1 c11; omega⟩ rfl (Nat.le_refl _)
    · refine ex_iload_n (pc := 14) dJ9_floorMod_7cf53_14 rfl ?_
      refine ex_iload_n (pc := 15) dJ9_floorMod_7cf53_15 rfl ?_
      refine ex_iadd (pc := 16) dJ9_floorMod_7cf53_16 (by unfold inI; omega) ?_
      exact ex_iret (pc := 17) dJ9_floorMod_7cf53_17 ⟨rfl, by have := (ht.2 (by omega)).2 c11; omega⟩ rfl (Nat.le_refl _)

abbrev mJ6_bitCount_0f7a4 : xC := mkC yJ6_bitCount_0f7a4 cJ6_bitCount_0f7a4 1 (some .int) 1 100 0 0
set_option maxHeartbeats 4000000 in
set_option maxRecDepth 100000 in
theorem tJ6_bitCount_0f7a4 {n : Nat} {w : xW} {a : Nat} (ha : a < 16384) : Ctr mJ6_bitCount_0f7a4 [xi a] n w (pI (fun v w2 => w2 = w ∧ v = pc14 a)) := by
  refine Ctr.of ykJ6_bitCount_0f7a4 rfl (Nat.le_of_ble_eq_true rfl) okI (fun hin hW => ?_)
  have hs1 := (bc_ok ha).2
  show Ex _ _ 0 0 n w 0 [some (xi a)] []
  refine ex_iload_n (pc := 0) dJ6_bitCount_0f7a4_0 rfl ?_
  refine ex_iload_n (pc := 1) dJ6_bitCount_0f7a4_1 rfl ?_
  refine ex_iconst (pc := 2) dJ6_bitCount_0f7a4_2 (by decide) ?_
  refine ex_iushr (pc := 3) dJ6_bitCount_0f7a4_3 ?_
  refine ex_eq (xushr_n (n := 1) (by omega) (by decide)) ?_
  refine ex_ldcw (pc := 4) dJ6_bitCount_0f7a4_4 (v := 1431655765) (by unfold inI; omega) cst_J6_265 ?_
  refine ex_iand (pc := 7) dJ6_bitCount_0f7a4_7 ?_
  refine ex_eq (xand_n (b := 1431655765) (by omega)) ?_
  refine ex_isub (pc := 8) dJ6_bitCount_0f7a4_8 (by unfold inI; omega) ?_
  refine ex_eq (show _ = ((a - (a >>> 1 &&& 1431655765) : Nat) : Int) by omega) ?_
  generalize ha1 : a - (a >>> 1 &&& 1431655765) = a1
  have hb1 : a1 < 16384 := by omega
  have hs2 : a1 >>> 2 ≤ a1 := by rw [Nat.shiftRight_eq_div_pow]; exact Nat.div_le_self _ _
  refine ex_istore_n (L2 := [_]) (pc := 9) dJ6_bitCount_0f7a4_9 rfl (Nat.le_of_ble_eq_true rfl) rfl ?_
  refine ex_iload_n (pc := 10) dJ6_bitCount_0f7a4_10 rfl ?_
  refine ex_ldcw (pc := 11) dJ6_bitCount_0f7a4_11 (v := 858993459) (by unfold inI; omega) cst_J6_266 ?_
  refine ex_iand (pc := 14) dJ6_bitCount_0f7a4_14 ?_
  refine ex_eq (xand_n (b := 858993459) (by omega)) ?_
  have hm1 : a1 &&& 858993459 ≤ a1 := Nat.and_le_left
  refine ex_iload_n (pc := 15) dJ6_bitCount_0f7a4_15 rfl ?_
  refine ex_iconst (pc := 16) dJ6_bitCount_0f7a4_16 (by decide) ?_
  refine ex_iushr (pc := 17) dJ6_bitCount_0f7a4_17 ?_
  refine ex_eq (xushr_n (n := 2) (by omega) (by decide)) ?_
  refine ex_ldcw (pc := 18) dJ6_bitCount_0f7a4_18 (v := 858993459) (by unfold inI; omega) cst_J6_266 ?_
  refine ex_iand (pc := 21) dJ6_bitCount_0f7a4_21 ?_
  refine ex_eq (xand_n (b := 858993459) (by omega)) ?_
  have hm2 : a1 >>> 2 &&& 858993459 ≤ a1 >>> 2 := Nat.and_le_left
  refine ex_iadd (pc := 22) dJ6_bitCount_0f7a4_22 (by unfold inI; omega) ?_
  refine ex_eq (show _ = (((a1 &&& 858993459) + (a1 >>> 2 &&& 858993459) : Nat) : Int) by omega) ?_
  generalize ha2 : (a1 &&& 858993459) + (a1 >>> 2 &&& 858993459) = a2
  have hb2 : a2 < 32768 := by omega
  have hs4 : a2 >>> 4 ≤ a2 := by rw [Nat.shiftRight_eq_div_pow]; exact Nat.div_le_self _ _
  refine ex_istore_n (L2 := [_]) (pc := 23) dJ6_bitCount_0f7a4_23 rfl (Nat.le_of_ble_eq_true rfl) rfl ?_
  refine ex_iload_n (pc := 24) dJ6_bitCount_0f7a4_24 rfl ?_
  refine ex_iload_n (pc := 25) dJ6_bitCount_0f7a4_25 rfl ?_
  refine ex_iconst (pc := 26) dJ6_bitCount_0f7a4_26 (by decide) ?_
  refine ex_iushr (pc := 27) dJ6_bitCount_0f7a4_27 ?_
  refine ex_eq (xushr_n (n := 4) (by omega) (by decide)) ?_
  refine ex_iadd (pc := 28) dJ6_bitCount_0f7a4_28 (by unfold inI; omega) ?_
  refine ex_eq (show _ = ((a2 + (a2 >>> 4) : Nat) : Int) by omega) ?_
  refine ex_ldcw (pc := 29) dJ6_bitCount_0f7a4_29 (v := 252645135) (by unfold inI; omega) cst_J6_267 ?_
  refine ex_iand (pc := 32) dJ6_bitCount_0f7a4_32 ?_
  refine ex_eq (xand_n (b := 252645135) (by omega)) ?_
  have hm3 : (a2 + (a2 >>> 4)) &&& 252645135 ≤ a2 + (a2 >>> 4) := Nat.and_le_left
  generalize ha3 : (a2 + (a2 >>> 4)) &&& 252645135 = a3 at hm3
  have hs8 : a3 >>> 8 ≤ a3 := by rw [Nat.shiftRight_eq_div_pow]; exact Nat.div_le_self _ _
  refine ex_istore_n (L2 := [_]) (pc := 33) dJ6_bitCount_0f7a4_33 rfl (Nat.le_of_ble_eq_true rfl) rfl ?_
  refine ex_iload_n (pc := 34) dJ6_bitCount_0f7a4_34 rfl ?_
  refine ex_iload_n (pc := 35) dJ6_bitCount_0f7a4_35 rfl ?_
  refine ex_bipush (pc := 36) dJ6_bitCount_0f7a4_36 (by decide) ?_
  refine ex_iushr (pc := 38) dJ6_bitCount_0f7a4_38 ?_
  refine ex_eq (xushr_n (n := 8) (by omega) (by decide)) ?_
  refine ex_iadd (pc := 39) dJ6_bitCount_0f7a4_39 (by unfold inI; omega) ?_
  refine ex_eq (show _ = ((a3 + (a3 >>> 8) : Nat) : Int) by omega) ?_
  generalize ha4 : a3 + (a3 >>> 8) = a4
  have hs16 : a4 >>> 16 ≤ a4 := by rw [Nat.shiftRight_eq_div_pow]; exact Nat.div_le_self _ _
  refine ex_istore_n (L2 := [_]) (pc := 40) dJ6_bitCount_0f7a4_40 rfl (Nat.le_of_ble_eq_true rfl) rfl ?_
  refine ex_iload_n (pc := 41) dJ6_bitCount_0f7a4_41 rfl ?_
  refine ex_iload_n (pc := 42) dJ6_bitCount_0f7a4_42 rfl ?_
  refine ex_bipush (pc := 43) dJ6_bitCount_0f7a4_43 (by decide) ?_
  refine ex_iushr (pc := 45) dJ6_bitCount_0f7a4_45 ?_
  refine ex_eq (xushr_n (n := 16) (by omega) (by decide)) ?_
  refine ex_iadd (pc := 46) dJ6_bitCount_0f7a4_46 (by unfold inI; omega) ?_
  refine ex_eq (show _ = ((a4 + (a4 >>> 16) : Nat) : Int) by omega) ?_
  generalize ha5 : a4 + (a4 >>> 16) = a5
  refine ex_istore_n (L2 := [_]) (pc := 47) dJ6_bitCount_0f7a4_47 rfl (Nat.le_of_ble_eq_true rfl) rfl ?_
  refine ex_iload_n (pc := 48) dJ6_bitCount_0f7a4_48 rfl ?_
  refine ex_bipush (pc := 49) dJ6_bitCount_0f7a4_49 (by decide) ?_
  refine ex_iand (pc := 51) dJ6_bitCount_0f7a4_51 ?_
  refine ex_eq (xand_n (b := 63) (by omega)) ?_
  exact ex_iret (pc := 52) dJ6_bitCount_0f7a4_52 ⟨rfl, by rw [← (bc_ok ha).1]; unfold bcN; simp only [ha1, ha2, ha3, ha4, ha5]⟩ rfl (Nat.le_refl _)

