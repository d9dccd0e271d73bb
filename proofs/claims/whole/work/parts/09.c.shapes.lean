abbrev shC (mo d e : Int) : Prop := -19 ≤ d ∧ d ≤ 19 ∧ (if mo = 1 then 0 else -11) ≤ e ∧ e ≤ 11
def opShift (s : St) (a d e : Int) : Int × St := if ¬ (0 ≤ a ∧ a < s.1.length) then (-1, s) else if ¬ (shC s.2.1 d e ∧ (d ≠ 0 ∨ e ≠ 0)) then (-1, s) else if ¬ (0 ≤ tmL s.1 a.toNat + d ∧ tmL s.1 a.toNat + d < 20 ∧ 0 ≤ ptL s.1 a.toNat + e ∧ ptL s.1 a.toNat + e < 12) then (-1, s) else if 0 ≤ numL ((tmL s.1 a.toNat + d) * 12 + (ptL s.1 a.toNat + e)) s.1 then (-2, s) else (posL ((tmL s.1 a.toNat + d) * 12 + (ptL s.1 a.toNat + e)) (s.1.eraseIdx a.toNat), (insL ((tmL s.1 a.toNat + d) * 12 + (ptL s.1 a.toNat + e)) (s.1.eraseIdx a.toNat), s.2.1, pushU s.2.2.1 (s.1, s.2.1), s.2.2.2.1, s.2.2.2.2))
def staysAll (cs : List Int) (d e : Int) : Bool := (List.range cs.length).all (fun i => decide (0 ≤ tmL cs i + d ∧ tmL cs i + d < 20 ∧ 0 ≤ ptL cs i + e ∧ ptL cs i + e < 12))
def opShiftAll (s : St) (d e : Int) : Int × St := if ¬ (shC s.2.1 d e ∧ (d ≠ 0 ∨ e ≠ 0)) then (-1, s) else if staysAll s.1 d e = true then (s.1.length, (s.1.map (fun x => x + (d * 12 + e)), s.2.1, pushU s.2.2.1 (s.1, s.2.1), s.2.2.2.1, s.2.2.2.2)) else (-1, s)
theorem staysAll_iff {cs : List Int} {d e : Int} : staysAll cs d e = true ↔ ∀ i, i < cs.length → (0 ≤ tmL cs i + d ∧ tmL cs i + d < 20 ∧ 0 ≤ ptL cs i + e ∧ ptL cs i + e < 12) := by
  unfold staysAll
  rw [List.all_eq_true]
  constructor
  · intro h i hi; exact of_decide_eq_true (h i (List.mem_range.mpr hi))
  · intro h i hi; exact decide_eq_true (h i (List.mem_range.mp hi))
abbrev mX6_shift : xC := mkC yX6_shift cX6_shift 5 (some .int) 4 400 0 0
set_option maxHeartbeats 4000000 in
set_option maxRecDepth 100000 in
theorem tX6_shift {n : Nat} {w : xW} {s : St} (hS : ClsS w s) {a d e : Int} : Ctr mX6_shift [xr 0, xi a, xi d, xi e] n w (pI (fun v w2 => v = (opShift s a d e).1 ∧ ClsS w2 (opShift s a d e).2 ∧ FrO w w2)) := by
  refine Ctr.of ykX6_shift rfl (Nat.le_of_ble_eq_true rfl) okI (fun hin hW => ?_)
  have hS0 := hS
  obtain ⟨hv, wk, bk, bc, bg, H, hc⟩ := hS
  have hlen := H.P.len
  show Ex _ _ 0 0 n w 0 [some (xr 0), some (xi a), some (xi d), some (xi e), none] []
  refine ex_aload_n (pc := 0) dX6_shift_0 rfl ?_
  refine ex_iload_n (pc := 1) dX6_shift_1 rfl ?_
  refine ex_callVZ (as := [_]) (pc := 2) dX6_shift_2 (tX6_isNote H) lk_X6_100 ykX6_isNote vkX6_isNote H.o rfl rfl rfl (Nat.le_of_ble_eq_true rfl) ⟨by decide, by decide⟩ ⟨Nat.le_refl _, Nat.le_refl _⟩ (fun i2 w1 r2 p2 => ?_)
  obtain ⟨e2, p2⟩ := p2
  rw [e2]
  refine ex_if_eq (pc := 5) dX6_shift_5 (tgt := 27) (by decide) (fun c5 => ?_) (fun c5 => ?_)
  · refine ex_iconst (pc := 27) dX6_shift_27 (by decide) ?_
    exact ex_iret (pc := 28) dX6_shift_28 ⟨by unfold opShift; rw [if_pos (by omega)], by unfold opShift; rw [if_pos (by omega)]; exact hS0, fun _ _ => rfl⟩ rfl (Nat.le_refl _)
  · refine ex_aload_n (pc := 8) dX6_shift_8 rfl ?_
    refine ex_iload_n (pc := 9) dX6_shift_9 rfl ?_
    refine ex_iload_n (pc := 10) dX6_shift_10 rfl ?_
    refine ex_callVZ (as := [_, _]) (pc := 11) dX6_shift_11 (tX6_isMove H) lk_X6_122 ykX6_isMove vkX6_isMove H.o rfl rfl rfl (Nat.le_of_ble_eq_true rfl) ⟨by decide, by decide⟩ ⟨Nat.le_refl _, Nat.le_refl _⟩ (fun i11 w1 r11 p11 => ?_)
    obtain ⟨e11, p11⟩ := p11
    rw [e11]
    refine ex_if_eq (pc := 14) dX6_shift_14 (tgt := 27) (by decide) (fun c14 => ?_) (fun c14 => ?_)
    · refine ex_iconst (pc := 27) dX6_shift_27 (by decide) ?_
      exact ex_iret (pc := 28) dX6_shift_28 ⟨by unfold opShift; rw [if_neg (by omega), if_pos (by intro z; have := p11.mpr z; omega)], by unfold opShift; rw [if_neg (by omega), if_pos (by intro z; have := p11.mpr z; omega)]; exact hS0, fun _ _ => rfl⟩ rfl (Nat.le_refl _)
    · refine ex_aload_n (pc := 17) dX6_shift_17 rfl ?_
      refine ex_iload_n (pc := 18) dX6_shift_18 rfl ?_
      refine ex_iload_n (pc := 19) dX6_shift_19 rfl ?_
      refine ex_iload_n (pc := 20) dX6_shift_20 rfl ?_
      have hmv := p11.mp (by omega)
      have hsh : -19 ≤ d ∧ d ≤ 19 ∧ -11 ≤ e ∧ e ≤ 11 := by have h9 := hmv.1; unfold shiftP at h9; split at h9 <;> omega
      obtain ⟨j, hj⟩ : ∃ j : Nat, a = j := ⟨a.toNat, by omega⟩
      subst hj
      have hkj : ((j : Int)).toNat = j := by omega
      refine ex_callVZ (as := [_, _, _]) (pc := 21) dX6_shift_21 (tX6_staysWithin H hv.1 (a := j) (by omega) (by omega)) lk_X6_125 ykX6_staysWithin vkX6_staysWithin H.o rfl rfl rfl (Nat.le_of_ble_eq_true rfl) ⟨by decide, by decide⟩ ⟨Nat.le_refl _, Nat.le_refl _⟩ (fun i21 w1 r21 p21 => ?_)
      obtain ⟨e21, p21⟩ := p21
      rw [e21]
      refine ex_if_ne (pc := 24) dX6_shift_24 (tgt := 29) (by decide) (fun c24 => ?_) (fun c24 => ?_)
      · have hst9 := p21.mp (by omega)
        unfold inP at hst9
        rw [← hkj] at hst9
        refine ex_aload_n (pc := 29) dX6_shift_29 rfl ?_
        refine ex_getfield (pc := 30) dX6_shift_30 fk_X6_19 H.o (by rfl) ?_
        refine ex_iload_n (pc := 33) dX6_shift_33 rfl ?_
        refine ex_callVI (as := [_]) (pc := 34) dX6_shift_34 (lX2_timeOf H.P hv.1.1) lk_X6_103 ykX2_timeOf vkX2_timeOf H.p rfl rfl rfl (Nat.le_of_ble_eq_true rfl) ⟨by decide, by decide⟩ ⟨Nat.le_refl _, Nat.le_refl _⟩ (fun i34 w1 r34 p34 => ?_)
        obtain ⟨e34, p34⟩ := p34
        rw [e34]
        rw [if_pos (by omega)] at p34
        have p34 : i34 = tmL s.1 ((j : Int)).toNat := p34
        refine ex_iload_n (pc := 37) dX6_shift_37 rfl ?_
        refine ex_iadd (pc := 38) dX6_shift_38 (by unfold inI; omega) ?_
        refine ex_aload_n (pc := 39) dX6_shift_39 rfl ?_
        refine ex_getfield (pc := 40) dX6_shift_40 fk_X6_19 H.o (by rfl) ?_
        refine ex_iload_n (pc := 43) dX6_shift_43 rfl ?_
        refine ex_callVI (as := [_]) (pc := 44) dX6_shift_44 (lX2_pitchOf H.P hv.1.1) lk_X6_106 ykX2_pitchOf vkX2_pitchOf H.p rfl rfl rfl (Nat.le_of_ble_eq_true rfl) ⟨by decide, by decide⟩ ⟨Nat.le_refl _, Nat.le_refl _⟩ (fun i44 w1 r44 p44 => ?_)
        obtain ⟨e44, p44⟩ := p44
        rw [e44]
        rw [if_pos (by omega)] at p44
        have p44 : i44 = ptL s.1 ((j : Int)).toNat := p44
        refine ex_iload_n (pc := 47) dX6_shift_47 rfl ?_
        refine ex_iadd (pc := 48) dX6_shift_48 (by unfold inI; omega) ?_
        refine ex_callSI (as := [_, _]) (pc := 49) dX6_shift_49 (tX6_codeOf (by omega)) lk_X6_69 ykX6_codeOf zkX6_codeOf rfl rfl (Nat.le_of_ble_eq_true rfl) ⟨by decide, by decide⟩ ⟨Nat.le_refl _, Nat.le_refl _⟩ (fun i49 w1 r49 p49 => ?_)
        obtain ⟨e49, p49⟩ := p49
        rw [e49, p49, p34, p44]
        generalize hcd : (tmL s.1 ((j : Int)).toNat + d) * 12 + (ptL s.1 ((j : Int)).toNat + e) = cd
        refine ex_istore (L2 := [_, _, _, _, _]) (pc := 52) dX6_shift_52 rfl (Nat.le_of_ble_eq_true rfl) rfl ?_
        refine ex_aload_n (pc := 54) dX6_shift_54 rfl ?_
        refine ex_getfield (pc := 55) dX6_shift_55 fk_X6_19 H.o (by rfl) ?_
        refine ex_iload (pc := 58) dX6_shift_58 rfl ?_
        refine ex_callVI (as := [_]) (pc := 60) dX6_shift_60 (lX2_numberOf H.P) lk_X6_113 ykX2_numberOf vkX2_numberOf H.p rfl rfl rfl (Nat.le_of_ble_eq_true rfl) ⟨by decide, by decide⟩ ⟨Nat.le_refl _, Nat.le_refl _⟩ (fun i60 w1 r60 p60 => ?_)
        obtain ⟨e60, p60⟩ := p60
        rw [e60]
        refine ex_if_lt (pc := 63) dX6_shift_63 (tgt := 69) (by decide) (fun c63 => ?_) (fun c63 => ?_)
        · refine ex_aload_n (pc := 69) dX6_shift_69 rfl ?_
          refine ex_callVV (as := []) (pc := 70) dX6_shift_70 (tX6_beginAct H) lk_X6_116 ykX6_beginAct vkX6_beginAct H.o rfl rfl rfl (Nat.le_of_ble_eq_true rfl) ⟨by decide, by decide⟩ ⟨Nat.le_refl _, Nat.le_refl _⟩ (fun w1 p70 => ?_)
          obtain ⟨H1, f1⟩ := p70
          have h1_o := H1.o
          have h1_p := H1.p
          have h1_u := H1.u
          have h1_k := H1.k
          refine ex_aload_n (pc := 73) dX6_shift_73 rfl ?_
          refine ex_getfield (pc := 74) dX6_shift_74 fk_X6_19 h1_o (by rfl) ?_
          refine ex_iload_n (pc := 77) dX6_shift_77 rfl ?_
          refine ex_callVV (as := [_]) (pc := 78) dX6_shift_78 (lX2_remove H1.P (j := j) (by omega)) lk_X6_119 ykX2_remove vkX2_remove h1_p rfl rfl rfl (Nat.le_of_ble_eq_true rfl) ⟨by decide, by decide⟩ ⟨Nat.le_refl _, Nat.le_refl _⟩ (fun w2 p78 => ?_)
          obtain ⟨q2, q3⟩ := p78
          have hle : (s.1.eraseIdx j).length = s.1.length - 1 := List.length_eraseIdx_of_lt (by omega)
          have H2 := H1.piece q2 q3
          have h2_o := H2.o
          have h2_p := H2.p
          have h2_u := H2.u
          have h2_k := H2.k
          refine ex_aload_n (pc := 81) dX6_shift_81 rfl ?_
          refine ex_getfield (pc := 82) dX6_shift_82 fk_X6_19 h2_o (by rfl) ?_
          refine ex_iload (pc := 85) dX6_shift_85 rfl ?_
          refine ex_callVI (as := [_]) (pc := 87) dX6_shift_87 (lX2_insert H2.P (by omega)) lk_X6_73 ykX2_insert vkX2_insert h2_p rfl rfl rfl (Nat.le_of_ble_eq_true rfl) ⟨by decide, by decide⟩ ⟨Nat.le_refl _, Nat.le_refl _⟩ (fun i87 w3 r87 p87 => ?_)
          obtain ⟨q4, q5, q6⟩ := p87
          have hokn : okP (insL cd (s.1.eraseIdx j), s.2.1) := ⟨Cod_ins (Cod_del hv.1.1 (show j < s.1.length by omega)) (by omega), by show 1 ≤ (insL _ _).length; rw [insL_len]; omega, by show (insL _ _).length ≤ 14; rw [insL_len]; omega, hv.1.2.2.2⟩
          have H3 := H2.piece q5 q6
          exact ex_iret (pc := 90) dX6_shift_90 ⟨by unfold opShift; rw [if_neg (by omega), if_neg (fun z => z hmv), if_neg (fun z => z hst9), if_neg (by rw [hcd, ← p60]; omega), hcd, hkj]; exact q4, by unfold opShift; rw [if_neg (by omega), if_neg (fun z => z hmv), if_neg (fun z => z hst9), if_neg (by rw [hcd, ← p60]; omega), hcd, hkj]; exact ClsS.mk (hv.push hokn) H3 Csh0, fun z hz => (q6 z (by omega) (by omega)).trans ((q3 z (by omega) (by omega)).trans (f1 z hz))⟩ rfl (Nat.le_refl _)
        · refine ex_bipush (pc := 66) dX6_shift_66 (by decide) ?_
          exact ex_iret (pc := 68) dX6_shift_68 ⟨by unfold opShift; rw [if_neg (by omega), if_neg (fun z => z hmv), if_neg (fun z => z hst9), if_pos (by rw [hcd, ← p60]; omega)], by unfold opShift; rw [if_neg (by omega), if_neg (fun z => z hmv), if_neg (fun z => z hst9), if_pos (by rw [hcd, ← p60]; omega)]; exact hS0, fun _ _ => rfl⟩ rfl (Nat.le_refl _)
      · refine ex_iconst (pc := 27) dX6_shift_27 (by decide) ?_
        exact ex_iret (pc := 28) dX6_shift_28 ⟨by unfold opShift; rw [if_neg (by omega), if_neg (fun z => z (p11.mp (by omega))), if_pos (by intro z; have := p21.mpr z; omega)], by unfold opShift; rw [if_neg (by omega), if_neg (fun z => z (p11.mp (by omega))), if_pos (by intro z; have := p21.mpr z; omega)]; exact hS0, fun _ _ => rfl⟩ rfl (Nat.le_refl _)

abbrev mX6_shiftAll : xC := mkC yX6_shiftAll cX6_shiftAll 4 (some .int) 4 400 0 0
set_option maxHeartbeats 4000000 in
set_option maxRecDepth 100000 in
theorem tX6_shiftAll {n : Nat} {w : xW} {s : St} (hS : ClsS w s) {d e : Int} : Ctr mX6_shiftAll [xr 0, xi d, xi e] n w (pI (fun v w2 => v = (opShiftAll s d e).1 ∧ ClsS w2 (opShiftAll s d e).2 ∧ FrO w w2)) := by
  refine Ctr.of ykX6_shiftAll rfl (Nat.le_of_ble_eq_true rfl) okI (fun hin hW => ?_)
  have hS0 := hS
  obtain ⟨hv, wk, bk, bc, bg, H, hc⟩ := hS
  have hlen := H.P.len
  show Ex _ _ 0 0 n w 0 [some (xr 0), some (xi d), some (xi e), none] []
  have loop : shC s.2.1 d e ∧ (d ≠ 0 ∨ e ≠ 0) → ∀ (dd k : Nat), k ≤ s.1.length → s.1.length + 1 ≤ k + dd → (∀ i, i < k → inP (tmL s.1 i + d) (ptL s.1 i + e)) → Ex mX6_shiftAll (pI (fun v w2 => v = (opShiftAll s d e).1 ∧ ClsS w2 (opShiftAll s d e).2 ∧ FrO w w2)) 0 0 n w 13 [some (xr 0), some (xi d), some (xi e), some (xi k)] [] := by
    intro hmv dd
    have hsh : -19 ≤ d ∧ d ≤ 19 ∧ -11 ≤ e ∧ e ≤ 11 := by
      have h9 := hmv.1
      unfold shC at h9
      split at h9 <;> omega
    induction dd with
    | zero => intro k h1 h2; omega
    | succ dd ih =>
      intro k h1 h2 hq0
      refine ex_iload_n (pc := 13) dX6_shiftAll_13 rfl ?_
      refine ex_aload_n (pc := 14) dX6_shiftAll_14 rfl ?_
      refine ex_getfield (pc := 15) dX6_shiftAll_15 fk_X6_19 H.o (by rfl) ?_
      refine ex_getfield (pc := 18) dX6_shiftAll_18 fk_X6_89 H.p (by rfl) ?_
      refine ex_icmp_ge (pc := 21) dX6_shiftAll_21 (tgt := 42) (by decide) (fun c21 => ?_) (fun c21 => ?_)
      · have hall : staysAll s.1 d e = true := staysAll_iff.mpr (fun i hi => hq0 i (by omega))
        refine ex_aload_n (pc := 42) dX6_shiftAll_42 rfl ?_
        refine ex_callVV (as := []) (pc := 43) dX6_shiftAll_43 (tX6_beginAct H) lk_X6_116 ykX6_beginAct vkX6_beginAct H.o rfl rfl rfl (Nat.le_of_ble_eq_true rfl) ⟨by decide, by decide⟩ ⟨Nat.le_refl _, Nat.le_refl _⟩ (fun w1 p43 => ?_)
        obtain ⟨H1, f1⟩ := p43
        have h1_o := H1.o
        have h1_p := H1.p
        have h1_u := H1.u
        have h1_k := H1.k
        refine ex_aload_n (pc := 46) dX6_shiftAll_46 rfl ?_
        refine ex_getfield (pc := 47) dX6_shiftAll_47 fk_X6_19 h1_o (by rfl) ?_
        refine ex_iload_n (pc := 50) dX6_shiftAll_50 rfl ?_
        refine ex_iload_n (pc := 51) dX6_shiftAll_51 rfl ?_
        refine ex_callSI (as := [_, _]) (pc := 52) dX6_shiftAll_52 (tX6_codeOf (by omega)) lk_X6_69 ykX6_codeOf zkX6_codeOf rfl rfl (Nat.le_of_ble_eq_true rfl) ⟨by decide, by decide⟩ ⟨Nat.le_refl _, Nat.le_refl _⟩ (fun i52 w2 r52 p52 => ?_)
        obtain ⟨e52, p52⟩ := p52
        rw [e52, p52]
        refine ex_callVV (as := [_]) (pc := 55) dX6_shiftAll_55 (lX2_moveAll H1.P hv.1.1 (by omega)) lk_X6_129 ykX2_moveAll vkX2_moveAll h1_p rfl rfl rfl (Nat.le_of_ble_eq_true rfl) ⟨by decide, by decide⟩ ⟨Nat.le_refl _, Nat.le_refl _⟩ (fun w2 p55 => ?_)
        obtain ⟨q2, q3⟩ := p55
        have hcd9 : Cod (s.1.map (fun x => x + (d * 12 + e))) := by
          intro i hi
          rw [List.length_map] at hi
          have h1 := hq0 i (by omega)
          have h2 := hv.1.1 i hi
          rw [getD_at (cs := s.1.map _) (by rw [List.length_map]; exact hi), List.getElem_map, ← getD_at hi]
          have h3 : 0 ≤ s.1.getD i 0 ∧ s.1.getD i 0 < 240 := h2
          unfold inP tmL ptL at h1
          omega
        have hokn : okP (s.1.map (fun x => x + (d * 12 + e)), s.2.1) := ⟨hcd9, by show 1 ≤ (s.1.map _).length; rw [List.length_map]; exact hv.1.2.1, by show (s.1.map _).length ≤ 14; rw [List.length_map]; exact hlen, hv.1.2.2.2⟩
        have H2 := H1.piece q2 q3
        have h2_o := H2.o
        have h2_p := H2.p
        have h2_u := H2.u
        have h2_k := H2.k
        refine ex_aload_n (pc := 58) dX6_shiftAll_58 rfl ?_
        refine ex_getfield (pc := 59) dX6_shiftAll_59 fk_X6_19 h2_o (by rfl) ?_
        refine ex_getfield (pc := 62) dX6_shiftAll_62 fk_X6_89 h2_p (by rfl) ?_
        exact ex_iret (pc := 65) dX6_shiftAll_65 ⟨by unfold opShiftAll; rw [if_neg (fun z => z hmv), if_pos hall, List.length_map], by unfold opShiftAll; rw [if_neg (fun z => z hmv), if_pos hall]; exact ClsS.mk (hv.push hokn) H2 Csh0, fun z hz => (q3 z (by omega) (by omega)).trans (f1 z hz)⟩ rfl (Nat.le_refl _)
      · refine ex_aload_n (pc := 24) dX6_shiftAll_24 rfl ?_
        refine ex_iload_n (pc := 25) dX6_shiftAll_25 rfl ?_
        refine ex_iload_n (pc := 26) dX6_shiftAll_26 rfl ?_
        refine ex_iload_n (pc := 27) dX6_shiftAll_27 rfl ?_
        refine ex_callVZ (as := [_, _, _]) (pc := 28) dX6_shiftAll_28 (tX6_staysWithin H hv.1 (a := k) (by omega) (by omega)) lk_X6_125 ykX6_staysWithin vkX6_staysWithin H.o rfl rfl rfl (Nat.le_of_ble_eq_true rfl) ⟨by decide, by decide⟩ ⟨Nat.le_refl _, Nat.le_refl _⟩ (fun i28 w1 r28 p28 => ?_)
        obtain ⟨e28, p28⟩ := p28
        rw [e28]
        refine ex_if_ne (pc := 31) dX6_shiftAll_31 (tgt := 36) (by decide) (fun c31 => ?_) (fun c31 => ?_)
        · refine ex_iinc (L2 := [_, _, _, _]) (pc := 36) dX6_shiftAll_36 rfl rfl (Nat.le_of_ble_eq_true rfl) (by unfold inI; omega) rfl ?_
          refine ex_goto (pc := 39) dX6_shiftAll_39 (tgt := 13) (by decide) ?_
          exact ih (k + 1) (by omega) (by omega) (lt_s hq0 (p28.mp (by omega)))
        · refine ex_iconst (pc := 34) dX6_shiftAll_34 (by decide) ?_
          exact ex_iret (pc := 35) dX6_shiftAll_35 ⟨by unfold opShiftAll; rw [if_neg (fun z => z hmv), if_neg (by intro z; have := p28.mpr (staysAll_iff.mp z k (by omega)); omega)], by unfold opShiftAll; rw [if_neg (fun z => z hmv), if_neg (by intro z; have := p28.mpr (staysAll_iff.mp z k (by omega)); omega)]; exact hS0, fun _ _ => rfl⟩ rfl (Nat.le_refl _)
  refine ex_aload_n (pc := 0) dX6_shiftAll_0 rfl ?_
  refine ex_iload_n (pc := 1) dX6_shiftAll_1 rfl ?_
  refine ex_iload_n (pc := 2) dX6_shiftAll_2 rfl ?_
  refine ex_callVZ (as := [_, _]) (pc := 3) dX6_shiftAll_3 (tX6_isMove H) lk_X6_122 ykX6_isMove vkX6_isMove H.o rfl rfl rfl (Nat.le_of_ble_eq_true rfl) ⟨by decide, by decide⟩ ⟨Nat.le_refl _, Nat.le_refl _⟩ (fun i3 w1 r3 p3 => ?_)
  obtain ⟨e3, p3⟩ := p3
  rw [e3]
  refine ex_if_ne (pc := 6) dX6_shiftAll_6 (tgt := 11) (by decide) (fun c6 => ?_) (fun c6 => ?_)
  · refine ex_iconst (pc := 11) dX6_shiftAll_11 (by decide) ?_
    refine ex_istore_n (L2 := [_, _, _, _]) (pc := 12) dX6_shiftAll_12 rfl (Nat.le_of_ble_eq_true rfl) rfl ?_
    exact loop (p3.mp (by omega)) (s.1.length + 1) 0 (by omega) (by omega) (fun i hi => absurd hi (Nat.not_lt_zero _))
  · refine ex_iconst (pc := 9) dX6_shiftAll_9 (by decide) ?_
    exact ex_iret (pc := 10) dX6_shiftAll_10 ⟨by unfold opShiftAll; rw [if_pos (by intro z; have := p3.mpr z; omega)], by unfold opShiftAll; rw [if_pos (by intro z; have := p3.mpr z; omega)]; exact hS0, fun _ _ => rfl⟩ rfl (Nat.le_refl _)

theorem last_cases {α : Type} (l : List α) : l = [] ∨ ∃ t x, l = t ++ [x] := by
  rcases List.eq_nil_or_concat l with h | ⟨t, x, h⟩
  · exact Or.inl h
  · exact Or.inr ⟨t, x, by rw [h, List.concat_eq_append]⟩
theorem PcAt.raw {w : xW} {r a : Nat} {cs : List Int} {mo : Int} (h : PcAt w r a cs mo) : ∃ f, w r = xO 2 [xr a, xi cs.length, xi mo] ∧ w a = xA 14 f := by
  obtain ⟨f, h1, h2, -⟩ := h; exact ⟨f, h1, h2⟩
abbrev mX6_undo : xC := mkC yX6_undo cX6_undo 1 (some .int) 3 300 0 0
set_option maxHeartbeats 4000000 in
set_option maxRecDepth 100000 in
theorem tX6_undo {n : Nat} {w : xW} {s : St} (hS : ClsS w s) : Ctr mX6_undo [xr 0] n w (pI (fun v w2 => v = (opUndo s).1 ∧ ClsS w2 (opUndo s).2 ∧ FrO w w2)) := by
  refine Ctr.of ykX6_undo rfl (Nat.le_of_ble_eq_true rfl) okI (fun hin hW => ?_)
  have hS0 := hS
  obtain ⟨hv, wk, bk, bc, bg, H, hc⟩ := hS
  have hlen := H.P.len
  show Ex _ _ 0 0 n w 0 [some (xr 0)] []
  refine ex_aload_n (pc := 0) dX6_undo_0 rfl ?_
  refine ex_getfield (pc := 1) dX6_undo_1 fk_X6_31 H.o (by rfl) ?_
  refine ex_getfield (pc := 4) dX6_undo_4 fk_X6_96 H.u (by rfl) ?_
  refine ex_if_ne (pc := 7) dX6_undo_7 (tgt := 13) (by decide) (fun c7 => ?_) (fun c7 => ?_)
  · rcases last_cases s.2.2.1 with hu0 | ⟨t, x, hu⟩
    · exfalso; rw [hu0] at c7; exact c7 rfl
    obtain ⟨f, g1, g2⟩ := H.P.raw
    have hU := H.U
    rw [hu] at hU
    refine ex_aload_n (pc := 13) dX6_undo_13 rfl ?_
    refine ex_getfield (pc := 14) dX6_undo_14 fk_X6_31 H.o (by rfl) ?_
    refine ex_aload_n (pc := 17) dX6_undo_17 rfl ?_
    refine ex_getfield (pc := 18) dX6_undo_18 fk_X6_19 H.o (by rfl) ?_
    refine ex_callVV (as := [_]) (pc := 21) dX6_undo_21 (tX3_popInto hU g1 g2 (by decide) (by decide) (by decide) (by decide)) lk_X6_135 ykX3_popInto vkX3_popInto H.u rfl rfl rfl (Nat.le_of_ble_eq_true rfl) ⟨by decide, by decide⟩ ⟨Nat.le_refl _, Nat.le_refl _⟩ (fun w1 p21 => ?_)
    obtain ⟨q1, q2, q3⟩ := p21
    have H1 : ClsC w1 x.1 x.2 t s.2.2.2.1 s.2.2.2.2 wk bk bc bg := ⟨(q3 _ (by decide) (by decide) (by decide)).trans H.o, H.S.imp (fun _ q => q.fr (q3 _ (by decide) (by decide) (by decide)) (q3 _ (by decide) (by decide) (by decide))), q2, H.T.fr (q3 _ (by decide) (by decide) (by decide)) (q3 _ (by decide) (by decide) (by decide)), q1, H.K.fr (fun z z1 _ => q3 z (by omega) (by omega) (by omega)) (by decide), H.H.fr (fun z z1 _ => q3 z (by omega) (by omega) (by omega)), H.X.fr (fun z z1 _ => q3 z (by omega) (by omega) (by omega)), H.Y.fr (fun z z1 _ => q3 z (by omega) (by omega) (by omega)), H.V.fr (q3 _ (by decide) (by decide) (by decide)) (q3 _ (by decide) (by decide) (by decide))⟩
    have h1_o := H1.o
    have h1_p := H1.p
    have h1_u := H1.u
    have h1_k := H1.k
    refine ex_aload_n (pc := 24) dX6_undo_24 rfl ?_
    refine ex_callVV (as := []) (pc := 25) dX6_undo_25 (tX6_forgetFindings H1) lk_X6_97 ykX6_forgetFindings vkX6_forgetFindings h1_o rfl rfl rfl (Nat.le_of_ble_eq_true rfl) ⟨by decide, by decide⟩ ⟨Nat.le_refl _, Nat.le_refl _⟩ (fun w2 p25 => ?_)
    obtain ⟨H2, f2⟩ := p25
    have h2_o := H2.o
    have h2_p := H2.p
    have h2_u := H2.u
    have h2_k := H2.k
    have hx : okP x := hv.2.1 x (by rw [hu]; exact List.mem_append_right _ (List.mem_singleton.mpr rfl))
    have hvn : Vld x.1 x.2 t s.2.2.2.1 := ⟨hx, fun y hy => hv.2.1 y (by rw [hu]; exact List.mem_append_left _ hy), hv.2.2⟩
    have hop : opUndo s = ((s.2.2.1.length : Int) - 1, (x.1, x.2, t, s.2.2.2.1, s.2.2.2.2)) := by unfold opUndo; rw [hu, List.getLast?_append]; simp
    refine ex_aload_n (pc := 28) dX6_undo_28 rfl ?_
    refine ex_getfield (pc := 29) dX6_undo_29 fk_X6_31 h2_o (by rfl) ?_
    refine ex_getfield (pc := 32) dX6_undo_32 fk_X6_96 h2_u (by rfl) ?_
    exact ex_iret (pc := 35) dX6_undo_35 ⟨by rw [hop, hu, List.length_append]; show _ = ((t.length + 1 : Nat) : Int) - 1; omega, by rw [hop]; exact ClsS.mk hvn H2 Csh0, fun z hz => (f2 z hz).trans (q3 z (by omega) (by omega) (by omega))⟩ rfl (Nat.le_refl _)
  · refine ex_bipush (pc := 10) dX6_undo_10 (by decide) ?_
    have hu0 : s.2.2.1 = [] := List.eq_nil_of_length_eq_zero (by omega)
    exact ex_iret (pc := 12) dX6_undo_12 ⟨by unfold opUndo; rw [hu0]; rfl, by unfold opUndo; rw [hu0]; exact hS0, fun _ _ => rfl⟩ rfl (Nat.le_refl _)

abbrev mX6_keep : xC := mkC yX6_keep cX6_keep 1 (some .int) 3 300 0 0
set_option maxHeartbeats 4000000 in
set_option maxRecDepth 100000 in
theorem tX6_keep {n : Nat} {w : xW} {s : St} (hS : ClsS w s) : Ctr mX6_keep [xr 0] n w (pI (fun v w2 => v = (opKeep s).1 ∧ ClsS w2 (opKeep s).2 ∧ FrO w w2)) := by
  refine Ctr.of ykX6_keep rfl (Nat.le_of_ble_eq_true rfl) okI (fun hin hW => ?_)
  have hS0 := hS
  obtain ⟨hv, wk, bk, bc, bg, H, hc⟩ := hS
  have hlen := H.P.len
  show Ex _ _ 0 0 n w 0 [some (xr 0)] []
  refine ex_aload_n (pc := 0) dX6_keep_0 rfl ?_
  refine ex_getfield (pc := 1) dX6_keep_1 fk_X6_35 H.o (by rfl) ?_
  refine ex_getfield (pc := 4) dX6_keep_4 fk_X6_96 H.k (by rfl) ?_
  refine ex_iconst (pc := 7) dX6_keep_7 (by decide) ?_
  refine ex_icmp_lt (pc := 8) dX6_keep_8 (tgt := 14) (by decide) (fun c8 => ?_) (fun c8 => ?_)
  · refine ex_aload_n (pc := 14) dX6_keep_14 rfl ?_
    refine ex_getfield (pc := 15) dX6_keep_15 fk_X6_35 H.o (by rfl) ?_
    refine ex_aload_n (pc := 18) dX6_keep_18 rfl ?_
    refine ex_getfield (pc := 19) dX6_keep_19 fk_X6_19 H.o (by rfl) ?_
    refine ex_callVV (as := [_]) (pc := 22) dX6_keep_22 (tX3_push H.K H.P (by decide) (by decide) (by decide) (by decide)) lk_X6_238 ykX3_push vkX3_push H.k rfl rfl rfl (Nat.le_of_ble_eq_true rfl) ⟨by decide, by decide⟩ ⟨Nat.le_refl _, Nat.le_refl _⟩ (fun w1 p22 => ?_)
    obtain ⟨q1, q2⟩ := p22
    rw [if_pos (by omega)] at q1
    have H1 := H.kept q1 q2
    have h1_o := H1.o
    have h1_p := H1.p
    have h1_u := H1.u
    have h1_k := H1.k
    have hvn : Vld s.1 s.2.1 s.2.2.1 (s.2.2.2.1 ++ [(s.1, s.2.1)]) := ⟨hv.1, hv.2.1, fun y hy => by
      rcases List.mem_append.mp hy with q | q
      · exact hv.2.2 y q
      · rw [List.mem_singleton.mp q]; exact hv.1⟩
    refine ex_aload_n (pc := 25) dX6_keep_25 rfl ?_
    refine ex_getfield (pc := 26) dX6_keep_26 fk_X6_35 h1_o (by rfl) ?_
    refine ex_getfield (pc := 29) dX6_keep_29 fk_X6_96 h1_k (by rfl) ?_
    exact ex_iret (pc := 32) dX6_keep_32 ⟨by unfold opKeep; rw [if_neg (by omega), List.length_append]; rfl, by unfold opKeep; rw [if_neg (by omega)]; exact ClsS.mk hvn H1 (hc.fr (fun z z1 z2 => q2 z (by omega))), fun z hz => q2 z (by omega)⟩ rfl (Nat.le_refl _)
  · refine ex_bipush (pc := 11) dX6_keep_11 (by decide) ?_
    exact ex_iret (pc := 13) dX6_keep_13 ⟨by unfold opKeep; rw [if_pos (by omega)], by unfold opKeep; rw [if_pos (by omega)]; exact hS0, fun _ _ => rfl⟩ rfl (Nat.le_refl _)

