def shR (f : Nat → Int) (d e : Int) (k : Nat) : Nat → Int := fun q => if 2 ≤ q ∧ q < 2 + k then f q + d else if 16 ≤ q ∧ q < 16 + k then f q + e else f q
theorem shR_at {f : Nat → Int} {d e : Int} {k q : Nat} : shR f d e k q = if 2 ≤ q ∧ q < 2 + k then f q + d else if 16 ≤ q ∧ q < 16 + k then f q + e else f q := rfl
theorem shR_row {f : Nat → Int} {cs : List Int} {mo d e : Int} (h : RowL f 0 cs mo) (hl : cs.length ≤ 14) (hi : ∀ i, i < cs.length → 0 ≤ ptL cs i + e ∧ ptL cs i + e < 12) : RowL (shR f d e cs.length) 0 (cs.map (fun x => x + (d * 12 + e))) mo := by
  obtain ⟨h1, h2, h3⟩ := h
  refine ⟨?_, ?_, fun i hi2 => ?_⟩
  · rw [shR_at, if_neg (by omega), if_neg (by omega), List.length_map]; exact h1
  · rw [shR_at, if_neg (by omega), if_neg (by omega)]; exact h2
  · rw [List.length_map] at hi2
    have h9 := h3 i hi2
    have h8 := hi i hi2
    rw [shR_at, shR_at, if_pos (by omega), if_neg (by omega), if_pos (by omega), h9.1, h9.2]
    unfold tmL ptL at *
    rw [getD_at (cs := cs.map _) (by rw [List.length_map]; exact hi2), List.getElem_map, ← getD_at hi2]
    omega
abbrev mX7_shiftAll : xC := mkC yX7_shiftAll cX7_shiftAll 4 (some .int) 3 300 0 0
set_option maxHeartbeats 4000000 in
set_option maxRecDepth 100000 in
theorem tX7_shiftAll {n : Nat} {w : xW} {s : St} (hS : RefS w s) {d e : Int} : Ctr mX7_shiftAll [xr 55, xi d, xi e] n w (pI (fun v w2 => v = (opShiftAll s d e).1 ∧ RefS w2 (opShiftAll s d e).2 ∧ FrR w w2)) := by
  refine Ctr.of ykX7_shiftAll rfl (Nat.le_of_ble_eq_true rfl) okI (fun hin hW => ?_)
  have hS0 := hS
  obtain ⟨hv, hsc, ⟨pl, mn, pq, cv, sh, be, bg, bc, bp, pa, re, px, h_o⟩, ⟨f, h_n, hR⟩, ⟨g, h_p, hU⟩, hu8, ⟨kf, h_k, hK⟩, hk2, ⟨t, h_t, ht⟩, hlen⟩ := hS
  have hl : s.1.length ≤ 14 := hv.1.2.2.1
  have hl1 : 1 ≤ s.1.length := hv.1.2.1
  have hcd : Cod s.1 := hv.1.1
  show Ex _ _ 0 0 n w 0 [some (xr 55), some (xi d), some (xi e), none] []
  have loop2 : shC s.2.1 d e ∧ (d ≠ 0 ∨ e ≠ 0) → staysAll s.1 d e = true → ∀ (g2 : Nat → Int), RowsL g2 (pushU s.2.2.1 (s.1, s.2.1)) → ∀ (dd k : Nat), k ≤ s.1.length → s.1.length + 1 ≤ k + dd → ∀ (w9 : xW), w9 55 = rO ((pushU s.2.2.1 (s.1, s.2.1)).length) (s.2.2.2.1.length) (s.2.2.2.2.length) pl mn pq cv sh be bg bc bp pa re px → w9 56 = xA 30 (shR f d e k) → w9 59 = xA 240 g2 → w9 60 = xA 60 kf → w9 61 = xA 200 t → (∀ z, z ≠ 55 → z ≠ 56 → z ≠ 59 → w9 z = w z) → Ex mX7_shiftAll (pI (fun v w2 => v = (opShiftAll s d e).1 ∧ RefS w2 (opShiftAll s d e).2 ∧ FrR w w2)) 0 0 n w9 72 [some (xr 55), some (xi d), some (xi e), some (xi k)] [] := by
    intro hmv hall g2 hU2 dd
    have hal0 := staysAll_iff.mp hall
    have hokn : okP (s.1.map (fun x => x + (d * 12 + e)), s.2.1) := by
      refine ⟨?_, by show 1 ≤ (s.1.map _).length; rw [List.length_map]; exact hl1, by show (s.1.map _).length ≤ 14; rw [List.length_map]; exact hl, hv.1.2.2.2⟩
      intro i hi
      have hi : i < (s.1.map (fun x => x + (d * 12 + e))).length := hi
      rw [List.length_map] at hi
      have h1 := hal0 i hi
      have h2 := hcd i hi
      show 0 ≤ (s.1.map (fun x => x + (d * 12 + e))).getD i 0 ∧ (s.1.map (fun x => x + (d * 12 + e))).getD i 0 < 240
      rw [getD_at (cs := s.1.map _) (by rw [List.length_map]; exact hi), List.getElem_map, ← getD_at hi]
      unfold tmL ptL at h1
      omega
    have hsh : -19 ≤ d ∧ d ≤ 19 ∧ -11 ≤ e ∧ e ≤ 11 := by
      have h9 := hmv.1
      unfold shC at h9
      split at h9 <;> omega
    induction dd with
    | zero => intro k h1 h2; omega
    | succ dd ih =>
      intro k h1 h2 w9 h_o h_n h_p h_k h_t hfr
      refine ex_iload_n (pc := 72) dX7_shiftAll_72 rfl ?_
      refine ex_aload_n (pc := 73) dX7_shiftAll_73 rfl ?_
      refine ex_getfield (pc := 74) dX7_shiftAll_74 fk_X7_7 h_o (by rfl) ?_
      refine ex_iconst (pc := 77) dX7_shiftAll_77 (by decide) ?_
      refine ex_iaload (pc := 78) dX7_shiftAll_78 h_n (by omega) (by omega) ?_
      have g0 : shR f d e k (0 : Int).toNat = (s.1.length : Int) := by unfold shR; rw [if_neg (by omega), if_neg (by omega)]; exact hR.1
      rw [g0]
      refine ex_icmp_ge (pc := 79) dX7_shiftAll_79 (tgt := 113) (by decide) (fun c79 => ?_) (fun c79 => ?_)
      · have hk : k = s.1.length := by omega
        subst hk
        have hop : opShiftAll s d e = ((s.1.length : Int), (s.1.map (fun x => x + (d * 12 + e)), s.2.1, pushU s.2.2.1 (s.1, s.2.1), s.2.2.2.1, s.2.2.2.2)) := by unfold opShiftAll; rw [if_neg (fun z => z hmv), if_pos hall]
        have hal := staysAll_iff.mp hall
        refine ex_aload_n (pc := 113) dX7_shiftAll_113 rfl ?_
        refine ex_getfield (pc := 114) dX7_shiftAll_114 fk_X7_7 h_o (by rfl) ?_
        refine ex_iconst (pc := 117) dX7_shiftAll_117 (by decide) ?_
        refine ex_iaload (pc := 118) dX7_shiftAll_118 h_n (by omega) (by omega) ?_
        exact ex_iret (pc := 119) dX7_shiftAll_119 (by rw [hop]; exact ⟨g0, RefS.fin hsc (fun z z1 z2 z3 z4 z5 => hfr z z1 z2 z3) (hv.push hokn) h_o h_n (shR_row hR hl (fun i hi => (hal i hi).2.2)) h_p hU2 (pushU_len hu8) h_k hK hk2 h_t ht hlen⟩) rfl (Nat.le_refl _)
      · have h9 := hR.2.2 k (by omega)
        have e2 : shR f d e k ((2 : Int) + (k : Int)).toNat = tmL s.1 k := by rw [← h9.1, show ((2 : Int) + (k : Int)).toNat = 0 + 2 + k by omega]; unfold shR; rw [if_neg (by omega), if_neg (by omega)]
        have e16 : va_up (shR f d e k) ((2 : Int) + (k : Int)).toNat (tmL s.1 k + d) ((16 : Int) + (k : Int)).toNat = ptL s.1 k := by rw [← h9.2, show ((16 : Int) + (k : Int)).toNat = 0 + 16 + k by omega, show ((2 : Int) + (k : Int)).toNat = 0 + 2 + k by omega, up_n (by omega)]; unfold shR; rw [if_neg (by omega), if_neg (by omega)]
        have hck := hcd k (by omega)
        have htm : 0 ≤ tmL s.1 k ∧ tmL s.1 k < 20 ∧ 0 ≤ ptL s.1 k ∧ ptL s.1 k < 12 := by unfold tmL ptL; omega
        refine ex_aload_n (pc := 82) dX7_shiftAll_82 rfl ?_
        refine ex_getfield (pc := 83) dX7_shiftAll_83 fk_X7_7 h_o (by rfl) ?_
        refine ex_iconst (pc := 86) dX7_shiftAll_86 (by decide) ?_
        refine ex_iload_n (pc := 87) dX7_shiftAll_87 rfl ?_
        refine ex_iadd (pc := 88) dX7_shiftAll_88 (by unfold inI; omega) ?_
        refine ex_dup2 (pc := 89) dX7_shiftAll_89 rfl rfl ?_
        refine ex_iaload (pc := 90) dX7_shiftAll_90 h_n (by omega) (by omega) ?_
        rw [e2]
        refine ex_iload_n (pc := 91) dX7_shiftAll_91 rfl ?_
        refine ex_iadd (pc := 92) dX7_shiftAll_92 (by unfold inI; omega) ?_
        refine ex_iastore (pc := 93) dX7_shiftAll_93 h_n (by omega) (by omega) ?_
        refine ex_up (fun w1 e_w1 => ?_)
        have h1_o := ((congrFun e_w1 55).trans (up_n (by first | assumption | decide | omega))).trans h_o
        have h1_n := (congrFun e_w1 56).trans up_s
        have h1_p := ((congrFun e_w1 59).trans (up_n (by first | assumption | decide | omega))).trans h_p
        have h1_k := ((congrFun e_w1 60).trans (up_n (by first | assumption | decide | omega))).trans h_k
        have h1_t := ((congrFun e_w1 61).trans (up_n (by first | assumption | decide | omega))).trans h_t
        refine ex_aload_n (pc := 94) dX7_shiftAll_94 rfl ?_
        refine ex_getfield (pc := 95) dX7_shiftAll_95 fk_X7_7 h1_o (by rfl) ?_
        refine ex_bipush (pc := 98) dX7_shiftAll_98 (by decide) ?_
        refine ex_iload_n (pc := 100) dX7_shiftAll_100 rfl ?_
        refine ex_iadd (pc := 101) dX7_shiftAll_101 (by unfold inI; omega) ?_
        refine ex_dup2 (pc := 102) dX7_shiftAll_102 rfl rfl ?_
        refine ex_iaload (pc := 103) dX7_shiftAll_103 h1_n (by omega) (by omega) ?_
        rw [e16]
        refine ex_iload_n (pc := 104) dX7_shiftAll_104 rfl ?_
        refine ex_iadd (pc := 105) dX7_shiftAll_105 (by unfold inI; omega) ?_
        refine ex_iastore (pc := 106) dX7_shiftAll_106 h1_n (by omega) (by omega) ?_
        refine ex_up (fun w2 e_w2 => ?_)
        have h2_o := ((congrFun e_w2 55).trans (up_n (by first | assumption | decide | omega))).trans h1_o
        have h2_n := (congrFun e_w2 56).trans up_s
        have h2_p := ((congrFun e_w2 59).trans (up_n (by first | assumption | decide | omega))).trans h1_p
        have h2_k := ((congrFun e_w2 60).trans (up_n (by first | assumption | decide | omega))).trans h1_k
        have h2_t := ((congrFun e_w2 61).trans (up_n (by first | assumption | decide | omega))).trans h1_t
        refine ex_iinc (L2 := [_, _, _, _]) (pc := 107) dX7_shiftAll_107 rfl rfl (Nat.le_of_ble_eq_true rfl) (by unfold inI; omega) rfl ?_
        refine ex_goto (pc := 110) dX7_shiftAll_110 (tgt := 72) (by decide) ?_
        have f2 : ((2 : Int) + (k : Int)).toNat = 2 + k := by omega
        have f16 : ((16 : Int) + (k : Int)).toNat = 16 + k := by omega
        refine ih (k + 1) (by omega) (by omega) w2 h2_o (h2_n.trans ?_) h2_p h2_k h2_t (fun z z1 z2 z3 => by rw [e_w2, up_n z2, e_w1, up_n z2]; exact hfr z z1 z2 z3)
        congr 2
        funext q
        rw [f2, f16]
        by_cases z : q = 16 + k
        · rw [z, up_s]; unfold shR; rw [if_neg (by omega), if_pos (by omega), h9.2.symm, show 0 + 16 + k = 16 + k by omega]
        · rw [up_n z]
          by_cases z2 : q = 2 + k
          · rw [z2, up_s]; unfold shR; rw [if_pos (by omega), h9.1.symm, show 0 + 2 + k = 2 + k by omega]
          · rw [up_n z2]
            unfold shR
            by_cases z3 : 2 ≤ q ∧ q < 2 + k
            · rw [if_pos z3, if_pos (by omega)]
            · rw [if_neg z3]
              by_cases z4 : 16 ≤ q ∧ q < 16 + k
              · rw [if_pos z4, if_neg (by omega), if_pos (by omega)]
              · rw [if_neg z4, if_neg (by omega), if_neg (by omega)]
  have loop : shC s.2.1 d e ∧ (d ≠ 0 ∨ e ≠ 0) → ∀ (dd k : Nat), k ≤ s.1.length → s.1.length + 1 ≤ k + dd → (∀ i, i < k → 0 ≤ tmL s.1 i + d ∧ tmL s.1 i + d < 20 ∧ 0 ≤ ptL s.1 i + e ∧ ptL s.1 i + e < 12) → Ex mX7_shiftAll (pI (fun v w2 => v = (opShiftAll s d e).1 ∧ RefS w2 (opShiftAll s d e).2 ∧ FrR w w2)) 0 0 n w 21 [some (xr 55), some (xi d), some (xi e), some (xi k)] [] := by
    intro hmv dd
    have hsh : -19 ≤ d ∧ d ≤ 19 ∧ -11 ≤ e ∧ e ≤ 11 := by
      have h9 := hmv.1
      unfold shC at h9
      split at h9 <;> omega
    induction dd with
    | zero => intro k h1 h2; omega
    | succ dd ih =>
      intro k h1 h2 hq0
      refine ex_iload_n (pc := 21) dX7_shiftAll_21 rfl ?_
      refine ex_aload_n (pc := 22) dX7_shiftAll_22 rfl ?_
      refine ex_getfield (pc := 23) dX7_shiftAll_23 fk_X7_7 h_o (by rfl) ?_
      refine ex_iconst (pc := 26) dX7_shiftAll_26 (by decide) ?_
      refine ex_iaload (pc := 27) dX7_shiftAll_27 h_n (by omega) (by omega) ?_
      have hz0 : f (0 : Int).toNat = (s.1.length : Int) := hR.1
      rw [hz0]
      refine ex_icmp_ge (pc := 28) dX7_shiftAll_28 (tgt := 66) (by decide) (fun c28 => ?_) (fun c28 => ?_)
      · have hall : staysAll s.1 d e = true := staysAll_iff.mpr (fun i hi => hq0 i (by omega))
        refine ex_aload_n (pc := 66) dX7_shiftAll_66 rfl ?_
        refine ex_callVV (as := []) (pc := 67) dX7_shiftAll_67 (tX7_notes h_o h_n hR hl h_p hU hu8 hv.2.1) lk_X7_100 ykX7_notes vkX7_notes h_o rfl rfl rfl (Nat.le_of_ble_eq_true rfl) ⟨by decide, by decide⟩ ⟨Nat.le_refl _, Nat.le_refl _⟩ (fun w1 p67 => ?_)
        obtain ⟨g2, h1_o, h1_p, hU2, hfA⟩ := p67
        have h1_n := (hfA 56 (by decide) (by decide)).trans h_n
        have h1_k := (hfA 60 (by decide) (by decide)).trans h_k
        have h1_t := (hfA 61 (by decide) (by decide)).trans h_t
        refine ex_iconst (pc := 70) dX7_shiftAll_70 (by decide) ?_
        refine ex_istore_n (L2 := [_, _, _, _]) (pc := 71) dX7_shiftAll_71 rfl (Nat.le_of_ble_eq_true rfl) rfl ?_
        exact loop2 hmv hall g2 hU2 (s.1.length + 1) 0 (by omega) (by omega) w1 h1_o (h1_n.trans (by congr 2; funext q; unfold shR; rw [if_neg (by omega), if_neg (by omega)])) h1_p h1_k h1_t (fun z z1 z2 z3 => hfA z z1 z3)
      · have h9 := hR.2.2 k (by omega)
        have e2 : f ((2 : Int) + (k : Int)).toNat = tmL s.1 k := by rw [← h9.1, show ((2 : Int) + (k : Int)).toNat = 0 + 2 + k by omega]
        have e16 : f ((16 : Int) + (k : Int)).toNat = ptL s.1 k := by rw [← h9.2, show ((16 : Int) + (k : Int)).toNat = 0 + 16 + k by omega]
        have hck := hcd k (by omega)
        have htm : 0 ≤ tmL s.1 k ∧ tmL s.1 k < 20 ∧ 0 ≤ ptL s.1 k ∧ ptL s.1 k < 12 := by unfold tmL ptL; omega
        refine ex_aload_n (pc := 31) dX7_shiftAll_31 rfl ?_
        refine ex_getfield (pc := 32) dX7_shiftAll_32 fk_X7_7 h_o (by rfl) ?_
        refine ex_iconst (pc := 35) dX7_shiftAll_35 (by decide) ?_
        refine ex_iload_n (pc := 36) dX7_shiftAll_36 rfl ?_
        refine ex_iadd (pc := 37) dX7_shiftAll_37 (by unfold inI; omega) ?_
        refine ex_iaload (pc := 38) dX7_shiftAll_38 h_n (by omega) (by omega) ?_
        rw [e2]
        refine ex_iload_n (pc := 39) dX7_shiftAll_39 rfl ?_
        refine ex_iadd (pc := 40) dX7_shiftAll_40 (by unfold inI; omega) ?_
        refine ex_aload_n (pc := 41) dX7_shiftAll_41 rfl ?_
        refine ex_getfield (pc := 42) dX7_shiftAll_42 fk_X7_7 h_o (by rfl) ?_
        refine ex_bipush (pc := 45) dX7_shiftAll_45 (by decide) ?_
        refine ex_iload_n (pc := 47) dX7_shiftAll_47 rfl ?_
        refine ex_iadd (pc := 48) dX7_shiftAll_48 (by unfold inI; omega) ?_
        refine ex_iaload (pc := 49) dX7_shiftAll_49 h_n (by omega) (by omega) ?_
        rw [e16]
        refine ex_iload_n (pc := 50) dX7_shiftAll_50 rfl ?_
        refine ex_iadd (pc := 51) dX7_shiftAll_51 (by unfold inI; omega) ?_
        refine ex_callSZ (as := [_, _]) (pc := 52) dX7_shiftAll_52 (tX7_isThere) lk_X7_96 ykX7_isThere zkX7_isThere rfl rfl (Nat.le_of_ble_eq_true rfl) ⟨by decide, by decide⟩ ⟨Nat.le_refl _, Nat.le_refl _⟩ (fun i52 w1 r52 p52 => ?_)
        obtain ⟨e52, p52⟩ := p52
        rw [e52]
        refine ex_if_ne (pc := 55) dX7_shiftAll_55 (tgt := 60) (by decide) (fun c55 => ?_) (fun c55 => ?_)
        · refine ex_iinc (L2 := [_, _, _, _]) (pc := 60) dX7_shiftAll_60 rfl rfl (Nat.le_of_ble_eq_true rfl) (by unfold inI; omega) rfl ?_
          refine ex_goto (pc := 63) dX7_shiftAll_63 (tgt := 21) (by decide) ?_
          exact ih (k + 1) (by omega) (by omega) (lt_s hq0 (p52.mp (by omega)))
        · refine ex_iconst (pc := 58) dX7_shiftAll_58 (by decide) ?_
          exact ex_iret (pc := 59) dX7_shiftAll_59 ⟨by unfold opShiftAll; rw [if_neg (fun z => z hmv), if_neg (by intro z; have := p52.mpr (staysAll_iff.mp z k (by omega)); omega)], by unfold opShiftAll; rw [if_neg (fun z => z hmv), if_neg (by intro z; have := p52.mpr (staysAll_iff.mp z k (by omega)); omega)]; exact hS0, fun _ _ => rfl⟩ rfl (Nat.le_refl _)
  refine ex_aload_n (pc := 0) dX7_shiftAll_0 rfl ?_
  refine ex_iload_n (pc := 1) dX7_shiftAll_1 rfl ?_
  refine ex_iload_n (pc := 2) dX7_shiftAll_2 rfl ?_
  refine ex_callVZ (as := [_, _]) (pc := 3) dX7_shiftAll_3 (tX7_isShift h_o h_n hR hl) lk_X7_107 ykX7_isShift vkX7_isShift h_o rfl rfl rfl (Nat.le_of_ble_eq_true rfl) ⟨by decide, by decide⟩ ⟨Nat.le_refl _, Nat.le_refl _⟩ (fun i3 w1 r3 p3 => ?_)
  obtain ⟨e3, p3⟩ := p3
  rw [e3]
  refine ex_if_eq (pc := 6) dX7_shiftAll_6 (tgt := 17) (by decide) (fun c6 => ?_) (fun c6 => ?_)
  · refine ex_iconst (pc := 17) dX7_shiftAll_17 (by decide) ?_
    exact ex_iret (pc := 18) dX7_shiftAll_18 ⟨by unfold opShiftAll; rw [if_pos (by intro z; have := p3.mpr z.1; omega)], by unfold opShiftAll; rw [if_pos (by intro z; have := p3.mpr z.1; omega)]; exact hS0, fun _ _ => rfl⟩ rfl (Nat.le_refl _)
  · refine ex_iload_n (pc := 9) dX7_shiftAll_9 rfl ?_
    refine ex_if_ne (pc := 10) dX7_shiftAll_10 (tgt := 19) (by decide) (fun c10 => ?_) (fun c10 => ?_)
    · refine ex_iconst (pc := 19) dX7_shiftAll_19 (by decide) ?_
      refine ex_istore_n (L2 := [_, _, _, _]) (pc := 20) dX7_shiftAll_20 rfl (Nat.le_of_ble_eq_true rfl) rfl ?_
      exact loop ⟨p3.mp (by omega), by omega⟩ (s.1.length + 1) 0 (by omega) (by omega) (fun z hz => absurd hz (Nat.not_lt_zero _))
    · refine ex_iload_n (pc := 13) dX7_shiftAll_13 rfl ?_
      refine ex_if_ne (pc := 14) dX7_shiftAll_14 (tgt := 19) (by decide) (fun c14 => ?_) (fun c14 => ?_)
      · refine ex_iconst (pc := 19) dX7_shiftAll_19 (by decide) ?_
        refine ex_istore_n (L2 := [_, _, _, _]) (pc := 20) dX7_shiftAll_20 rfl (Nat.le_of_ble_eq_true rfl) rfl ?_
        exact loop ⟨p3.mp (by omega), by omega⟩ (s.1.length + 1) 0 (by omega) (by omega) (fun z hz => absurd hz (Nat.not_lt_zero _))
      · refine ex_iconst (pc := 17) dX7_shiftAll_17 (by decide) ?_
        exact ex_iret (pc := 18) dX7_shiftAll_18 ⟨by unfold opShiftAll; rw [if_pos (by intro z; omega)], by unfold opShiftAll; rw [if_pos (by intro z; omega)]; exact hS0, fun _ _ => rfl⟩ rfl (Nat.le_refl _)

