abbrev seO (q : Nat) (wc mo pr sc : Int) : xE := xO 5 [xr (q + 1), xr (q + 2), xr (q + 3), xr (q + 4), xr (q + 5), xi wc, xi mo, xi pr, xr (q + 6), xr (q + 7), xr (q + 8), xi sc]
abbrev mX5_numberAt : xC := mkC yX5_numberAt cX5_numberAt 3 (some .int) 1 100 0 0
set_option maxHeartbeats 4000000 in
set_option maxRecDepth 100000 in
theorem tX5_numberAt {n : Nat} {w : xW} {q : Nat} {wc mo pr sc : Int}  {nu : Nat → Int} (h_q : w q = seO q wc mo pr sc) (h_N : w (q + 3) = xA 240 nu) {t b : Int} (ht : -1000 ≤ t ∧ t ≤ 1000 ∧ -1000 ≤ b ∧ b ≤ 1000) : Ctr mX5_numberAt [xr q, xi t, xi b] n w (pI (fun v w2 => w2 = w ∧ v = nA nu t b)) := by
  refine Ctr.of ykX5_numberAt rfl (Nat.le_of_ble_eq_true rfl) okI (fun hin hW => ?_)
  show Ex _ _ 0 0 n w 0 [some (xr q), some (xi t), some (xi b)] []
  refine ex_iload_n (pc := 0) dX5_numberAt_0 rfl ?_
  refine ex_if_lt (pc := 1) dX5_numberAt_1 (tgt := 20) (by decide) (fun c1 => ?_) (fun c1 => ?_)
  · refine ex_bipush (pc := 20) dX5_numberAt_20 (by decide) ?_
    exact ex_iret (pc := 22) dX5_numberAt_22 ⟨rfl, by unfold nA; first | rw [if_neg (by omega)] | rw [if_pos (by omega)]⟩ rfl (Nat.le_refl _)
  · refine ex_iload_n (pc := 4) dX5_numberAt_4 rfl ?_
    refine ex_bipush (pc := 5) dX5_numberAt_5 (by decide) ?_
    refine ex_icmp_ge (pc := 7) dX5_numberAt_7 (tgt := 20) (by decide) (fun c7 => ?_) (fun c7 => ?_)
    · refine ex_bipush (pc := 20) dX5_numberAt_20 (by decide) ?_
      exact ex_iret (pc := 22) dX5_numberAt_22 ⟨rfl, by unfold nA; first | rw [if_neg (by omega)] | rw [if_pos (by omega)]⟩ rfl (Nat.le_refl _)
    · refine ex_iload_n (pc := 10) dX5_numberAt_10 rfl ?_
      refine ex_if_lt (pc := 11) dX5_numberAt_11 (tgt := 20) (by decide) (fun c11 => ?_) (fun c11 => ?_)
      · refine ex_bipush (pc := 20) dX5_numberAt_20 (by decide) ?_
        exact ex_iret (pc := 22) dX5_numberAt_22 ⟨rfl, by unfold nA; first | rw [if_neg (by omega)] | rw [if_pos (by omega)]⟩ rfl (Nat.le_refl _)
      · refine ex_iload_n (pc := 14) dX5_numberAt_14 rfl ?_
        refine ex_bipush (pc := 15) dX5_numberAt_15 (by decide) ?_
        refine ex_icmp_lt (pc := 17) dX5_numberAt_17 (tgt := 23) (by decide) (fun c17 => ?_) (fun c17 => ?_)
        · refine ex_aload_n (pc := 23) dX5_numberAt_23 rfl ?_
          refine ex_getfield (pc := 24) dX5_numberAt_24 fk_X5_18 h_q (by rfl) ?_
          refine ex_iload_n (pc := 27) dX5_numberAt_27 rfl ?_
          refine ex_bipush (pc := 28) dX5_numberAt_28 (by decide) ?_
          refine ex_imul (pc := 30) dX5_numberAt_30 (by unfold inI; omega) ?_
          refine ex_iload_n (pc := 31) dX5_numberAt_31 rfl ?_
          refine ex_iadd (pc := 32) dX5_numberAt_32 (by unfold inI; omega) ?_
          refine ex_iaload (pc := 33) dX5_numberAt_33 h_N (by omega) (by omega) ?_
          exact ex_iret (pc := 34) dX5_numberAt_34 ⟨rfl, by unfold nA; first | rw [if_neg (by omega)] | rw [if_pos (by omega)]⟩ rfl (Nat.le_refl _)
        · refine ex_bipush (pc := 20) dX5_numberAt_20 (by decide) ?_
          exact ex_iret (pc := 22) dX5_numberAt_22 ⟨rfl, by unfold nA; first | rw [if_neg (by omega)] | rw [if_pos (by omega)]⟩ rfl (Nat.le_refl _)

abbrev mX5_met : xC := mkC yX5_met cX5_met 7 (some .int) 2 200 0 0
set_option maxHeartbeats 4000000 in
set_option maxRecDepth 100000 in
theorem tX5_met {n : Nat} {w : xW} {q : Nat} {wc mo pr sc : Int}  {tf : Nat → Int} {pf : Nat → Int} {nu : Nat → Int} (h_q : w q = seO q wc mo pr sc) (h_T : w (q + 1) = xA 14 tf) (h_P : w (q + 2) = xA 14 pf) (h_N : w (q + 3) = xA 240 nu) {a : Nat} {d e : Int} (ha : a < 14) (hb : ∀ k, k < 14 → -300 ≤ tf k ∧ tf k ≤ 300 ∧ -300 ≤ pf k ∧ pf k ≤ 300) (hd : -300 ≤ d ∧ d ≤ 300 ∧ -300 ≤ e ∧ e ≤ 300) : Ctr mX5_met [xr q, xi a, xi d, xi e] n w (pI (fun v w2 => w2 = w ∧ v = metF tf pf nu mo a d e)) := by
  refine Ctr.of ykX5_met rfl (Nat.le_of_ble_eq_true rfl) okI (fun hin hW => ?_)
  show Ex _ _ 0 0 n w 0 [some (xr q), some (xi a), some (xi d), some (xi e), none, none, none] []
  refine ex_iload_n (pc := 0) dX5_met_0 rfl ?_
  refine ex_if_lt (pc := 1) dX5_met_1 (tgt := 10) (by decide) (fun c1 => by exfalso; omega) (fun c1 => ?_)
  refine ex_iload_n (pc := 4) dX5_met_4 rfl ?_
  refine ex_bipush (pc := 5) dX5_met_5 (by decide) ?_
  refine ex_icmp_lt (pc := 7) dX5_met_7 (tgt := 13) (by decide) (fun c7 => ?_) (fun c7 => by exfalso; omega)
  refine ex_aload_n (pc := 13) dX5_met_13 rfl ?_
  refine ex_getfield (pc := 14) dX5_met_14 fk_X5_9 h_q (by rfl) ?_
  refine ex_iload_n (pc := 17) dX5_met_17 rfl ?_
  refine ex_iaload (pc := 18) dX5_met_18 h_T (by omega) (by omega) ?_
  have hk1 : ((a : Int)).toNat = a := by omega
  have hba := hb a (by omega)
  rw [hk1]
  refine ex_iload_n (pc := 19) dX5_met_19 rfl ?_
  refine ex_iadd (pc := 20) dX5_met_20 (by unfold inI; omega) ?_
  refine ex_istore (L2 := [_, _, _, _, _, _, _]) (pc := 21) dX5_met_21 rfl (Nat.le_of_ble_eq_true rfl) rfl ?_
  refine ex_aload_n (pc := 23) dX5_met_23 rfl ?_
  refine ex_getfield (pc := 24) dX5_met_24 fk_X5_15 h_q (by rfl) ?_
  refine ex_iload_n (pc := 27) dX5_met_27 rfl ?_
  refine ex_iaload (pc := 28) dX5_met_28 h_P (by omega) (by omega) ?_
  rw [hk1]
  refine ex_iload_n (pc := 29) dX5_met_29 rfl ?_
  refine ex_iadd (pc := 30) dX5_met_30 (by unfold inI; omega) ?_
  refine ex_istore (L2 := [_, _, _, _, _, _, _]) (pc := 31) dX5_met_31 rfl (Nat.le_of_ble_eq_true rfl) rfl ?_
  refine ex_aload_n (pc := 33) dX5_met_33 rfl ?_
  refine ex_getfield (pc := 34) dX5_met_34 fk_X5_42 h_q (by rfl) ?_
  refine ex_iconst (pc := 37) dX5_met_37 (by decide) ?_
  refine ex_icmp_ne (pc := 38) dX5_met_38 (tgt := 55) (by decide) (fun c38 => ?_) (fun c38 => ?_)
  · refine ex_aload_n (pc := 55) dX5_met_55 rfl ?_
    refine ex_iload (pc := 56) dX5_met_56 rfl ?_
    refine ex_iload (pc := 58) dX5_met_58 rfl ?_
    refine ex_callVI (as := [_, _]) (pc := 60) dX5_met_60 (tX5_numberAt h_q h_N (by omega)) lk_X5_129 ykX5_numberAt vkX5_numberAt h_q rfl rfl rfl (Nat.le_of_ble_eq_true rfl) ⟨by decide, by decide⟩ ⟨Nat.le_refl _, Nat.le_refl _⟩ (fun i60 w1 r60 p60 => ?_)
    obtain ⟨e60, p60⟩ := p60
    subst e60
    refine ex_istore (L2 := [_, _, _, _, _, _, _]) (pc := 63) dX5_met_63 rfl (Nat.le_of_ble_eq_true rfl) rfl ?_
    refine ex_iload (pc := 65) dX5_met_65 rfl ?_
    refine ex_if_ge (pc := 67) dX5_met_67 (tgt := 107) (by decide) (fun c67 => ?_) (fun c67 => ?_)
    · refine ex_iload (pc := 107) dX5_met_107 rfl ?_
      exact ex_iret (pc := 109) dX5_met_109 ⟨rfl, by unfold metF; rw [if_neg c38, ← p60, if_neg (by omega)]⟩ rfl (Nat.le_refl _)
    · refine ex_aload_n (pc := 70) dX5_met_70 rfl ?_
      refine ex_getfield (pc := 71) dX5_met_71 fk_X5_42 h_q (by rfl) ?_
      refine ex_iconst (pc := 74) dX5_met_74 (by decide) ?_
      refine ex_icmp_ne (pc := 75) dX5_met_75 (tgt := 107) (by decide) (fun c75 => ?_) (fun c75 => ?_)
      · refine ex_iload (pc := 107) dX5_met_107 rfl ?_
        exact ex_iret (pc := 109) dX5_met_109 ⟨rfl, by unfold metF; rw [if_neg c38, ← p60, if_neg (by omega)]⟩ rfl (Nat.le_refl _)
      · refine ex_aload_n (pc := 78) dX5_met_78 rfl ?_
        refine ex_iload (pc := 79) dX5_met_79 rfl ?_
        refine ex_iload (pc := 81) dX5_met_81 rfl ?_
        refine ex_iconst (pc := 83) dX5_met_83 (by decide) ?_
        refine ex_isub (pc := 84) dX5_met_84 (by unfold inI; omega) ?_
        refine ex_callVI (as := [_, _]) (pc := 85) dX5_met_85 (tX5_numberAt h_q h_N (by omega)) lk_X5_129 ykX5_numberAt vkX5_numberAt h_q rfl rfl rfl (Nat.le_of_ble_eq_true rfl) ⟨by decide, by decide⟩ ⟨Nat.le_refl _, Nat.le_refl _⟩ (fun i85 w1 r85 p85 => ?_)
        obtain ⟨e85, p85⟩ := p85
        subst e85
        refine ex_istore (L2 := [_, _, _, _, _, _, _]) (pc := 88) dX5_met_88 rfl (Nat.le_of_ble_eq_true rfl) rfl ?_
        refine ex_iload (pc := 90) dX5_met_90 rfl ?_
        refine ex_if_ge (pc := 92) dX5_met_92 (tgt := 107) (by decide) (fun c92 => ?_) (fun c92 => ?_)
        · refine ex_iload (pc := 107) dX5_met_107 rfl ?_
          exact ex_iret (pc := 109) dX5_met_109 ⟨rfl, by unfold metF; rw [if_neg c38, ← p60, if_pos (by omega), ← p85, if_neg (by omega)]⟩ rfl (Nat.le_refl _)
        · refine ex_aload_n (pc := 95) dX5_met_95 rfl ?_
          refine ex_iload (pc := 96) dX5_met_96 rfl ?_
          refine ex_iload (pc := 98) dX5_met_98 rfl ?_
          refine ex_iconst (pc := 100) dX5_met_100 (by decide) ?_
          refine ex_iadd (pc := 101) dX5_met_101 (by unfold inI; omega) ?_
          refine ex_callVI (as := [_, _]) (pc := 102) dX5_met_102 (tX5_numberAt h_q h_N (by omega)) lk_X5_129 ykX5_numberAt vkX5_numberAt h_q rfl rfl rfl (Nat.le_of_ble_eq_true rfl) ⟨by decide, by decide⟩ ⟨Nat.le_refl _, Nat.le_refl _⟩ (fun i102 w1 r102 p102 => ?_)
          obtain ⟨e102, p102⟩ := p102
          subst e102
          refine ex_istore (L2 := [_, _, _, _, _, _, _]) (pc := 105) dX5_met_105 rfl (Nat.le_of_ble_eq_true rfl) rfl ?_
          refine ex_iload (pc := 107) dX5_met_107 rfl ?_
          exact ex_iret (pc := 109) dX5_met_109 ⟨rfl, by unfold metF; rw [if_neg c38, ← p60, if_pos (by omega), ← p85, if_pos (by omega), ← p102]⟩ rfl (Nat.le_refl _)
  · refine ex_aload_n (pc := 41) dX5_met_41 rfl ?_
    refine ex_iload (pc := 42) dX5_met_42 rfl ?_
    refine ex_iload (pc := 44) dX5_met_44 rfl ?_
    refine ex_bipush (pc := 46) dX5_met_46 (by decide) ?_
    refine ex_callSI (as := [_, _]) (pc := 48) dX5_met_48 (tJ9_floorMod_7cf53) lk_X5_87 ykJ9_floorMod_7cf53 zkJ9_floorMod_7cf53 rfl rfl (Nat.le_of_ble_eq_true rfl) ⟨by decide, by decide⟩ ⟨Nat.le_refl _, Nat.le_refl _⟩ (fun i48 w1 r48 p48 => ?_)
    obtain ⟨e48, p48⟩ := p48
    subst e48
    refine ex_callVI (as := [_, _]) (pc := 51) dX5_met_51 (tX5_numberAt h_q h_N (by omega)) lk_X5_129 ykX5_numberAt vkX5_numberAt h_q rfl rfl rfl (Nat.le_of_ble_eq_true rfl) ⟨by decide, by decide⟩ ⟨Nat.le_refl _, Nat.le_refl _⟩ (fun i51 w1 r51 p51 => ?_)
    obtain ⟨e51, p51⟩ := p51
    subst e51
    exact ex_iret (pc := 54) dX5_met_54 ⟨rfl, by unfold metF; rw [if_pos c38, p51, p48]⟩ rfl (Nat.le_refl _)

def entF (lb : Nat → Nat) (a : Nat) (d e : Int) : Nat → Nat := if -19 ≤ d ∧ d ≤ 19 ∧ -11 ≤ e ∧ e ≤ 11 then va_up lb ((d + 19) * 23 + e + 11).toNat (lb ((d + 19) * 23 + e + 11).toNat ||| 2 ^ a) else lb
theorem entF_lt {lb : Nat → Nat} (h : ∀ k, lb k < 16384) {a : Nat} (ha : a < 14) {d e : Int} : ∀ k, entF lb a d e k < 16384 := by
  intro k
  unfold entF
  split
  · by_cases q : k = ((d + 19) * 23 + e + 11).toNat
    · rw [q, up_s]
      exact Nat.or_lt_two_pow (n := 14) (h _) (Nat.pow_lt_pow_right (by decide) ha)
    · rw [up_n q]; exact h k
  · exact h k
theorem entF_bit {lb : Nat → Nat} {a : Nat} {d e : Int} {k b : Nat} (hk : k < 897) : (entF lb a d e k).testBit b = true ↔ (lb k).testBit b = true ∨ (d = dK k ∧ e = eK k ∧ b = a) := by
  unfold entF dK eK
  split
  · rename_i h
    by_cases q : k = ((d + 19) * 23 + e + 11).toNat
    · rw [← q, up_s, Nat.testBit_or, Nat.testBit_two_pow]
      simp only [Bool.or_eq_true, decide_eq_true_eq]
      constructor
      · rintro (z | z)
        · exact Or.inl z
        · exact Or.inr ⟨by omega, by omega, z.symm⟩
      · rintro (z | ⟨-, -, z⟩)
        · exact Or.inl z
        · exact Or.inr z.symm
    · rw [up_n q]
      constructor
      · exact Or.inl
      · rintro (z | ⟨z1, z2, -⟩)
        · exact z
        · exfalso; omega
  · rename_i h
    constructor
    · exact Or.inl
    · rintro (z | ⟨z1, z2, -⟩)
      · exact z
      · exfalso; omega
abbrev mX5_enter : xC := mkC yX5_enter cX5_enter 4 none 2 200 0 0
set_option maxHeartbeats 4000000 in
set_option maxRecDepth 100000 in
theorem tX5_enter {n : Nat} {w : xW} {q : Nat} {wc mo pr sc : Int}  {lb : Nat → Nat} (h_q : w q = seO q wc mo pr sc) (h_A : w (q + 4) = xA 897 (fun i => (lb i : Int))) (hlb : ∀ k, lb k < 16384) {a : Nat} (ha : a < 14) {d e : Int} (hde : -300 ≤ d ∧ d ≤ 300 ∧ -300 ≤ e ∧ e ≤ 300) : Ctr mX5_enter [xr q, xi a, xi d, xi e] n w (pV (fun w2 => w2 = va_up w (q + 4) (xA 897 (fun i => (entF lb a d e i : Int))))) := by
  refine Ctr.of ykX5_enter rfl (Nat.le_of_ble_eq_true rfl) okV (fun hin hW => ?_)
  show Ex _ _ 0 0 n w 0 [some (xr q), some (xi a), some (xi d), some (xi e)] []
  refine ex_iload_n (pc := 0) dX5_enter_0 rfl ?_
  refine ex_iload_n (pc := 1) dX5_enter_1 rfl ?_
  refine ex_callSZ (as := [_, _]) (pc := 2) dX5_enter_2 (tX5_isHeld) lk_X5_96 ykX5_isHeld zkX5_isHeld rfl rfl (Nat.le_of_ble_eq_true rfl) ⟨by decide, by decide⟩ ⟨Nat.le_refl _, Nat.le_refl _⟩ (fun i2 w1 r2 p2 => ?_)
  obtain ⟨e2, p2⟩ := p2
  subst e2
  refine ex_if_eq (pc := 5) dX5_enter_5 (tgt := 24) (by decide) (fun c5 => ?_) (fun c5 => ?_)
  · exact ex_vret (pc := 24) dX5_enter_24 (by unfold entF; rw [if_neg (by omega)]; exact (up_self h_A).symm) rfl (Nat.le_refl _)
  · refine ex_aload_n (pc := 8) dX5_enter_8 rfl ?_
    refine ex_getfield (pc := 9) dX5_enter_9 fk_X5_21 h_q (by rfl) ?_
    refine ex_iload_n (pc := 12) dX5_enter_12 rfl ?_
    refine ex_iload_n (pc := 13) dX5_enter_13 rfl ?_
    refine ex_callSI (as := [_, _]) (pc := 14) dX5_enter_14 (tX5_shiftOf (by omega)) lk_X5_99 ykX5_shiftOf zkX5_shiftOf rfl rfl (Nat.le_of_ble_eq_true rfl) ⟨by decide, by decide⟩ ⟨Nat.le_refl _, Nat.le_refl _⟩ (fun i14 w1 r14 p14 => ?_)
    obtain ⟨e14, p14⟩ := p14
    subst e14
    subst p14
    refine ex_dup2 (pc := 17) dX5_enter_17 rfl rfl ?_
    refine ex_iaload (pc := 18) dX5_enter_18 h_A (by omega) (by omega) ?_
    refine ex_iconst (pc := 19) dX5_enter_19 (by decide) ?_
    refine ex_iload_n (pc := 20) dX5_enter_20 rfl ?_
    refine ex_ishl (pc := 21) dX5_enter_21 ?_
    rw [show ((1 : Int)) = 1 from rfl]
    refine ex_eq (xshl_n a (by omega)) ?_
    refine ex_ior (pc := 22) dX5_enter_22 ?_
    refine ex_eq (xor_n (by have := hlb ((d + 19) * 23 + e + 11).toNat; omega) (Nat.lt_of_lt_of_le (Nat.pow_lt_pow_right (by decide) ha) (by decide))) ?_
    refine ex_iastore (pc := 23) dX5_enter_23 h_A (by omega) (by omega) ?_
    refine ex_up (fun w1 e_w2 => ?_)
    have h1_q := ((congrFun e_w2 q).trans (up_n (by first | assumption | decide | omega))).trans h_q
    have h1_A := (congrFun e_w2 (q + 4)).trans up_s
    exact ex_vret (pc := 24) dX5_enter_24 (by
  rw [e_w2]
  unfold entF
  rw [if_pos (by omega)]
  congr 2
  funext z
  by_cases y : z = ((d + 19) * 23 + e + 11).toNat
  · rw [y, up_s, up_s]
  · rw [up_n y, up_n y]) rfl (Nat.le_refl _)

