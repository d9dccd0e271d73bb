def bB (a i : Nat) : Nat := a / 2 ^ i % 2
theorem pcb (a i : Nat) : bB a i = if a.testBit i then 1 else 0 := by
  unfold bB
  rw [Nat.testBit_eq_decide_div_mod_eq]
  have := Nat.mod_two_eq_zero_or_one (a / 2 ^ i)
  split
  · rename_i h; exact of_decide_eq_true h
  · rename_i h
    have h2 : ¬ (a / 2 ^ i % 2 = 1) := fun q => h (decide_eq_true q)
    exact this.resolve_right h2
theorem pc14_sum (a : Nat) : pc14 a = bB a 0 + bB a 1 + bB a 2 + bB a 3 + bB a 4 + bB a 5 + bB a 6 + bB a 7 + bB a 8 + bB a 9 + bB a 10 + bB a 11 + bB a 12 + bB a 13 := by
  simp only [pc14, bB, Nat.pow_zero, Nat.div_one, Nat.reducePow]
theorem pc_mono {a b : Nat} (h : ∀ i, b.testBit i = true → a.testBit i = true) : pc14 b ≤ pc14 a := by
  have k : ∀ i, bB b i ≤ bB a i := by
    intro i
    rw [pcb, pcb]
    by_cases q : b.testBit i = true
    · rw [if_pos q, if_pos (h i q)]; exact Nat.le_refl _
    · rw [if_neg q]; exact Nat.zero_le _
  rw [pc14_sum, pc14_sum]
  have k0 := k 0
  have k1 := k 1
  have k2 := k 2
  have k3 := k 3
  have k4 := k 4
  have k5 := k 5
  have k6 := k 6
  have k7 := k 7
  have k8 := k 8
  have k9 := k 9
  have k10 := k 10
  have k11 := k 11
  have k12 := k 12
  have k13 := k 13
  omega
theorem pc_dif {a c : Nat} (h : ∀ i, c.testBit i = true → a.testBit i = true) : pc14 (dif a c) + pc14 c = pc14 a := by
  have k : ∀ i, bB (dif a c) i + bB c i = bB a i := by
    intro i
    rw [pcb, pcb, pcb, dif_bit]
    by_cases q : c.testBit i = true
    · simp [q, h i q]
    · simp [q]
  rw [pc14_sum, pc14_sum, pc14_sum]
  have k0 := k 0
  have k1 := k 1
  have k2 := k 2
  have k3 := k 3
  have k4 := k 4
  have k5 := k 5
  have k6 := k 6
  have k7 := k 7
  have k8 := k 8
  have k9 := k 9
  have k10 := k 10
  have k11 := k 11
  have k12 := k 12
  have k13 := k 13
  omega
theorem and_sub {a s : Nat} : (a &&& s) = s ↔ ∀ i, s.testBit i = true → a.testBit i = true := by
  constructor
  · intro h i hi
    have : (a &&& s).testBit i = true := by rw [h]; exact hi
    rw [Nat.testBit_and, Bool.and_eq_true] at this
    exact this.1
  · intro h
    apply Nat.eq_of_testBit_eq
    intro i
    rw [Nat.testBit_and]
    cases e : s.testBit i with
    | false => simp
    | true => simp [h i e]
theorem two_mono {a s : Nat} (ha : a < 16384) (hs : s < 16384) (h : (a &&& s) = s) (h2 : two s = true) : two a = true := by
  rw [two_iff] at *
  have h1 := (pc_low hs).2.mpr h2
  have h3 := pc_mono (and_sub.mp h)
  exact (pc_low ha).2.mp (by omega)
theorem two_ne {s : Nat} (h : two s = true) : s ≠ 0 := by
  rw [two_iff] at h
  rintro rfl
  exact h rfl
/-- places and cover while the shifts below k are looked at -/
def acS (cs : List Int) (mo : Int) (pr set k : Nat) : Nat × Nat := ((List.range k).filter (fun k => lgS cs mo pr k &&& set == set)).foldl (fun a k => (a.1 + 1, cvG (mtS cs mo pr) set k 14 a.2)) (0, 0)
theorem acS_y {cs : List Int} {mo : Int} {pr set k : Nat} (h : (lgS cs mo pr k &&& set) = set) : acS cs mo pr set (k + 1) = ((acS cs mo pr set k).1 + 1, cvG (mtS cs mo pr) set k 14 (acS cs mo pr set k).2) := by
  unfold acS
  rw [filt_s, if_pos (beq_iff_eq.mpr h), List.foldl_append]; rfl
theorem acS_n {cs : List Int} {mo : Int} {pr set k : Nat} (h : ¬ (lgS cs mo pr k &&& set) = set) : acS cs mo pr set (k + 1) = acS cs mo pr set k := by
  unfold acS
  rw [filt_s, if_neg (fun q => h (beq_iff_eq.mp q)), List.append_nil]
theorem acS_lt {cs : List Int} {mo : Int} {pr set k : Nat} (hl : cs.length ≤ 14) : (acS cs mo pr set k).2 < 16384 ∧ (acS cs mo pr set k).1 ≤ k := by
  have := pcG_fold_lt (mt := mtS cs mo pr) (set := set) (fun i k _ _ => mtS_lt hl) ((List.range k).filter (fun k => lgS cs mo pr k &&& set == set)) (0, 0) (by decide)
  have h2 := filt_len (fun k => lgS cs mo pr k &&& set == set) k
  unfold acS
  refine ⟨this.1, ?_⟩
  rw [this.2]
  show 0 + _ ≤ k
  omega
theorem acS_pc {cs : List Int} {mo : Int} {pr set : Nat} (hs : set < 16384) (h2 : two set = true) : acS cs mo pr set 897 = pcS cs mo pr set := by
  have e : ∀ R : List Nat, (R.filter (fun k => two (lgS cs mo pr k))).filter (fun k => lgS cs mo pr k &&& set == set) = R.filter (fun k => lgS cs mo pr k &&& set == set) := by
    intro R
    rw [List.filter_filter]
    apply List.filter_congr
    intro k _
    cases e : (lgS cs mo pr k &&& set == set) with
    | false => simp
    | true => simp [two_mono (lgS_lt cs mo pr k) hs (beq_iff_eq.mp e) h2]
  unfold acS pcS pcG wdL
  rw [e]
theorem cvG_over {mt : Nat → Nat → Int} {set k c N : Nat} (h : ∀ i, N ≤ i → set.testBit i = false) : ∀ i, N ≤ i → cvG mt set k i c = cvG mt set k N c := by
  intro i
  induction i with
  | zero => intro hi; rw [show N = 0 by omega]
  | succ i ih =>
    intro hi
    by_cases e : N = i + 1
    · rw [e]
    · rw [cvG_s, h i (by omega), Bool.false_and, if_neg (by decide)]
      exact ih (by omega)
abbrev mX7_looksAt : xC := mkC yX7_looksAt cX7_looksAt 5 none 5 500 0 0
set_option maxHeartbeats 4000000 in
set_option maxRecDepth 100000 in
theorem tX7_looksAt {n : Nat} {W : xW} {a : Nat} {f nu lg : Nat → Int} {cs : List Int} {mo m9 : Int} {pr set : Nat} {uu kk ln pl pq cv sh be bg bc bp pa re px : Int} (h_o : W 55 = rO uu kk ln pl (mo) pq cv sh be bg bc bp pa re px) (h_T : W a = xA 30 f) (hR : RowL f 0 cs m9) (h_A : W 62 = xA 240 nu) (hnu : ∀ z, z < 240 → nu z = nuS cs pr cs.length z) (h_G : W 63 = xA 897 lg) (hlg : ∀ k, k < 897 → lg k = (lgS cs mo pr k : Int)) (ha : a = 56 ∨ a = 58) (hl : cs.length ≤ 14) (hcd : Cod cs) (hprl : pr < 2 ^ cs.length) (hs : set < 16384) (h2 : two set = true) : Ctr mX7_looksAt [xr 55, xr a, xi set] n W (pV (fun w2 => w2 55 = rO uu kk ln pl (mo) ((pcS cs mo pr set).1) ((pcS cs mo pr set).2) sh be bg bc bp pa re px ∧ ∀ z, z ≠ 55 → w2 z = W z)) := by
  refine Ctr.of ykX7_looksAt rfl (Nat.le_of_ble_eq_true rfl) okV (fun hin hW => ?_)
  show Ex _ _ 0 0 n W 0 [some (xr 55), some (xr a), some (xi set), none, none] []
  have hnr : ∀ z, z < 240 → nu z = -4 ∨ 0 ≤ nu z := fun z hz => by rw [hnu z hz]; rcases nuS_rng cs pr cs.length z with q | q <;> omega
  have L1 : ∀ (d k : Nat), k ≤ 897 → 898 ≤ k + d → ∀ (w : xW) (pI cI9 : Int) (x4 : Option xV), pI = ((acS cs mo pr set k).1 : Int) → cI9 = ((acS cs mo pr set k).2 : Int) → w 55 = rO uu kk ln pl (mo) (pI) (cI9) sh be bg bc bp pa re px → w a = xA 30 f → w 62 = xA 240 nu → w 63 = xA 897 lg → (∀ z, z ≠ 55 → w z = W z) → Ex mX7_looksAt (pV (fun w2 => w2 55 = rO uu kk ln pl (mo) ((pcS cs mo pr set).1) ((pcS cs mo pr set).2) sh be bg bc bp pa re px ∧ ∀ z, z ≠ 55 → w2 z = W z)) 0 0 n w 12 [some (xr 55), some (xr a), some (xi set), some (xi k), x4] [] := by
    intro d
    induction d with
    | zero => intro k q1 q2; omega
    | succ d ih =>
      intro k q1 q2 w pI cI9 x4 hp hc h_o h_T h_A h_G hfr
      have hac := acS_lt (cs := cs) (mo := mo) (pr := pr) (set := set) (k := k) hl
      by_cases hk8 : k < 897
      · have hk9 : k < 897 := hk8
        have L2 : (lgS cs mo pr k &&& set) = set → ∀ (d2 i : Nat), i ≤ cs.length → cs.length + 1 ≤ i + d2 → ∀ (w : xW) (pI cI9 : Int), pI = (((acS cs mo pr set k).1 + 1 : Nat) : Int) → cI9 = (cvG (mtS cs mo pr) set k i (acS cs mo pr set k).2 : Int) → w 55 = rO uu kk ln pl (mo) (pI) (cI9) sh be bg bc bp pa re px → w a = xA 30 f → w 62 = xA 240 nu → w 63 = xA 897 lg → (∀ z, z ≠ 55 → w z = W z) → Ex mX7_looksAt (pV (fun w2 => w2 55 = rO uu kk ln pl (mo) ((pcS cs mo pr set).1) ((pcS cs mo pr set).2) sh be bg bc bp pa re px ∧ ∀ z, z ≠ 55 → w2 z = W z)) 0 0 n w 44 [some (xr 55), some (xr a), some (xi set), some (xi k), some (xi i)] [] := by
          intro hQ d2
          have hneg : ¬ (mo = 1 ∧ eK k < 0) := by
            intro q
            rw [lgS_neg q, Nat.zero_and] at hQ
            exact two_ne h2 hQ.symm
          have hover : ∀ i, cs.length ≤ i → set.testBit i = false := by
            intro i hi
            cases e : set.testBit i with
            | false => rfl
            | true =>
              have := (lgS_met hcd hl hprl hk9 hneg i).mp (and_sub.mp hQ i e)
              have := bit_len hprl this.1
              omega
          induction d2 with
          | zero => intro i q1 q2; omega
          | succ d2 ih2 =>
            intro i q1 q2 w pI cI9 hp hc h_o h_T h_A h_G hfr
            refine ex_iload (pc := 44) dX7_looksAt_44 rfl ?_
            refine ex_aload_n (pc := 46) dX7_looksAt_46 rfl ?_
            refine ex_iconst (pc := 47) dX7_looksAt_47 (by decide) ?_
            refine ex_iaload (pc := 48) dX7_looksAt_48 h_T (by omega) (by omega) ?_
            have hz0 : f (0 : Int).toNat = (cs.length : Int) := hR.1
            rw [hz0]
            refine ex_icmp_ge (pc := 49) dX7_looksAt_49 (tgt := 103) (by decide) (fun c49 => ?_) (fun c49 => ?_)
            · refine ex_iinc (L2 := [_, _, _, _, _]) (pc := 103) dX7_looksAt_103 rfl rfl (Nat.le_of_ble_eq_true rfl) (by unfold inI; omega) rfl ?_
              refine ex_goto (pc := 106) dX7_looksAt_106 (tgt := 12) (by decide) ?_
              exact ih (k + 1) (by omega) (by omega) w pI _ _ (by rw [acS_y hQ]; exact hp) (by rw [acS_y hQ, hc]; show _ = ((cvG (mtS cs mo pr) set k 14 (acS cs mo pr set k).2 : Nat) : Int); rw [cvG_over hover 14 hl, show i = cs.length by omega]) h_o h_T h_A h_G hfr
            · refine ex_aload_n (pc := 52) dX7_looksAt_52 rfl ?_
              refine ex_dup (pc := 53) dX7_looksAt_53 rfl ?_
              refine ex_getfield (pc := 54) dX7_looksAt_54 fk_X7_129 h_o (by rfl) ?_
              have hbl : cvG (mtS cs mo pr) set k i (acS cs mo pr set k).2 < 2 ^ 31 := Nat.lt_trans (cvG_lt (fun i _ _ => mtS_lt hl) i _ (by omega) (acS_lt hl).1) (by decide)
              refine ex_iload_n (pc := 57) dX7_looksAt_57 rfl ?_
              refine ex_iload (pc := 58) dX7_looksAt_58 rfl ?_
              refine ex_callSZ (as := [_, _]) (pc := 60) dX7_looksAt_60 (tX7_has (by omega) (by omega)) lk_X7_116 ykX7_has zkX7_has rfl rfl (Nat.le_of_ble_eq_true rfl) ⟨by decide, by decide⟩ ⟨Nat.le_refl _, Nat.le_refl _⟩ (fun i60 w1 r60 p60 => ?_)
              obtain ⟨e60, p60⟩ := p60
              rw [e60]
              refine ex_if_eq (pc := 63) dX7_looksAt_63 (tgt := 92) (by decide) (fun c63 => ?_) (fun c63 => ?_)
              · refine ex_iconst (pc := 92) dX7_looksAt_92 (by decide) ?_
                refine ex_ior (pc := 93) dX7_looksAt_93 ?_
                refine ex_putA (pc := 94) dX7_looksAt_94 fk_X7_129 (ty := tyX7 14) (fun _ _ _ h9 => by cases h9; exact ⟨tyX7_ok 14 (by decide), rfl⟩) h_o (Nat.le_of_ble_eq_true rfl) (fun _ => rfl) (fun _ => rfl) ?_
                refine ex_up (fun w1 e_w1 => ?_)
                have h1_o := (congrFun e_w1 55).trans up_s
                have h1_A := ((congrFun e_w1 62).trans (up_n (by first | assumption | decide | omega))).trans h_A
                have h1_G := ((congrFun e_w1 63).trans (up_n (by first | assumption | decide | omega))).trans h_G
                have h1_T := ((congrFun e_w1 a).trans (up_n (by first | assumption | decide | omega))).trans h_T
                refine ex_iinc (L2 := [_, _, _, _, _]) (pc := 97) dX7_looksAt_97 rfl rfl (Nat.le_of_ble_eq_true rfl) (by unfold inI; omega) rfl ?_
                refine ex_goto (pc := 100) dX7_looksAt_100 (tgt := 44) (by decide) ?_
                exact ih2 (i + 1) (by omega) (by omega) w1 pI _ hp (by rw [hc, xor_0 hbl, cvG_s, if_neg (by rw [Bool.and_eq_true]; exact fun q => absurd (p60.mpr q.1) (by omega))]) h1_o h1_T h1_A h1_G (fun z z1 => by rw [e_w1, up_n z1]; exact hfr z z1)
              · have hbit := p60.mp (by omega)
                have hge : 0 ≤ mtS cs mo pr i k := ((lgS_met hcd hl hprl hk9 hneg i).mp (and_sub.mp hQ i hbit)).2
                have hlt := mtS_lt (mo := mo) (pr := pr) (i := i) (k := k) hl
                have hmt : metF (tmL cs) (ptL cs) nu mo i ((k : Int) / 23 - 19) ((k : Int) % 23 - 11) = mtS cs mo pr i k := metF_congr hnu rfl rfl
                refine ex_iconst (pc := 66) dX7_looksAt_66 (by decide) ?_
                refine ex_aload_n (pc := 67) dX7_looksAt_67 rfl ?_
                refine ex_aload_n (pc := 68) dX7_looksAt_68 rfl ?_
                refine ex_iload (pc := 69) dX7_looksAt_69 rfl ?_
                refine ex_iload_n (pc := 71) dX7_looksAt_71 rfl ?_
                refine ex_bipush (pc := 72) dX7_looksAt_72 (by decide) ?_
                refine ex_idiv (pc := 74) dX7_looksAt_74 (by omega) (by omega) ?_
                refine ex_bipush (pc := 75) dX7_looksAt_75 (by decide) ?_
                refine ex_isub (pc := 77) dX7_looksAt_77 (by unfold inI; omega) ?_
                refine ex_iload_n (pc := 78) dX7_looksAt_78 rfl ?_
                refine ex_bipush (pc := 79) dX7_looksAt_79 (by decide) ?_
                refine ex_irem (pc := 81) dX7_looksAt_81 (by omega) (by omega) ?_
                refine ex_bipush (pc := 82) dX7_looksAt_82 (by decide) ?_
                refine ex_isub (pc := 84) dX7_looksAt_84 (by unfold inI; omega) ?_
                refine ex_callVI (as := [_, _, _, _]) (pc := 85) dX7_looksAt_85 (tX7_metBy h_o h_T hR h_A hl hcd hnr (by omega) (by omega)) lk_X7_122 ykX7_metBy vkX7_metBy h_o rfl rfl rfl (Nat.le_of_ble_eq_true rfl) ⟨by decide, by decide⟩ ⟨Nat.le_refl _, Nat.le_refl _⟩ (fun i85 w1 r85 p85 => ?_)
                obtain ⟨e85, p85⟩ := p85
                rw [e85]
                refine ex_ishl (pc := 88) dX7_looksAt_88 ?_
                refine ex_goto (pc := 89) dX7_looksAt_89 (tgt := 93) (by decide) ?_
                refine ex_ior (pc := 93) dX7_looksAt_93 ?_
                refine ex_putA (pc := 94) dX7_looksAt_94 fk_X7_129 (ty := tyX7 14) (fun _ _ _ h9 => by cases h9; exact ⟨tyX7_ok 14 (by decide), rfl⟩) h_o (Nat.le_of_ble_eq_true rfl) (fun _ => rfl) (fun _ => rfl) ?_
                refine ex_up (fun w1 e_w1 => ?_)
                have h1_o := (congrFun e_w1 55).trans up_s
                have h1_A := ((congrFun e_w1 62).trans (up_n (by first | assumption | decide | omega))).trans h_A
                have h1_G := ((congrFun e_w1 63).trans (up_n (by first | assumption | decide | omega))).trans h_G
                have h1_T := ((congrFun e_w1 a).trans (up_n (by first | assumption | decide | omega))).trans h_T
                refine ex_iinc (L2 := [_, _, _, _, _]) (pc := 97) dX7_looksAt_97 rfl rfl (Nat.le_of_ble_eq_true rfl) (by unfold inI; omega) rfl ?_
                refine ex_goto (pc := 100) dX7_looksAt_100 (tgt := 44) (by decide) ?_
                exact ih2 (i + 1) (by omega) (by omega) w1 pI _ hp (by rw [hc, p85, hmt, show mtS cs mo pr i k = (((mtS cs mo pr i k).toNat : Nat) : Int) by omega, xshl_n _ (by omega), xor_n hbl (Nat.lt_trans (Nat.pow_lt_pow_right (by decide) (show (mtS cs mo pr i k).toNat < 14 by omega)) (by decide)), cvG_s, if_pos (by rw [Bool.and_eq_true, decide_eq_true_eq]; exact ⟨p60.mp (by omega), hge⟩)]) h1_o h1_T h1_A h1_G (fun z z1 => by rw [e_w1, up_n z1]; exact hfr z z1)
        refine ex_iload_n (pc := 12) dX7_looksAt_12 rfl ?_
        refine ex_sipush (pc := 13) dX7_looksAt_13 (by decide) ?_
        refine ex_icmp_ge (pc := 16) dX7_looksAt_16 (tgt := 109) (by decide) (fun c16 => ?_) (fun c16 => ?_)
        · exfalso; omega
        · refine ex_aload_n (pc := 19) dX7_looksAt_19 rfl ?_
          refine ex_getfield (pc := 20) dX7_looksAt_20 fk_X7_31 h_o (by rfl) ?_
          refine ex_iload_n (pc := 23) dX7_looksAt_23 rfl ?_
          refine ex_iaload (pc := 24) dX7_looksAt_24 h_G (by omega) (by omega) ?_
          have hkk : ((k : Int)).toNat = k := by omega
          rw [hkk, hlg k (by omega)]
          refine ex_iload_n (pc := 25) dX7_looksAt_25 rfl ?_
          refine ex_iand (pc := 26) dX7_looksAt_26 ?_
          rw [xand_n (Nat.lt_trans (lgS_lt cs mo pr k) (by decide))]
          refine ex_iload_n (pc := 27) dX7_looksAt_27 rfl ?_
          refine ex_icmp_ne (pc := 28) dX7_looksAt_28 (tgt := 103) (by decide) (fun c28 => ?_) (fun c28 => ?_)
          · have hQ : ¬ (lgS cs mo pr k &&& set) = set := by omega
            refine ex_iinc (L2 := [_, _, _, _, _]) (pc := 103) dX7_looksAt_103 rfl rfl (Nat.le_of_ble_eq_true rfl) (by unfold inI; omega) rfl ?_
            refine ex_goto (pc := 106) dX7_looksAt_106 (tgt := 12) (by decide) ?_
            exact ih (k + 1) (by omega) (by omega) w pI cI9 _ (by rw [acS_n hQ]; exact hp) (by rw [acS_n hQ]; exact hc) h_o h_T h_A h_G hfr
          · have hQ : (lgS cs mo pr k &&& set) = set := by omega
            refine ex_aload_n (pc := 31) dX7_looksAt_31 rfl ?_
            refine ex_dup (pc := 32) dX7_looksAt_32 rfl ?_
            refine ex_getfield (pc := 33) dX7_looksAt_33 fk_X7_126 h_o (by rfl) ?_
            refine ex_iconst (pc := 36) dX7_looksAt_36 (by decide) ?_
            refine ex_iadd (pc := 37) dX7_looksAt_37 (by unfold inI; omega) ?_
            refine ex_putA (pc := 38) dX7_looksAt_38 fk_X7_126 (ty := tyX7 13) (fun _ _ _ h9 => by cases h9; exact ⟨tyX7_ok 13 (by decide), rfl⟩) h_o (Nat.le_of_ble_eq_true rfl) (fun _ => rfl) (fun _ => rfl) ?_
            refine ex_up (fun w1 e_w1 => ?_)
            have h1_o := (congrFun e_w1 55).trans up_s
            have h1_A := ((congrFun e_w1 62).trans (up_n (by first | assumption | decide | omega))).trans h_A
            have h1_G := ((congrFun e_w1 63).trans (up_n (by first | assumption | decide | omega))).trans h_G
            have h1_T := ((congrFun e_w1 a).trans (up_n (by first | assumption | decide | omega))).trans h_T
            refine ex_iconst (pc := 41) dX7_looksAt_41 (by decide) ?_
            refine ex_istore (L2 := [_, _, _, _, _]) (pc := 42) dX7_looksAt_42 rfl (Nat.le_of_ble_eq_true rfl) rfl ?_
            exact L2 hQ (cs.length + 1) 0 (by omega) (by omega) w1 _ cI9 (by rw [hp]; rfl) (by rw [hc]; rfl) h1_o h1_T h1_A h1_G (fun z z1 => by rw [e_w1, up_n z1]; exact hfr z z1)
      · refine ex_iload_n (pc := 12) dX7_looksAt_12 rfl ?_
        refine ex_sipush (pc := 13) dX7_looksAt_13 (by decide) ?_
        refine ex_icmp_ge (pc := 16) dX7_looksAt_16 (tgt := 109) (by decide) (fun c16 => ?_) (fun c16 => by exfalso; omega)
        exact ex_vret (pc := 109) dX7_looksAt_109 ⟨by rw [h_o, hp, hc, show k = 897 by omega, acS_pc hs h2], hfr⟩ rfl (Nat.le_refl _)
  refine ex_aload_n (pc := 0) dX7_looksAt_0 rfl ?_
  refine ex_iconst (pc := 1) dX7_looksAt_1 (by decide) ?_
  refine ex_putA (pc := 2) dX7_looksAt_2 fk_X7_126 (ty := tyX7 13) (fun _ _ _ h9 => by cases h9; exact ⟨tyX7_ok 13 (by decide), rfl⟩) h_o (Nat.le_of_ble_eq_true rfl) (fun _ => rfl) (fun _ => rfl) ?_
  refine ex_up (fun w1 e_w1 => ?_)
  have h1_o := (congrFun e_w1 55).trans up_s
  have h1_A := ((congrFun e_w1 62).trans (up_n (by first | assumption | decide | omega))).trans h_A
  have h1_G := ((congrFun e_w1 63).trans (up_n (by first | assumption | decide | omega))).trans h_G
  have h1_T := ((congrFun e_w1 a).trans (up_n (by first | assumption | decide | omega))).trans h_T
  refine ex_aload_n (pc := 5) dX7_looksAt_5 rfl ?_
  refine ex_iconst (pc := 6) dX7_looksAt_6 (by decide) ?_
  refine ex_putA (pc := 7) dX7_looksAt_7 fk_X7_129 (ty := tyX7 14) (fun _ _ _ h9 => by cases h9; exact ⟨tyX7_ok 14 (by decide), rfl⟩) h1_o (Nat.le_of_ble_eq_true rfl) (fun _ => rfl) (fun _ => rfl) ?_
  refine ex_up (fun w2 e_w2 => ?_)
  have h2_o := (congrFun e_w2 55).trans up_s
  have h2_A := ((congrFun e_w2 62).trans (up_n (by first | assumption | decide | omega))).trans h1_A
  have h2_G := ((congrFun e_w2 63).trans (up_n (by first | assumption | decide | omega))).trans h1_G
  have h2_T := ((congrFun e_w2 a).trans (up_n (by first | assumption | decide | omega))).trans h1_T
  refine ex_iconst (pc := 10) dX7_looksAt_10 (by decide) ?_
  refine ex_istore_n (L2 := [_, _, _, _, _]) (pc := 11) dX7_looksAt_11 rfl (Nat.le_of_ble_eq_true rfl) rfl ?_
  exact L1 898 0 (by omega) (by omega) w2 0 0 _ rfl rfl h2_o h2_T h2_A h2_G (fun z z1 => by rw [e_w2, up_n z1, e_w1, up_n z1])

abbrev mX7_gainOf : xC := mkC yX7_gainOf cX7_gainOf 2 (some .int) 2 200 0 0
set_option maxHeartbeats 4000000 in
set_option maxRecDepth 100000 in
theorem tX7_gainOf {n : Nat} {w : xW} {c9 q9 set : Nat} {uu kk ln pl mn sh be bg bc bp pa re px : Int} (h_o : w 55 = rO uu kk ln pl mn (q9) (c9) sh be bg bc bp pa re px) (h1 : c9 < 16384) (h2 : q9 ≤ 100000) (h3 : set < 16384) : Ctr mX7_gainOf [xr 55, xi set] n w (pI (fun v w2 => w2 = w ∧ v = (pc14 c9 : Int) - pc14 set - q9 + 1)) := by
  refine Ctr.of ykX7_gainOf rfl (Nat.le_of_ble_eq_true rfl) okI (fun hin hW => ?_)
  show Ex _ _ 0 0 n w 0 [some (xr 55), some (xi set)] []
  have l1 := pc_le c9
  have l2 := pc_le set
  refine ex_aload_n (pc := 0) dX7_gainOf_0 rfl ?_
  refine ex_getfield (pc := 1) dX7_gainOf_1 fk_X7_129 h_o (by rfl) ?_
  refine ex_callSI (as := [_]) (pc := 4) dX7_gainOf_4 (tX7_bits h1) lk_X7_132 ykX7_bits zkX7_bits rfl rfl (Nat.le_of_ble_eq_true rfl) ⟨by decide, by decide⟩ ⟨Nat.le_refl _, Nat.le_refl _⟩ (fun i4 w1 r4 p4 => ?_)
  obtain ⟨e4, p4⟩ := p4
  rw [e4]
  refine ex_iload_n (pc := 7) dX7_gainOf_7 rfl ?_
  refine ex_callSI (as := [_]) (pc := 8) dX7_gainOf_8 (tX7_bits h3) lk_X7_132 ykX7_bits zkX7_bits rfl rfl (Nat.le_of_ble_eq_true rfl) ⟨by decide, by decide⟩ ⟨Nat.le_refl _, Nat.le_refl _⟩ (fun i8 w1 r8 p8 => ?_)
  obtain ⟨e8, p8⟩ := p8
  rw [e8]
  refine ex_isub (pc := 11) dX7_gainOf_11 (by unfold inI; omega) ?_
  refine ex_aload_n (pc := 12) dX7_gainOf_12 rfl ?_
  refine ex_getfield (pc := 13) dX7_gainOf_13 fk_X7_126 h_o (by rfl) ?_
  refine ex_isub (pc := 16) dX7_gainOf_16 (by unfold inI; omega) ?_
  refine ex_iconst (pc := 17) dX7_gainOf_17 (by decide) ?_
  refine ex_iadd (pc := 18) dX7_gainOf_18 (by unfold inI; omega) ?_
  exact ex_iret (pc := 19) dX7_gainOf_19 ⟨rfl, by rw [p4, p8]⟩ rfl (Nat.le_refl _)

abbrev mX7_isNew : xC := mkC yX7_isNew cX7_isNew 3 (some .boolean) 1 100 0 0
set_option maxHeartbeats 4000000 in
set_option maxRecDepth 100000 in
theorem tX7_isNew {n : Nat} {w : xW} {N : Nat} {ss : Nat → Int} {c : Int} {uu kk ln pl mn pq cv be bg bc bp pa re px : Int} (h_o : w 55 = rO uu kk ln pl mn pq cv (N) be bg bc bp pa re px) (h_S : w 64 = xA 448 ss) (hN : N ≤ 448) : Ctr mX7_isNew [xr 55, xi c] n w (pZ (fun v w2 => w2 = w ∧ (v = 1 ↔ ∀ z, z < N → ss z ≠ c))) := by
  refine Ctr.of ykX7_isNew rfl (Nat.le_of_ble_eq_true rfl) okZ (fun hin hW => ?_)
  show Ex _ _ 0 0 n w 0 [some (xr 55), some (xi c), none] []
  have loop : ∀ (d k : Nat), k ≤ N → N + 1 ≤ k + d → (∀ z, z < k → ss z ≠ c) → Ex mX7_isNew (pZ (fun v w2 => w2 = w ∧ (v = 1 ↔ ∀ z, z < N → ss z ≠ c))) 0 0 n w 2 [some (xr 55), some (xi c), some (xi k)] [] := by
    intro d
    induction d with
    | zero => intro k h1 h2; omega
    | succ d ih =>
      intro k h1 h2 hq0
      refine ex_iload_n (pc := 2) dX7_isNew_2 rfl ?_
      refine ex_aload_n (pc := 3) dX7_isNew_3 rfl ?_
      refine ex_getfield (pc := 4) dX7_isNew_4 fk_X7_136 h_o (by rfl) ?_
      refine ex_icmp_ge (pc := 7) dX7_isNew_7 (tgt := 28) (by decide) (fun c7 => ?_) (fun c7 => ?_)
      · refine ex_iconst (pc := 28) dX7_isNew_28 (by decide) ?_
        exact ex_zret (pc := 29) dX7_isNew_29 ⟨Or.inr rfl, rfl, ⟨fun _ z hz => hq0 z (by omega), fun _ => rfl⟩⟩ rfl (Nat.le_refl _)
      · refine ex_aload_n (pc := 10) dX7_isNew_10 rfl ?_
        refine ex_getfield (pc := 11) dX7_isNew_11 fk_X7_34 h_o (by rfl) ?_
        refine ex_iload_n (pc := 14) dX7_isNew_14 rfl ?_
        refine ex_iaload (pc := 15) dX7_isNew_15 h_S (by omega) (by omega) ?_
        have hkk : ((k : Int)).toNat = k := by omega
        refine ex_iload_n (pc := 16) dX7_isNew_16 rfl ?_
        refine ex_icmp_ne (pc := 17) dX7_isNew_17 (tgt := 22) (by decide) (fun c17 => ?_) (fun c17 => ?_)
        · refine ex_iinc (L2 := [_, _, _]) (pc := 22) dX7_isNew_22 rfl rfl (Nat.le_of_ble_eq_true rfl) (by unfold inI; omega) rfl ?_
          refine ex_goto (pc := 25) dX7_isNew_25 (tgt := 2) (by decide) ?_
          exact ih (k + 1) (by omega) (by omega) (lt_s hq0 (by rw [hkk] at c17; exact c17))
        · refine ex_iconst (pc := 20) dX7_isNew_20 (by decide) ?_
          exact ex_zret (pc := 21) dX7_isNew_21 ⟨Or.inl rfl, rfl, ⟨fun q => by omega, fun q => absurd (by rw [hkk] at c17; omega) (q k (by omega))⟩⟩ rfl (Nat.le_refl _)
  refine ex_iconst (pc := 0) dX7_isNew_0 (by decide) ?_
  refine ex_istore_n (L2 := [_, _, _]) (pc := 1) dX7_isNew_1 rfl (Nat.le_of_ble_eq_true rfl) rfl ?_
  exact loop (N + 1) 0 (by omega) (by omega) (fun z hz => absurd hz (Nat.not_lt_zero _))

