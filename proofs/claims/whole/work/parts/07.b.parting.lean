abbrev mX1_takeApart : xC := mkC yX1_takeApart cX1_takeApart 6 none 6 600 0 0
theorem PtAt.t {w : xW} {t : Nat} {L : List (Nat × Nat × Nat)} {rest : Nat} {price : Int} (h : PtAt w t L rest price) : w t = ptO t L.length rest price := by
  obtain ⟨f, g, h, h1, -⟩ := h; exact h1
theorem SeAt.q {w : xW} {q : Nat} {cs : List Int} {mo : Int} {pr : Nat} (h : SeAt w q cs mo pr) : w q = seO q (wdL cs mo pr).length mo pr (shL cs mo pr).length := by
  obtain ⟨tf, pf, nu, lb, wi, ss, sp, sv, h1, -⟩ := h; exact h1
theorem SeX.q {w : xW} {q : Nat} (h : SeX w q) : ∃ wc mo pr sc : Int, w q = seO q wc mo pr sc := by
  obtain ⟨a1, a2, a3, a4, tf, pf, nu, lb, wi, ss, sp, sv, h1, -⟩ := h; exact ⟨a1, a2, a3, a4, h1⟩
theorem bestS_rng (cs : List Int) (mo : Int) (pr : Nat) : bestS cs mo pr = -4 ∨ (0 ≤ bestS cs mo pr ∧ bestS cs mo pr < (shL cs mo pr).length) := by
  unfold bestS
  split
  · exact Or.inl rfl
  · right
    have := bst_lt (cs := cs) (mo := mo) (pr := pr) (shL cs mo pr).length (by omega)
    omega
set_option maxHeartbeats 4000000 in
set_option maxRecDepth 100000 in
theorem tX1_takeApart {n : Nat} {W : xW} {q t r a : Nat} {cs : List Int} {mo : Int} (hX : SeX W q) (hT : PtX W t) (hp0 : PcAt W r a cs mo) (hcod : Cod cs) (hqt : q + 8 < t ∨ t + 3 < q) (hrq : r < q ∨ q + 8 < r) (haq : a < q ∨ q + 8 < a) (hrt : r < t ∨ t + 3 < r) (hat : a < t ∨ t + 3 < a) {RES : List (Nat × Nat × Nat) × Nat × Int} (hRES : ptS cs mo 14 (2 ^ cs.length - 1) [] 0 = RES) : Ctr mX1_takeApart [xr t, xr r, xr q] n W (pV (fun w2 => PtAt w2 t RES.1 RES.2.1 (RES.2.2 + pc14 RES.2.1) ∧ RES.2.1 < 2 ^ cs.length ∧ SeX w2 q ∧ ∀ z, (z < t ∨ t + 3 < z) → (z < q ∨ q + 8 < z) → w2 z = W z)) := by
  refine Ctr.of ykX1_takeApart rfl (Nat.le_of_ble_eq_true rfl) okV (fun hin hW => ?_)
  have hlen := hp0.len
  have hl14 := two14 hlen
  have fin : ∀ (w : xW) (rest : Nat) (acc : List (Nat × Nat × Nat)) (pc : Int) (x3 x4 x5 : Option xV), PtAt w t acc rest pc → SeX w q → rest < 2 ^ cs.length → (-100000 ≤ pc ∧ pc ≤ 100000) → (∀ z, (z < t ∨ t + 3 < z) → (z < q ∨ q + 8 < z) → w z = W z) → (acc, rest, pc) = RES → Ex mX1_takeApart (pV (fun w2 => PtAt w2 t RES.1 RES.2.1 (RES.2.2 + pc14 RES.2.1) ∧ RES.2.1 < 2 ^ cs.length ∧ SeX w2 q ∧ ∀ z, (z < t ∨ t + 3 < z) → (z < q ∨ q + 8 < z) → w2 z = W z)) 0 0 n w 86 [some (xr t), some (xr r), some (xr q), x3, x4, x5] [] := by
    intro w rest acc pc x3 x4 x5 ht hs hr hpc hfr he
    have h_t := ht.t
    have hp14 := pc_le rest
    refine ex_aload_n (pc := 86) dX1_takeApart_86 rfl ?_
    refine ex_dup (pc := 87) dX1_takeApart_87 rfl ?_
    refine ex_getfield (pc := 88) dX1_takeApart_88 fk_X1_25 h_t (by rfl) ?_
    refine ex_aload_n (pc := 91) dX1_takeApart_91 rfl ?_
    refine ex_getfield (pc := 92) dX1_takeApart_92 fk_X1_34 h_t (by rfl) ?_
    refine ex_callSI (as := [_]) (pc := 95) dX1_takeApart_95 (tJ6_bitCount_0f7a4 (a := rest) (by omega)) lk_X1_54 ykJ6_bitCount_0f7a4 zkJ6_bitCount_0f7a4 rfl rfl (Nat.le_of_ble_eq_true rfl) ⟨by decide, by decide⟩ ⟨Nat.le_refl _, Nat.le_refl _⟩ (fun v95 w1 r95 p95 => ?_)
    obtain ⟨e95, p95⟩ := p95
    rw [e95]
    refine ex_iadd (pc := 98) dX1_takeApart_98 (by unfold inI; omega) ?_
    refine ex_putA (pc := 99) dX1_takeApart_99 fk_X1_25 (ty := tyX1 5) (fun _ _ _ h9 => by cases h9; exact ⟨tyX1_ok 5 (by decide), rfl⟩) h_t (Nat.le_of_ble_eq_true rfl) (fun _ => rfl) (fun _ => rfl) ?_
    rw [← he]
    refine ex_vret (pc := 102) dX1_takeApart_102 ⟨?_, hr, hs.fr (fun z h1 h2 => up_n (by omega)), fun z h1 h2 => (up_n (by omega)).trans (hfr z h1 h2)⟩ rfl (Nat.le_refl _)
    obtain ⟨f, g, h, -, g2, g3, g4, g5⟩ := ht
    exact ⟨f, g, h, by rw [up_s, p95]; rfl, (up_n (by omega)).trans g2, (up_n (by omega)).trans g3, (up_n (by omega)).trans g4, g5⟩
  have loop : ∀ (d i : Nat), i + d = 14 → ∀ (w : xW) (rest : Nat) (acc : List (Nat × Nat × Nat)) (pc : Int) (x5 : Option xV), PtAt w t acc rest pc → SeX w q → PcAt w r a cs mo → rest < 2 ^ cs.length → (-2000 * (i : Int) ≤ pc ∧ pc ≤ 2000 * (i : Int)) → acc.length ≤ i → (∀ z, (z < t ∨ t + 3 < z) → (z < q ∨ q + 8 < z) → w z = W z) → ptS cs mo d rest acc pc = RES → Ex mX1_takeApart (pV (fun w2 => PtAt w2 t RES.1 RES.2.1 (RES.2.2 + pc14 RES.2.1) ∧ RES.2.1 < 2 ^ cs.length ∧ SeX w2 q ∧ ∀ z, (z < t ∨ t + 3 < z) → (z < q ∨ q + 8 < z) → w2 z = W z)) 0 0 n w 23 [some (xr t), some (xr r), some (xr q), some (xi 1), some (xi i), x5] [] := by
    intro d
    induction d with
    | zero =>
      intro i hi w rest acc pc x5 ht hs hp hr hpc hal hfr he
      refine ex_iload (pc := 23) dX1_takeApart_23 rfl ?_
      refine ex_bipush (pc := 25) dX1_takeApart_25 (by decide) ?_
      refine ex_icmp_ge (pc := 27) dX1_takeApart_27 (tgt := 86) (by decide) (fun c27 => ?_) (fun c27 => by exfalso; omega)
      exact fin w rest acc pc _ _ _ ht hs hr (by omega) hfr he
    | succ d ih =>
      intro i hi w rest acc pc x5 ht hs hp hr hpc hal hfr he
      have h_t := ht.t
      obtain ⟨y1, y2, y3, y4, h_q⟩ := hs.q
      refine ex_iload (pc := 23) dX1_takeApart_23 rfl ?_
      refine ex_bipush (pc := 25) dX1_takeApart_25 (by decide) ?_
      refine ex_icmp_ge (pc := 27) dX1_takeApart_27 (tgt := 86) (by decide) (fun c27 => by exfalso; omega) (fun c27 => ?_)
      refine ex_iload_n (pc := 30) dX1_takeApart_30 rfl ?_
      refine ex_if_eq (pc := 31) dX1_takeApart_31 (tgt := 86) (by decide) (fun c31 => by exfalso; omega) (fun c31 => ?_)
      refine ex_aload_n (pc := 34) dX1_takeApart_34 rfl ?_
      refine ex_aload_n (pc := 35) dX1_takeApart_35 rfl ?_
      refine ex_aload_n (pc := 36) dX1_takeApart_36 rfl ?_
      refine ex_getfield (pc := 37) dX1_takeApart_37 fk_X1_34 h_t (by rfl) ?_
      refine ex_callVV (as := [_, _]) (pc := 40) dX1_takeApart_40 (tX5_lookOver hs hp hcod hrq haq hr) lk_X1_37 ykX5_lookOver vkX5_lookOver h_q rfl rfl rfl (Nat.le_of_ble_eq_true rfl) ⟨by decide, by decide⟩ ⟨Nat.le_refl _, Nat.le_refl _⟩ (fun w1 p40 => ?_)
      obtain ⟨s1, f1⟩ := p40
      have ht1 : PtAt w1 t acc rest pc := ht.fr (fun z h1 h2 => f1 z (by omega))
      have hp1 : PcAt w1 r a cs mo := hp.fr (f1 r hrq) (f1 a haq)
      have hfr1 : ∀ z, (z < t ∨ t + 3 < z) → (z < q ∨ q + 8 < z) → w1 z = W z := fun z h1 h2 => (f1 z h2).trans (hfr z h1 h2)
      refine ex_aload_n (pc := 43) dX1_takeApart_43 rfl ?_
      refine ex_callVI (as := []) (pc := 44) dX1_takeApart_44 (tX5_bestShape s1 hlen) lk_X1_43 ykX5_bestShape vkX5_bestShape s1.q rfl rfl rfl (Nat.le_of_ble_eq_true rfl) ⟨by decide, by decide⟩ ⟨Nat.le_refl _, Nat.le_refl _⟩ (fun v44 w2 r44 p44 => ?_)
      obtain ⟨e44, p44⟩ := p44
      rw [e44]
      have hbr := bestS_rng cs mo rest
      refine ex_istore (L2 := [_, _, _, _, _, _]) (pc := 47) dX1_takeApart_47 rfl (Nat.le_of_ble_eq_true rfl) rfl ?_
      refine ex_iload (pc := 49) dX1_takeApart_49 rfl ?_
      refine ex_if_lt (pc := 51) dX1_takeApart_51 (tgt := 67) (by decide) (fun c51 => ?_) (fun c51 => ?_)
      · have he2 : (acc, rest, pc) = RES := by rw [← he]; unfold ptS; rw [if_neg (by omega)]
        refine ex_iconst (pc := 67) dX1_takeApart_67 (by decide) ?_
        refine ex_istore_n (L2 := [_, _, _, _, _, _]) (pc := 68) dX1_takeApart_68 rfl (Nat.le_of_ble_eq_true rfl) rfl ?_
        refine ex_iload_n (pc := 69) dX1_takeApart_69 rfl ?_
        refine ex_if_eq (pc := 70) dX1_takeApart_70 (tgt := 80) (by decide) (fun c70 => ?_) (fun c70 => by exfalso; omega)
        refine ex_iinc (L2 := [_, _, _, _, _, _]) (pc := 80) dX1_takeApart_80 rfl rfl (Nat.le_of_ble_eq_true rfl) (by unfold inI; omega) rfl ?_
        refine ex_goto (pc := 83) dX1_takeApart_83 (tgt := 23) (by decide) ?_
        refine ex_iload (pc := 23) dX1_takeApart_23 rfl ?_
        refine ex_bipush (pc := 25) dX1_takeApart_25 (by decide) ?_
        refine ex_icmp_ge (pc := 27) dX1_takeApart_27 (tgt := 86) (by decide) (fun c27 => ?_) (fun c27 => ?_)
        · exact fin w1 rest acc pc _ _ _ ht1 s1.X hr (by omega) hfr1 he2
        · refine ex_iload_n (pc := 30) dX1_takeApart_30 rfl ?_
          refine ex_if_eq (pc := 31) dX1_takeApart_31 (tgt := 86) (by decide) (fun c31 => ?_) (fun c31 => by exfalso; omega)
          exact fin w1 rest acc pc _ _ _ ht1 s1.X hr (by omega) hfr1 he2
      · refine ex_aload_n (pc := 54) dX1_takeApart_54 rfl ?_
        refine ex_iload (pc := 55) dX1_takeApart_55 rfl ?_
        refine ex_callVI (as := [_]) (pc := 57) dX1_takeApart_57 (tX5_gainOf s1 hlen) lk_X1_46 ykX5_gainOf vkX5_gainOf s1.q rfl rfl rfl (Nat.le_of_ble_eq_true rfl) ⟨by decide, by decide⟩ ⟨Nat.le_refl _, Nat.le_refl _⟩ (fun v57 w2 r57 p57 => ?_)
        obtain ⟨e57, p57⟩ := p57
        rw [e57]
        rw [if_pos (by omega)] at p57
        have hgi : v57 = gI cs mo rest (bestS cs mo rest).toNat := by rw [p57, p44]; rfl
        refine ex_if_le (pc := 60) dX1_takeApart_60 (tgt := 67) (by decide) (fun c60 => ?_) (fun c60 => ?_)
        · have he2 : (acc, rest, pc) = RES := by rw [← he]; unfold ptS; rw [if_neg (by rw [← hgi]; omega)]
          refine ex_iconst (pc := 67) dX1_takeApart_67 (by decide) ?_
          refine ex_istore_n (L2 := [_, _, _, _, _, _]) (pc := 68) dX1_takeApart_68 rfl (Nat.le_of_ble_eq_true rfl) rfl ?_
          refine ex_iload_n (pc := 69) dX1_takeApart_69 rfl ?_
          refine ex_if_eq (pc := 70) dX1_takeApart_70 (tgt := 80) (by decide) (fun c70 => ?_) (fun c70 => by exfalso; omega)
          refine ex_iinc (L2 := [_, _, _, _, _, _]) (pc := 80) dX1_takeApart_80 rfl rfl (Nat.le_of_ble_eq_true rfl) (by unfold inI; omega) rfl ?_
          refine ex_goto (pc := 83) dX1_takeApart_83 (tgt := 23) (by decide) ?_
          refine ex_iload (pc := 23) dX1_takeApart_23 rfl ?_
          refine ex_bipush (pc := 25) dX1_takeApart_25 (by decide) ?_
          refine ex_icmp_ge (pc := 27) dX1_takeApart_27 (tgt := 86) (by decide) (fun c27 => ?_) (fun c27 => ?_)
          · exact fin w1 rest acc pc _ _ _ ht1 s1.X hr (by omega) hfr1 he2
          · refine ex_iload_n (pc := 30) dX1_takeApart_30 rfl ?_
            refine ex_if_eq (pc := 31) dX1_takeApart_31 (tgt := 86) (by decide) (fun c31 => ?_) (fun c31 => by exfalso; omega)
            exact fin w1 rest acc pc _ _ _ ht1 s1.X hr (by omega) hfr1 he2
        · refine ex_iconst (pc := 63) dX1_takeApart_63 (by decide) ?_
          refine ex_goto (pc := 64) dX1_takeApart_64 (tgt := 68) (by decide) ?_
          refine ex_istore_n (L2 := [_, _, _, _, _, _]) (pc := 68) dX1_takeApart_68 rfl (Nat.le_of_ble_eq_true rfl) rfl ?_
          refine ex_iload_n (pc := 69) dX1_takeApart_69 rfl ?_
          refine ex_if_eq (pc := 70) dX1_takeApart_70 (tgt := 80) (by decide) (fun c70 => by exfalso; omega) (fun c70 => ?_)
          refine ex_aload_n (pc := 73) dX1_takeApart_73 rfl ?_
          refine ex_aload_n (pc := 74) dX1_takeApart_74 rfl ?_
          refine ex_iload (pc := 75) dX1_takeApart_75 rfl ?_
          obtain ⟨k, hk⟩ : ∃ k : Nat, v44 = k := ⟨v44.toNat, by omega⟩
          have hkn : (bestS cs mo rest).toNat = k := by omega
          rw [hk]
          refine ex_callVV (as := [_, _]) (pc := 77) dX1_takeApart_77 (tX1_setAside s1 ht1 hlen (by omega) (by omega) (by omega) hqt (k := k) (by omega)) lk_X1_50 ykX1_setAside vkX1_setAside ht1.t rfl rfl rfl (Nat.le_of_ble_eq_true rfl) ⟨by decide, by decide⟩ ⟨Nat.le_refl _, Nat.le_refl _⟩ (fun w3 p77 => ?_)
          obtain ⟨ht3, f3⟩ := p77
          have h8 := pc_le ((shL cs mo rest).getD k 0)
          have h7 := pcS_lt (mo := mo) (pr := rest) hlen ((shL cs mo rest).getD k 0)
          refine ex_iinc (L2 := [_, _, _, _, _, _]) (pc := 80) dX1_takeApart_80 rfl rfl (Nat.le_of_ble_eq_true rfl) (by unfold inI; omega) rfl ?_
          refine ex_goto (pc := 83) dX1_takeApart_83 (tgt := 23) (by decide) ?_
          refine ih (i + 1) (by omega) w3 _ _ _ _ ht3 (s1.X.fr (fun z h1 h2 => f3 z (by omega))) (hp1.fr (f3 r hrt) (f3 a hat)) (Nat.lt_of_le_of_lt (dif_le _ _) hr) (by omega) (by rw [List.length_append]; show acc.length + 1 ≤ i + 1; omega) (fun z h1 h2 => (f3 z h1).trans (hfr1 z h1 h2)) ?_
          rw [← he]
          show _ = ptS cs mo (d + 1) rest acc pc
          conv => rhs; unfold ptS
          rw [if_pos ⟨by omega, by rw [← hgi]; omega⟩]
          unfold ptN
          rw [hkn]
  show Ex _ _ 0 0 n W 0 [some (xr t), some (xr r), some (xr q), none, none, none] []
  obtain ⟨u1, u2, u3, f, g, h, h_t, h_f, h_g, h_h⟩ := hT
  refine ex_aload_n (pc := 0) dX1_takeApart_0 rfl ?_
  refine ex_iconst (pc := 1) dX1_takeApart_1 (by decide) ?_
  refine ex_putA (pc := 2) dX1_takeApart_2 fk_X1_21 (ty := tyX1 3) (fun _ _ _ h9 => by cases h9; exact ⟨tyX1_ok 3 (by decide), rfl⟩) h_t (Nat.le_of_ble_eq_true rfl) (fun _ => rfl) (fun _ => rfl) ?_
  refine ex_up (fun w1 e_w1 => ?_)
  have h1_t := (congrFun e_w1 t).trans up_s
  have h1_f := ((congrFun e_w1 (t + 1)).trans (up_n (by omega))).trans h_f
  have h1_g := ((congrFun e_w1 (t + 2)).trans (up_n (by omega))).trans h_g
  have h1_h := ((congrFun e_w1 (t + 3)).trans (up_n (by omega))).trans h_h
  have h1_r := ((congrFun e_w1 r).trans (up_n (by omega))).trans hp0.r
  refine ex_aload_n (pc := 5) dX1_takeApart_5 rfl ?_
  refine ex_iconst (pc := 6) dX1_takeApart_6 (by decide) ?_
  refine ex_putA (pc := 7) dX1_takeApart_7 fk_X1_25 (ty := tyX1 5) (fun _ _ _ h9 => by cases h9; exact ⟨tyX1_ok 5 (by decide), rfl⟩) h1_t (Nat.le_of_ble_eq_true rfl) (fun _ => rfl) (fun _ => rfl) ?_
  refine ex_up (fun w2 e_w2 => ?_)
  have h2_t := (congrFun e_w2 t).trans up_s
  have h2_f := ((congrFun e_w2 (t + 1)).trans (up_n (by omega))).trans h1_f
  have h2_g := ((congrFun e_w2 (t + 2)).trans (up_n (by omega))).trans h1_g
  have h2_h := ((congrFun e_w2 (t + 3)).trans (up_n (by omega))).trans h1_h
  have h2_r := ((congrFun e_w2 r).trans (up_n (by omega))).trans h1_r
  have hp2 : PcAt w2 r a cs mo := hp0.fr (by rw [e_w2, up_n (by omega), e_w1, up_n (by omega)]) (by rw [e_w2, up_n (by omega), e_w1, up_n (by omega)])
  refine ex_aload_n (pc := 10) dX1_takeApart_10 rfl ?_
  refine ex_aload_n (pc := 11) dX1_takeApart_11 rfl ?_
  refine ex_callVI (as := []) (pc := 12) dX1_takeApart_12 (lX2_allNotes hp2) lk_X1_28 ykX2_allNotes vkX2_allNotes h2_r rfl rfl rfl (Nat.le_of_ble_eq_true rfl) ⟨by decide, by decide⟩ ⟨Nat.le_refl _, Nat.le_refl _⟩ (fun i12 w3 r12 p12 => ?_)
  obtain ⟨e12, p12⟩ := p12
  rw [e12]
  rw [p12]
  refine ex_putA (pc := 15) dX1_takeApart_15 fk_X1_34 (ty := tyX1 4) (fun _ _ _ h9 => by cases h9; exact ⟨tyX1_ok 4 (by decide), rfl⟩) h2_t (Nat.le_of_ble_eq_true rfl) (fun _ => rfl) (fun _ => rfl) ?_
  refine ex_up (fun w3 e_w3 => ?_)
  have h3_t := (congrFun e_w3 t).trans up_s
  have h3_f := ((congrFun e_w3 (t + 1)).trans (up_n (by omega))).trans h2_f
  have h3_g := ((congrFun e_w3 (t + 2)).trans (up_n (by omega))).trans h2_g
  have h3_h := ((congrFun e_w3 (t + 3)).trans (up_n (by omega))).trans h2_h
  have h3_r := ((congrFun e_w3 r).trans (up_n (by omega))).trans h2_r
  refine ex_iconst (pc := 18) dX1_takeApart_18 (by decide) ?_
  refine ex_istore_n (L2 := [_, _, _, _, _, _]) (pc := 19) dX1_takeApart_19 rfl (Nat.le_of_ble_eq_true rfl) rfl ?_
  refine ex_iconst (pc := 20) dX1_takeApart_20 (by decide) ?_
  refine ex_istore (L2 := [_, _, _, _, _, _]) (pc := 21) dX1_takeApart_21 rfl (Nat.le_of_ble_eq_true rfl) rfl ?_
  have hfr3 : ∀ z, (z < t ∨ t + 3 < z) → w3 z = W z := fun z hz => by rw [e_w3, up_n (by omega), e_w2, up_n (by omega), e_w1, up_n (by omega)]
  exact loop 14 0 rfl w3 (2 ^ cs.length - 1) [] 0 _ ⟨f, g, h, h3_t, h3_f, h3_g, h3_h, fun i hi => absurd hi (Nat.not_lt_zero _)⟩ (hX.fr (fun z h1 h2 => hfr3 z (by omega))) (hp0.fr (hfr3 r hrt) (hfr3 a hat)) (by have := Nat.one_le_two_pow (n := cs.length); omega) (by omega) (Nat.le_refl _) (fun z h1 h2 => hfr3 z h1) hRES
