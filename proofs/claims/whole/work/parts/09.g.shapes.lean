def opBetter (s : St) (a : Int) : Int := if a < 0 ∨ 1 < a then -1 else if 14 ≤ s.1.length then -4 else if a = 0 then 100 * ((btS s.1 s.2.1 240).1 / 12) + (btS s.1 s.2.1 240).1 % 12 else if (btS s.1 s.2.1 240).2 = -10000 then -4 else (btS s.1 s.2.1 240).2 + 100
theorem numL_ins {c : Int} {cs : List Int} (h : numL c cs < 0) : (insL c cs).eraseIdx (posL c cs) = cs := by
  unfold insL
  rw [List.eraseIdx_insertIdx_self]
theorem gainB_rng {ds : List Int} {mo : Int} (hl : ds.length ≤ 14) : -10000 ≤ gainB ds mo ∧ gainB ds mo ≤ 100 := by
  unfold gainB
  split
  · have := gnS_rng (mo := mo) (pr := Al ds) hl ((shL ds mo (Al ds)).getD (bestS ds mo (Al ds)).toNat 0)
    unfold gI; omega
  · omega
theorem btS_rng {cs : List Int} {mo : Int} (hl : cs.length < 14) : ∀ k, -1 ≤ (btS cs mo k).1 ∧ (btS cs mo k).1 < k ∧ -10000 ≤ (btS cs mo k).2 ∧ (btS cs mo k).2 ≤ 100 := by
  intro k
  induction k with
  | zero => unfold btS; decide
  | succ k ih =>
    unfold btS
    split
    · have := gainB_rng (ds := insL k cs) (mo := mo) (by rw [insL_len]; omega)
      refine ⟨?_, ?_, ?_, ?_⟩ <;> simp only <;> omega
    · refine ⟨?_, ?_, ?_, ?_⟩ <;> omega
abbrev mX6_findBetter : xC := mkC yX6_findBetter cX6_findBetter 4 none 7 700 0 0
set_option maxHeartbeats 4000000 in
set_option maxRecDepth 100000 in
theorem tX6_findBetter {n : Nat} {W : xW} {s : St} {wk bk bc bg : Int} (H0 : ClsC W s.1 s.2.1 s.2.2.1 s.2.2.2.1 s.2.2.2.2 wk bk bc bg) (hv : okP (s.1, s.2.1)) (hl14 : s.1.length < 14) : Ctr mX6_findBetter [xr 0] n W (pV (fun w2 => ∃ wk2 : Int, ClsC w2 s.1 s.2.1 s.2.2.1 s.2.2.2.1 s.2.2.2.2 wk2 1 (btS s.1 s.2.1 240).1 (btS s.1 s.2.1 240).2 ∧ (∀ z, z ≠ 0 → z ≠ 5 → z ≠ 6 → (z < 40 ∨ 49 ≤ z) → w2 z = W z) ∧ wk2 = wk)) := by
  refine Ctr.of ykX6_findBetter rfl (Nat.le_of_ble_eq_true rfl) okV (fun hin hW => ?_)
  have loop : ∀ (d k : Nat), k ≤ 240 → 241 ≤ k + d → ∀ (w : xW) (bk bc bg : Int) (x2 x3 : Option xV), ClsC w s.1 s.2.1 s.2.2.1 s.2.2.2.1 s.2.2.2.2 wk bk bc bg → PcAt w 5 6 s.1 s.2.1 → (bc, bg) = btS s.1 s.2.1 k → (∀ z, z ≠ 0 → z ≠ 5 → z ≠ 6 → (z < 40 ∨ 49 ≤ z) → w z = W z) → Ex mX6_findBetter (pV (fun w2 => ∃ wk2 : Int, ClsC w2 s.1 s.2.1 s.2.2.1 s.2.2.2.1 s.2.2.2.2 wk2 1 (btS s.1 s.2.1 240).1 (btS s.1 s.2.1 240).2 ∧ (∀ z, z ≠ 0 → z ≠ 5 → z ≠ 6 → (z < 40 ∨ 49 ≤ z) → w2 z = W z) ∧ wk2 = wk)) 0 0 n w 25 [some (xr 0), some (xi k), x2, x3] [] := by
    intro d
    induction d with
    | zero => intro k h1 h2; omega
    | succ d ih =>
      intro k h1 h2 w bk bc bg x2 x3 H T he hfr
      have hbt := btS_rng (mo := s.2.1) hl14 k
      rw [← he] at hbt
      have hbt : -1 ≤ bc ∧ bc < k ∧ -10000 ≤ bg ∧ bg ≤ 100 := hbt
      refine ex_iload_n (pc := 25) dX6_findBetter_25 rfl ?_
      refine ex_sipush (pc := 26) dX6_findBetter_26 (by decide) ?_
      refine ex_icmp_ge (pc := 29) dX6_findBetter_29 (tgt := 133) (by decide) (fun c29 => ?_) (fun c29 => ?_)
      · have hk : k = 240 := by omega
        refine ex_aload_n (pc := 133) dX6_findBetter_133 rfl ?_
        refine ex_iconst (pc := 134) dX6_findBetter_134 (by decide) ?_
        refine ex_putA (pc := 135) dX6_findBetter_135 fk_X6_217 (ty := tyX6 10) (fun _ _ _ h9 => by cases h9; exact ⟨tyX6_ok 10 (by decide), rfl⟩) H.o (Nat.le_of_ble_eq_true rfl) (fun _ => rfl) (fun _ => rfl) ?_
        refine ex_vret (pc := 138) dX6_findBetter_138 ⟨wk, ?_, fun z z1 z2 z3 z4 => (up_n z1).trans (hfr z z1 z2 z3 z4), rfl⟩ rfl (Nat.le_refl _)
        rw [← hk, ← he]
        exact H.flags up_s (fun z hz => up_n hz)
      · refine ex_aload_n (pc := 32) dX6_findBetter_32 rfl ?_
        refine ex_getfield (pc := 33) dX6_findBetter_33 fk_X6_23 H.o (by rfl) ?_
        refine ex_iload_n (pc := 36) dX6_findBetter_36 rfl ?_
        refine ex_callVI (as := [_]) (pc := 37) dX6_findBetter_37 (lX2_numberOf T) lk_X6_113 ykX2_numberOf vkX2_numberOf T.r rfl rfl rfl (Nat.le_of_ble_eq_true rfl) ⟨by decide, by decide⟩ ⟨Nat.le_refl _, Nat.le_refl _⟩ (fun v37 w1 r37 p37 => ?_)
        obtain ⟨e37, p37⟩ := p37
        rw [e37]
        refine ex_if_ge (pc := 40) dX6_findBetter_40 (tgt := 54) (by decide) (fun c40 => ?_) (fun c40 => ?_)
        · refine ex_bipush (pc := 54) dX6_findBetter_54 (by decide) ?_
          refine ex_istore_n (L2 := [_, _, _, _]) (pc := 56) dX6_findBetter_56 rfl (Nat.le_of_ble_eq_true rfl) rfl ?_
          refine ex_iload_n (pc := 57) dX6_findBetter_57 rfl ?_
          refine ex_if_lt (pc := 58) dX6_findBetter_58 (tgt := 127) (by decide) (fun c58 => ?_) (fun c58 => by exfalso; omega)
          refine ex_iinc (L2 := [_, _, _, _]) (pc := 127) dX6_findBetter_127 rfl rfl (Nat.le_of_ble_eq_true rfl) (by unfold inI; omega) rfl ?_
          refine ex_goto (pc := 130) dX6_findBetter_130 (tgt := 25) (by decide) ?_
          refine ih (k + 1) (by omega) (by omega) w bk bc bg _ _ H T ?_ hfr
          show _ = (if _ then _ else _)
          rw [if_neg (by rw [← p37]; omega)]; exact he
        · refine ex_aload_n (pc := 43) dX6_findBetter_43 rfl ?_
          refine ex_getfield (pc := 44) dX6_findBetter_44 fk_X6_23 H.o (by rfl) ?_
          refine ex_iload_n (pc := 47) dX6_findBetter_47 rfl ?_
          refine ex_callVI (as := [_]) (pc := 48) dX6_findBetter_48 (lX2_insert T hl14) lk_X6_73 ykX2_insert vkX2_insert T.r rfl rfl rfl (Nat.le_of_ble_eq_true rfl) ⟨by decide, by decide⟩ ⟨Nat.le_refl _, Nat.le_refl _⟩ (fun v48 w2 r48 p48 => ?_)
          obtain ⟨q1, T2, q3⟩ := p48
          have H2 := H.trial T2.Tr q3
          have hcod2 : Cod (insL k s.1) := Cod_ins hv.1 (by omega)
          have hl2 : (insL k s.1).length ≤ 14 := T2.len
          refine ex_goto (pc := 51) dX6_findBetter_51 (tgt := 56) (by decide) ?_
          refine ex_istore_n (L2 := [_, _, _, _]) (pc := 56) dX6_findBetter_56 rfl (Nat.le_of_ble_eq_true rfl) rfl ?_
          refine ex_iload_n (pc := 57) dX6_findBetter_57 rfl ?_
          refine ex_if_lt (pc := 58) dX6_findBetter_58 (tgt := 127) (by decide) (fun c58 => by exfalso; omega) (fun c58 => ?_)
          obtain ⟨y1, y2, y3, y4, hx2⟩ := H2.X.q
          refine ex_aload_n (pc := 61) dX6_findBetter_61 rfl ?_
          refine ex_getfield (pc := 62) dX6_findBetter_62 fk_X6_45 H2.o (by rfl) ?_
          refine ex_aload_n (pc := 65) dX6_findBetter_65 rfl ?_
          refine ex_getfield (pc := 66) dX6_findBetter_66 fk_X6_23 H2.o (by rfl) ?_
          refine ex_aload_n (pc := 69) dX6_findBetter_69 rfl ?_
          refine ex_getfield (pc := 70) dX6_findBetter_70 fk_X6_23 H2.o (by rfl) ?_
          refine ex_callVI (as := []) (pc := 73) dX6_findBetter_73 (lX2_allNotes T2) lk_X6_167 ykX2_allNotes vkX2_allNotes T2.r rfl rfl rfl (Nat.le_of_ble_eq_true rfl) ⟨by decide, by decide⟩ ⟨Nat.le_refl _, Nat.le_refl _⟩ (fun v73 w3 r73 p73 => ?_)
          obtain ⟨e73, p73⟩ := p73
          rw [e73, p73]
          refine ex_callVV (as := [_, _]) (pc := 76) dX6_findBetter_76 (tX5_lookOver H2.X T2 hcod2 (by decide) (by decide) (Al_lt (insL k s.1))) lk_X6_234 ykX5_lookOver vkX5_lookOver hx2 rfl rfl rfl (Nat.le_of_ble_eq_true rfl) ⟨by decide, by decide⟩ ⟨Nat.le_refl _, Nat.le_refl _⟩ (fun w4 p76 => ?_)
          obtain ⟨s4, f4⟩ := p76
          have H4 := H2.finds (H2.H.fr (fun z z1 z2 => f4 z (by omega))) s4.X (H2.Y.fr (fun z z1 z2 => f4 z (by omega))) (H2.V.fr (f4 _ (by decide)) (f4 _ (by decide))) (fun z hz => f4 z (by omega))
          have T4 : PcAt w4 5 6 (insL k s.1) s.2.1 := T2.fr (f4 _ (by decide)) (f4 _ (by decide))
          refine ex_aload_n (pc := 79) dX6_findBetter_79 rfl ?_
          refine ex_getfield (pc := 80) dX6_findBetter_80 fk_X6_45 H4.o (by rfl) ?_
          refine ex_aload_n (pc := 83) dX6_findBetter_83 rfl ?_
          refine ex_getfield (pc := 84) dX6_findBetter_84 fk_X6_45 H4.o (by rfl) ?_
          refine ex_callVI (as := []) (pc := 87) dX6_findBetter_87 (tX5_bestShape s4 hl2) lk_X6_177 ykX5_bestShape vkX5_bestShape s4.q rfl rfl rfl (Nat.le_of_ble_eq_true rfl) ⟨by decide, by decide⟩ ⟨Nat.le_refl _, Nat.le_refl _⟩ (fun v87 w5 r87 p87 => ?_)
          obtain ⟨e87, p87⟩ := p87
          rw [e87]
          refine ex_callVI (as := [_]) (pc := 90) dX6_findBetter_90 (tX5_gainOf s4 hl2) lk_X6_164 ykX5_gainOf vkX5_gainOf s4.q rfl rfl rfl (Nat.le_of_ble_eq_true rfl) ⟨by decide, by decide⟩ ⟨Nat.le_refl _, Nat.le_refl _⟩ (fun v90 w6 r90 p90 => ?_)
          obtain ⟨e90, p90⟩ := p90
          rw [e90]
          have hbr := bestS_rng (insL k s.1) s.2.1 (Al (insL k s.1))
          have hg : v90 = gainB (insL k s.1) s.2.1 := by
            rw [p90]
            unfold gainB
            by_cases y : 0 ≤ bestS (insL k s.1) s.2.1 (Al (insL k s.1))
            · rw [if_pos y, if_pos (by omega), p87]; rfl
            · rw [if_neg y, if_neg (by omega)]
          refine ex_istore_n (L2 := [_, _, _, _]) (pc := 93) dX6_findBetter_93 rfl (Nat.le_of_ble_eq_true rfl) rfl ?_
          have hfin : ∀ (w7 : xW) (bc2 bg2 : Int), ClsC w7 s.1 s.2.1 s.2.2.1 s.2.2.2.1 s.2.2.2.2 wk bk bc2 bg2 → PcAt w7 5 6 (insL k s.1) s.2.1 → (∀ z, z ≠ 0 → w7 z = w4 z) → (bc2, bg2) = btS s.1 s.2.1 (k + 1) → Ex mX6_findBetter (pV (fun w2 => ∃ wk2 : Int, ClsC w2 s.1 s.2.1 s.2.2.1 s.2.2.2.1 s.2.2.2.2 wk2 1 (btS s.1 s.2.1 240).1 (btS s.1 s.2.1 240).2 ∧ (∀ z, z ≠ 0 → z ≠ 5 → z ≠ 6 → (z < 40 ∨ 49 ≤ z) → w2 z = W z) ∧ wk2 = wk)) 0 0 n w7 119 [some (xr 0), some (xi k), some (xi v48), some (xi v90)] [] := by
            intro w7 bc2 bg2 H7 T7 f7 he7
            refine ex_aload_n (pc := 119) dX6_findBetter_119 rfl ?_
            refine ex_getfield (pc := 120) dX6_findBetter_120 fk_X6_23 H7.o (by rfl) ?_
            refine ex_iload_n (pc := 123) dX6_findBetter_123 rfl ?_
            rw [q1]
            refine ex_callVV (as := [_]) (pc := 124) dX6_findBetter_124 (lX2_remove T7 (j := posL k s.1) (by rw [insL_len]; have := posL_le k s.1; omega)) lk_X6_119 ykX2_remove vkX2_remove T7.r rfl rfl rfl (Nat.le_of_ble_eq_true rfl) ⟨by decide, by decide⟩ ⟨Nat.le_refl _, Nat.le_refl _⟩ (fun w8 p124 => ?_)
            obtain ⟨T8, f8⟩ := p124
            rw [numL_ins (by rw [← p37]; omega)] at T8
            refine ex_iinc (L2 := [_, _, _, _]) (pc := 127) dX6_findBetter_127 rfl rfl (Nat.le_of_ble_eq_true rfl) (by unfold inI; omega) rfl ?_
            refine ex_goto (pc := 130) dX6_findBetter_130 (tgt := 25) (by decide) ?_
            exact ih (k + 1) (by omega) (by omega) w8 bk bc2 bg2 _ _ (H7.trial T8.Tr f8) T8 he7 (fun z z1 z2 z3 z4 => (f8 z z2 z3).trans ((f7 z z1).trans ((f4 z (by omega)).trans ((q3 z z2 z3).trans (hfr z z1 z2 z3 z4)))))
          refine ex_aload_n (pc := 94) dX6_findBetter_94 rfl ?_
          refine ex_getfield (pc := 95) dX6_findBetter_95 fk_X6_224 H4.o (by rfl) ?_
          have hset : (bc < 0 ∨ bg < v90) → Ex mX6_findBetter (pV (fun w2 => ∃ wk2 : Int, ClsC w2 s.1 s.2.1 s.2.2.1 s.2.2.2.1 s.2.2.2.2 wk2 1 (btS s.1 s.2.1 240).1 (btS s.1 s.2.1 240).2 ∧ (∀ z, z ≠ 0 → z ≠ 5 → z ≠ 6 → (z < 40 ∨ 49 ≤ z) → w2 z = W z) ∧ wk2 = wk)) 0 0 n w4 109 [some (xr 0), some (xi k), some (xi v48), some (xi v90)] [] := by
            intro hbb
            refine ex_aload_n (pc := 109) dX6_findBetter_109 rfl ?_
            refine ex_iload_n (pc := 110) dX6_findBetter_110 rfl ?_
            refine ex_putA (pc := 111) dX6_findBetter_111 fk_X6_224 (ty := tyX6 11) (fun _ _ _ h9 => by cases h9; exact ⟨tyX6_ok 11 (by decide), rfl⟩) H4.o (Nat.le_of_ble_eq_true rfl) (fun _ => rfl) (fun _ => rfl) ?_
            refine ex_aload_n (pc := 114) dX6_findBetter_114 rfl ?_
            refine ex_iload_n (pc := 115) dX6_findBetter_115 rfl ?_
            refine ex_putA (pc := 116) dX6_findBetter_116 fk_X6_227 (ty := tyX6 12) (fun _ _ _ h9 => by cases h9; exact ⟨tyX6_ok 12 (by decide), rfl⟩) up_s (Nat.le_of_ble_eq_true rfl) (fun _ => rfl) (fun _ => rfl) ?_
            refine hfin _ k v90 (H4.flags up_s (fun z hz => (up_n hz).trans (up_n hz))) (T4.fr ((up_n (by decide)).trans (up_n (by decide))) ((up_n (by decide)).trans (up_n (by decide)))) (fun z hz => (up_n hz).trans (up_n hz)) ?_
            show _ = (if _ then _ else _)
            rw [← he, if_pos ⟨by rw [← p37]; omega, by rw [← hg]; exact hbb⟩, hg]
          refine ex_if_lt (pc := 98) dX6_findBetter_98 (tgt := 109) (by decide) (fun c98 => hset (Or.inl c98)) (fun c98 => ?_)
          refine ex_iload_n (pc := 101) dX6_findBetter_101 rfl ?_
          refine ex_aload_n (pc := 102) dX6_findBetter_102 rfl ?_
          refine ex_getfield (pc := 103) dX6_findBetter_103 fk_X6_227 H4.o (by rfl) ?_
          refine ex_icmp_le (pc := 106) dX6_findBetter_106 (tgt := 119) (by decide) (fun c106 => ?_) (fun c106 => hset (Or.inr (by omega)))
          refine hfin w4 bc bg H4 T4 (fun z _ => rfl) ?_
          show _ = (if _ then _ else _)
          rw [← he, if_neg (by rw [← hg]; show ¬ (_ ∧ (bc < 0 ∨ bg < v90)); omega)]
  show Ex _ _ 0 0 n W 0 [some (xr 0), none, none, none] []
  obtain ⟨u1, u2, f0, k1, k2⟩ := H0.T
  refine ex_aload_n (pc := 0) dX6_findBetter_0 rfl ?_
  refine ex_iconst (pc := 1) dX6_findBetter_1 (by decide) ?_
  refine ex_putA (pc := 2) dX6_findBetter_2 fk_X6_224 (ty := tyX6 11) (fun _ _ _ h9 => by cases h9; exact ⟨tyX6_ok 11 (by decide), rfl⟩) H0.o (Nat.le_of_ble_eq_true rfl) (fun _ => rfl) (fun _ => rfl) ?_
  refine ex_up (fun w1 e_w1 => ?_)
  have h1_o := (congrFun e_w1 0).trans up_s
  have h1_p := ((congrFun e_w1 3).trans (up_n (by first | assumption | decide | omega))).trans H0.p
  refine ex_aload_n (pc := 5) dX6_findBetter_5 rfl ?_
  refine ex_sipush (pc := 6) dX6_findBetter_6 (by decide) ?_
  refine ex_putA (pc := 9) dX6_findBetter_9 fk_X6_227 (ty := tyX6 12) (fun _ _ _ h9 => by cases h9; exact ⟨tyX6_ok 12 (by decide), rfl⟩) h1_o (Nat.le_of_ble_eq_true rfl) (fun _ => rfl) (fun _ => rfl) ?_
  refine ex_up (fun w2 e_w2 => ?_)
  have h2_o := (congrFun e_w2 0).trans up_s
  have h2_p := ((congrFun e_w2 3).trans (up_n (by first | assumption | decide | omega))).trans h1_p
  refine ex_aload_n (pc := 12) dX6_findBetter_12 rfl ?_
  refine ex_getfield (pc := 13) dX6_findBetter_13 fk_X6_23 h2_o (by rfl) ?_
  refine ex_aload_n (pc := 16) dX6_findBetter_16 rfl ?_
  refine ex_getfield (pc := 17) dX6_findBetter_17 fk_X6_19 h2_o (by rfl) ?_
  have H2 := H0.flags h2_o (fun z hz => by rw [e_w2, up_n hz, e_w1, up_n hz])
  refine ex_callVV (as := [_]) (pc := 20) dX6_findBetter_20 (lX2_copyFrom (show w2 5 = _ by rw [e_w2, up_n (by decide), e_w1, up_n (by decide)]; exact k1) (show w2 6 = _ by rw [e_w2, up_n (by decide), e_w1, up_n (by decide)]; exact k2) H2.P (by decide) (by decide)) lk_X6_92 ykX2_copyFrom vkX2_copyFrom (show w2 5 = _ by rw [e_w2, up_n (by decide), e_w1, up_n (by decide)]; exact k1) rfl rfl rfl (Nat.le_of_ble_eq_true rfl) ⟨by decide, by decide⟩ ⟨Nat.le_refl _, Nat.le_refl _⟩ (fun w3 p20 => ?_)
  obtain ⟨T3, f3⟩ := p20
  refine ex_iconst (pc := 23) dX6_findBetter_23 (by decide) ?_
  refine ex_istore_n (L2 := [_, _, _, _]) (pc := 24) dX6_findBetter_24 rfl (Nat.le_of_ble_eq_true rfl) rfl ?_
  exact loop 241 0 (by omega) (by omega) w3 bk (-1) (-10000) _ _ (H2.trial T3.Tr f3) T3 rfl (fun z z1 z2 z3 z4 => (f3 z z2 z3).trans (by rw [e_w2, up_n z1, e_w1, up_n z1]))
theorem nd_len (l : List Int) : ∀ m : List Int, l.Nodup → (∀ x ∈ l, x ∈ m) → l.length ≤ m.length := by
  induction l with
  | nil => intro m _ _; exact Nat.zero_le _
  | cons a l ih =>
    intro m h1 h2
    have ha : a ∈ m := h2 a List.mem_cons_self
    obtain ⟨h3, h4⟩ := List.nodup_cons.mp h1
    have h5 := ih (m.erase a) h4 (fun x hx => (List.mem_erase_of_ne (by rintro rfl; exact h3 hx)).mpr (h2 x (List.mem_cons_of_mem _ hx)))
    rw [List.length_erase_of_mem ha] at h5
    have h6 : 0 < m.length := List.length_pos_of_mem ha
    simp only [List.length_cons]
    omega
theorem free_code {cs : List Int} (hl : cs.length < 14) : ∃ k : Nat, k < 14 ∧ numL k cs < 0 := by
  refine Decidable.byContradiction (fun h => ?_)
  have h1 : ∀ k : Nat, k < 14 → (k : Int) ∈ cs := by
    intro k hk
    refine Decidable.byContradiction (fun hm => h ⟨k, hk, ?_⟩)
    unfold numL
    have : cs.findIdx? (fun x => x == (k : Int)) = none := by
      rw [List.findIdx?_eq_none_iff]
      intro x hx
      rw [beq_eq_false_iff_ne]
      rintro rfl; exact hm hx
    rw [this]; decide
  have h2 : ((List.range 14).map (fun k : Nat => (k : Int))) ⊆ cs := by
    intro x hx
    obtain ⟨k, k1, k2⟩ := List.mem_map.mp hx
    rw [← k2]; exact h1 k (List.mem_range.mp k1)
  have h3 : ((List.range 14).map (fun k : Nat => (k : Int))).Nodup := by decide
  have h4 := nd_len _ cs h3 (fun x hx => h2 hx)
  rw [List.length_map, List.length_range] at h4
  omega
theorem btS_mono {cs : List Int} {mo : Int} : ∀ k j, k ≤ j → 0 ≤ (btS cs mo k).1 → 0 ≤ (btS cs mo j).1 := by
  intro k j
  induction j with
  | zero => intro h1 h2; rw [Nat.le_zero.mp h1] at h2; exact h2
  | succ j ih =>
    intro h1 h2
    by_cases e : k = j + 1
    · rw [← e]; exact h2
    · have := ih (by omega) h2
      unfold btS
      split
      · show (0 : Int) ≤ j; omega
      · exact this
theorem btS_pos {cs : List Int} {mo : Int} (hl : cs.length < 14) : 0 ≤ (btS cs mo 240).1 := by
  obtain ⟨k, h1, h2⟩ := free_code hl
  refine btS_mono (k + 1) 240 (by omega) ?_
  unfold btS
  split
  · show (0 : Int) ≤ k; omega
  · rename_i h
    refine Int.not_lt.mp (fun z => h ⟨h2, Or.inl z⟩)
abbrev mX6_better : xC := mkC yX6_better cX6_better 2 (some .int) 8 800 0 0
set_option maxHeartbeats 4000000 in
set_option maxRecDepth 100000 in
theorem tX6_better {n : Nat} {w : xW} {s : St} (hS : ClsS w s) {a : Int} : Ctr mX6_better [xr 0, xi a] n w (pI (fun v w2 => v = opBetter s a ∧ ClsS w2 s ∧ FrO w w2)) := by
  refine Ctr.of ykX6_better rfl (Nat.le_of_ble_eq_true rfl) okI (fun hin hW => ?_)
  have hS0 := hS
  obtain ⟨hv, wk, bk, bc, bg, H, hc⟩ := hS
  have hlen := H.P.len
  have fin : s.1.length < 14 → (0 ≤ a ∧ a ≤ 1) → ∀ (w2 : xW) (wk2 : Int), ClsC w2 s.1 s.2.1 s.2.2.1 s.2.2.2.1 s.2.2.2.2 wk2 1 (btS s.1 s.2.1 240).1 (btS s.1 s.2.1 240).2 → ClsS w2 s → FrO w w2 → Ex mX6_better (pI (fun v w2 => v = opBetter s a ∧ ClsS w2 s ∧ FrO w w2)) 0 0 n w2 37 [some (xr 0), some (xi a)] [] := by
    intro h14 ha w2 wk2 H2 hS2 hf
    have hbt := btS_rng (mo := s.2.1) h14 240
    have hb0 : 0 ≤ (btS s.1 s.2.1 240).1 := btS_pos h14
    have hop : opBetter s a = if a = 0 then 100 * ((btS s.1 s.2.1 240).1 / 12) + (btS s.1 s.2.1 240).1 % 12 else if (btS s.1 s.2.1 240).2 = -10000 then -4 else (btS s.1 s.2.1 240).2 + 100 := by unfold opBetter; rw [if_neg (by omega), if_neg (by omega)]
    rw [hop]
    generalize (btS s.1 s.2.1 240).1 = b1 at *
    generalize (btS s.1 s.2.1 240).2 = b2 at *
    refine ex_iload_n (pc := 37) dX6_better_37 rfl ?_
    refine ex_if_ne (pc := 38) dX6_better_38 (tgt := 60) (by decide) (fun c38 => ?_) (fun c38 => ?_)
    · refine ex_aload_n (pc := 60) dX6_better_60 rfl ?_
      refine ex_getfield (pc := 61) dX6_better_61 fk_X6_227 H2.o (by rfl) ?_
      refine ex_sipush (pc := 64) dX6_better_64 (by decide) ?_
      refine ex_icmp_ne (pc := 67) dX6_better_67 (tgt := 75) (by decide) (fun c67 => ?_) (fun c67 => ?_)
      · refine ex_aload_n (pc := 75) dX6_better_75 rfl ?_
        refine ex_getfield (pc := 76) dX6_better_76 fk_X6_227 H2.o (by rfl) ?_
        refine ex_bipush (pc := 79) dX6_better_79 (by decide) ?_
        refine ex_iadd (pc := 81) dX6_better_81 (by unfold inI; omega) ?_
        exact ex_iret (pc := 82) dX6_better_82 ⟨by rw [if_neg c38, if_neg c67], hS2, hf⟩ rfl (Nat.le_refl _)
      · refine ex_bipush (pc := 70) dX6_better_70 (by decide) ?_
        refine ex_goto (pc := 72) dX6_better_72 (tgt := 82) (by decide) ?_
        exact ex_iret (pc := 82) dX6_better_82 ⟨by rw [if_neg c38, if_pos c67], hS2, hf⟩ rfl (Nat.le_refl _)
    · refine ex_bipush (pc := 41) dX6_better_41 (by decide) ?_
      refine ex_aload_n (pc := 43) dX6_better_43 rfl ?_
      refine ex_getfield (pc := 44) dX6_better_44 fk_X6_224 H2.o (by rfl) ?_
      refine ex_bipush (pc := 47) dX6_better_47 (by decide) ?_
      refine ex_idiv (pc := 49) dX6_better_49 (by omega) (by omega) ?_
      refine ex_imul (pc := 50) dX6_better_50 (by unfold inI; omega) ?_
      refine ex_aload_n (pc := 51) dX6_better_51 rfl ?_
      refine ex_getfield (pc := 52) dX6_better_52 fk_X6_224 H2.o (by rfl) ?_
      refine ex_bipush (pc := 55) dX6_better_55 (by decide) ?_
      refine ex_irem (pc := 57) dX6_better_57 (by omega) (by omega) ?_
      refine ex_iadd (pc := 58) dX6_better_58 (by unfold inI; omega) ?_
      exact ex_iret (pc := 59) dX6_better_59 ⟨by rw [if_pos c38], hS2, hf⟩ rfl (Nat.le_refl _)
  show Ex _ _ 0 0 n w 0 [some (xr 0), some (xi a)] []
  refine ex_iload_n (pc := 0) dX6_better_0 rfl ?_
  refine ex_if_lt (pc := 1) dX6_better_1 (tgt := 9) (by decide) (fun c1 => ?_) (fun c1 => ?_)
  · refine ex_iconst (pc := 9) dX6_better_9 (by decide) ?_
    exact ex_iret (pc := 10) dX6_better_10 ⟨by unfold opBetter; rw [if_pos (by omega)], hS0, fun _ _ => rfl⟩ rfl (Nat.le_refl _)
  · refine ex_iload_n (pc := 4) dX6_better_4 rfl ?_
    refine ex_iconst (pc := 5) dX6_better_5 (by decide) ?_
    refine ex_icmp_le (pc := 6) dX6_better_6 (tgt := 11) (by decide) (fun c6 => ?_) (fun c6 => ?_)
    · refine ex_aload_n (pc := 11) dX6_better_11 rfl ?_
      refine ex_getfield (pc := 12) dX6_better_12 fk_X6_19 H.o (by rfl) ?_
      refine ex_getfield (pc := 15) dX6_better_15 fk_X6_89 H.p (by rfl) ?_
      refine ex_bipush (pc := 18) dX6_better_18 (by decide) ?_
      refine ex_icmp_lt (pc := 20) dX6_better_20 (tgt := 26) (by decide) (fun c20 => ?_) (fun c20 => ?_)
      · refine ex_aload_n (pc := 26) dX6_better_26 rfl ?_
        refine ex_getfield (pc := 27) dX6_better_27 fk_X6_217 H.o (by rfl) ?_
        refine ex_if_ne (pc := 30) dX6_better_30 (tgt := 37) (by decide) (fun c30 => ?_) (fun c30 => ?_)
        · obtain ⟨hb1, hb2⟩ := hc.2.resolve_left (by omega)
          rw [hb1] at H
          have e1 : bc = (btS s.1 s.2.1 240).1 := congrArg Prod.fst hb2
          have e2 : bg = (btS s.1 s.2.1 240).2 := congrArg Prod.snd hb2
          rw [e1, e2] at H
          exact fin (by omega) (by omega) w _ H hS0 (fun _ _ => rfl)
        · refine ex_aload_n (pc := 33) dX6_better_33 rfl ?_
          refine ex_callVV (as := []) (pc := 34) dX6_better_34 (tX6_findBetter H hv.1 (by omega)) lk_X6_221 ykX6_findBetter vkX6_findBetter H.o rfl rfl rfl (Nat.le_of_ble_eq_true rfl) ⟨by decide, by decide⟩ ⟨Nat.le_refl _, Nat.le_refl _⟩ (fun w1 p34 => ?_)
          obtain ⟨wk2, H1, q2, rfl⟩ := p34
          have hS9 : ClsS w1 s := ClsS.mk hv H1 ⟨(hc.fr (fun z z1 z2 => q2 z (by omega) (by omega) (by omega) (by omega))).1, Or.inr ⟨rfl, rfl⟩⟩
          exact fin (by omega) (by omega) w1 _ H1 hS9 (fun z hz => q2 z (by omega) (by omega) (by omega) (by omega))
      · refine ex_bipush (pc := 23) dX6_better_23 (by decide) ?_
        exact ex_iret (pc := 25) dX6_better_25 ⟨by unfold opBetter; rw [if_neg (by omega), if_pos (by omega)], hS0, fun _ _ => rfl⟩ rfl (Nat.le_refl _)
    · refine ex_iconst (pc := 9) dX6_better_9 (by decide) ?_
      exact ex_iret (pc := 10) dX6_better_10 ⟨by unfold opBetter; rw [if_pos (by omega)], hS0, fun _ _ => rfl⟩ rfl (Nat.le_refl _)
