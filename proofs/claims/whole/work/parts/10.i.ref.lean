abbrev mX7_lays : xC := mkC yX7_lays cX7_lays 7 none 5 500 0 0
theorem metF_rng {tf pf nu : Nat → Int} {mo : Int} {b : Nat} {d e : Int} (h : ∀ z, z < 240 → nu z = -4 ∨ 0 ≤ nu z) : metF tf pf nu mo b d e = -4 ∨ 0 ≤ metF tf pf nu mo b d e := by
  unfold metF
  split
  · exact nA_rng h _ _
  · split
    · split
      · exact nA_rng h _ _
      · exact nA_rng h _ _
    · exact nA_rng h _ _
theorem xor_0 {a : Nat} (ha : a < 2 ^ 31) : xor (a : Int) 0 = (a : Int) := by
  have := xor_n (a := a) (b := 0) ha (by decide)
  rw [Nat.or_zero] at this
  exact this
set_option maxHeartbeats 4000000 in
set_option maxRecDepth 100000 in
theorem tX7_lays {n : Nat} {W : xW} {a : Nat} {f g1 g2 : Nat → Int} {cs : List Int} {mo : Int} {pr : Nat} {uu kk ln pl mn pq cv sh be bg bc bp pa re px : Int} (h_o : W 55 = rO uu kk ln pl mn pq cv sh be bg bc bp pa re px) (h_T : W a = xA 30 f) (hR : RowL f 0 cs mo) (h_A : W 62 = xA 240 g1) (h_G : W 63 = xA 897 g2) (ha : a = 56 ∨ a = 58) (hl : cs.length ≤ 14) (hcd : Cod cs) (hprl : pr < 2 ^ cs.length) : Ctr mX7_lays [xr 55, xr a, xi pr] n W (pV (fun w2 => LdAt w2 cs mo pr ∧ w2 55 = rO uu kk ln pl (mo) pq cv sh be bg bc bp pa re px ∧ ∀ z, z ≠ 55 → z ≠ 62 → z ≠ 63 → w2 z = W z)) := by
  refine Ctr.of ykX7_lays rfl (Nat.le_of_ble_eq_true rfl) okV (fun hin hW => ?_)
  have hpr14 : pr < 2 ^ 14 := Nat.lt_of_lt_of_le hprl (Nat.pow_le_pow_right (by decide) hl)
  show Ex _ _ 0 0 n W 0 [some (xr 55), some (xr a), some (xi pr), none, none, none, none] []
  have L3 : ∀ (nu : Nat → Int), (∀ z, z < 240 → nu z = nuS cs pr cs.length z) → ∀ (d3 k1 : Nat), k1 ≤ 39 → 40 ≤ k1 + d3 → ∀ (w : xW) (dI : Int) (x4 x5 x6 : Option xV) (lg : Nat → Int), dI = (k1 : Int) - 19 → w 55 = rO uu kk ln pl (mo) pq cv sh be bg bc bp pa re px → w a = xA 30 f → w 62 = xA 240 nu → w 63 = xA 897 lg → (∀ z, z ≠ 55 → z ≠ 62 → z ≠ 63 → w z = W z) → (∀ z, z < 23 * k1 → lg z = (lgS cs mo pr z : Int)) → Ex mX7_lays (pV (fun w2 => LdAt w2 cs mo pr ∧ w2 55 = rO uu kk ln pl (mo) pq cv sh be bg bc bp pa re px ∧ ∀ z, z ≠ 55 → z ≠ 62 → z ≠ 63 → w2 z = W z)) 0 0 n w 77 [some (xr 55), some (xr a), some (xi pr), some (xi dI), x4, x5, x6] [] := by
    intro nu hnu d3
    have hnr : ∀ z, z < 240 → nu z = -4 ∨ 0 ≤ nu z := fun z hz => by rw [hnu z hz]; rcases nuS_rng cs pr cs.length z with q | q <;> omega
    induction d3 with
    | zero => intro k1 q1 q2; omega
    | succ d3 ih3 =>
      intro k1 q1 q2 w dI x4 x5 x6 lg hdI h_o h_T h_A h_G hfr hlg
      by_cases hk39 : k1 < 39
      · have L4 : ∀ (d4 k2 : Nat), k2 ≤ 23 → 24 ≤ k2 + d4 → ∀ (w : xW) (eI : Int) (x5 x6 : Option xV) (lg : Nat → Int), eI = (k2 : Int) - 11 → w 55 = rO uu kk ln pl (mo) pq cv sh be bg bc bp pa re px → w a = xA 30 f → w 62 = xA 240 nu → w 63 = xA 897 lg → (∀ z, z ≠ 55 → z ≠ 62 → z ≠ 63 → w z = W z) → (∀ z, z < 23 * k1 + k2 → lg z = (lgS cs mo pr z : Int)) → Ex mX7_lays (pV (fun w2 => LdAt w2 cs mo pr ∧ w2 55 = rO uu kk ln pl (mo) pq cv sh be bg bc bp pa re px ∧ ∀ z, z ≠ 55 → z ≠ 62 → z ≠ 63 → w2 z = W z)) 0 0 n w 87 [some (xr 55), some (xr a), some (xi pr), some (xi dI), some (xi eI), x5, x6] [] := by
          intro d4
          induction d4 with
          | zero => intro k2 q1 q2; omega
          | succ d4 ih4 =>
            intro k2 q1 q2 w eI x5 x6 lg heI h_o h_T h_A h_G hfr hlg
            have hek : eK (23 * k1 + k2) = eI ∨ k2 = 23 := by unfold eK; omega
            by_cases hk23 : k2 < 23
            · have hek : eK (23 * k1 + k2) = eI := by omega
              have L5 : ∀ (d5 i : Nat), i ≤ cs.length → cs.length + 1 ≤ i + d5 → ∀ (s5 : Int), s5 = (bs (fun b => pr.testBit b && decide (0 ≤ mtS cs mo pr b (23 * k1 + k2))) i : Int) → (i = 0 ∨ ¬ (mo = 1 ∧ eI < 0)) → Ex mX7_lays (pV (fun w2 => LdAt w2 cs mo pr ∧ w2 55 = rO uu kk ln pl (mo) pq cv sh be bg bc bp pa re px ∧ ∀ z, z ≠ 55 → z ≠ 62 → z ≠ 63 → w2 z = W z)) 0 0 n w 100 [some (xr 55), some (xr a), some (xi pr), some (xi dI), some (xi eI), some (xi s5), some (xi i)] [] := by
                intro d5
                induction d5 with
                | zero => intro i q1 q2; omega
                | succ d5 ih5 =>
                  intro i q1 q2 s5 hs h0
                  refine ex_iload (pc := 100) dX7_lays_100 rfl ?_
                  refine ex_aload_n (pc := 102) dX7_lays_102 rfl ?_
                  refine ex_iconst (pc := 103) dX7_lays_103 (by decide) ?_
                  refine ex_iaload (pc := 104) dX7_lays_104 h_T (by omega) (by omega) ?_
                  have hz0 : f (0 : Int).toNat = (cs.length : Int) := hR.1
                  rw [hz0]
                  refine ex_icmp_ge (pc := 105) dX7_lays_105 (tgt := 160) (by decide) (fun c105 => ?_) (fun c105 => ?_)
                  · have hfin : s5 = (lgS cs mo pr (23 * k1 + k2) : Int) := by
                      by_cases hz : mo = 1 ∧ eK (23 * k1 + k2) < 0
                      · have hi0 : i = 0 := by
                          rcases h0 with q | q
                          · exact q
                          · exact absurd (by omega) q
                        rw [lgS_neg hz, hs, hi0]; rfl
                      · have hil : i = cs.length := by omega
                        rw [lgS_bs hcd hl hprl (by omega) hz, hs, hil]
                    refine ex_aload_n (pc := 160) dX7_lays_160 rfl ?_
                    refine ex_getfield (pc := 161) dX7_lays_161 fk_X7_31 h_o (by rfl) ?_
                    refine ex_bipush (pc := 164) dX7_lays_164 (by decide) ?_
                    refine ex_iload_n (pc := 166) dX7_lays_166 rfl ?_
                    refine ex_bipush (pc := 167) dX7_lays_167 (by decide) ?_
                    refine ex_iadd (pc := 169) dX7_lays_169 (by unfold inI; omega) ?_
                    refine ex_imul (pc := 170) dX7_lays_170 (by unfold inI; omega) ?_
                    refine ex_iload (pc := 171) dX7_lays_171 rfl ?_
                    refine ex_iadd (pc := 173) dX7_lays_173 (by unfold inI; omega) ?_
                    refine ex_bipush (pc := 174) dX7_lays_174 (by decide) ?_
                    refine ex_iadd (pc := 176) dX7_lays_176 (by unfold inI; omega) ?_
                    refine ex_iload (pc := 177) dX7_lays_177 rfl ?_
                    refine ex_iastore (pc := 179) dX7_lays_179 h_G (by omega) (by omega) ?_
                    refine ex_up (fun w1 e_w1 => ?_)
                    have h1_o := ((congrFun e_w1 55).trans (up_n (by first | assumption | decide | omega))).trans h_o
                    have h1_A := ((congrFun e_w1 62).trans (up_n (by first | assumption | decide | omega))).trans h_A
                    have h1_G := (congrFun e_w1 63).trans up_s
                    have h1_T := ((congrFun e_w1 a).trans (up_n (by first | assumption | decide | omega))).trans h_T
                    refine ex_iinc (L2 := [_, _, _, _, _, _, _]) (pc := 180) dX7_lays_180 rfl rfl (Nat.le_of_ble_eq_true rfl) (by unfold inI; omega) rfl ?_
                    refine ex_goto (pc := 183) dX7_lays_183 (tgt := 87) (by decide) ?_
                    have hix : ((23 : Int) * (dI + 19) + eI + 11).toNat = 23 * k1 + k2 := by omega
                    refine ih4 (k2 + 1) (by omega) (by omega) w1 _ _ _ _ (by omega) h1_o h1_T h1_A h1_G (fun z z1 z2 z3 => by rw [e_w1, up_n z3]; exact hfr z z1 z2 z3) (fun z hz => ?_)
                    rw [hix]
                    by_cases q : z = 23 * k1 + k2
                    · rw [q, up_s]; exact hfin
                    · rw [up_n q]; exact hlg z (by omega)
                  · refine ex_iload (pc := 108) dX7_lays_108 rfl ?_
                    refine ex_aload_n (pc := 110) dX7_lays_110 rfl ?_
                    refine ex_callVI (as := []) (pc := 111) dX7_lays_111 (tX7_firstPitch h_o) lk_X7_119 ykX7_firstPitch vkX7_firstPitch h_o rfl rfl rfl (Nat.le_of_ble_eq_true rfl) ⟨by decide, by decide⟩ ⟨Nat.le_refl _, Nat.le_refl _⟩ (fun i111 w1 r111 p111 => ?_)
                    obtain ⟨e111, hfp⟩ := p111
                    rw [e111]
                    refine ex_icmp_lt (pc := 114) dX7_lays_114 (tgt := 160) (by decide) (fun c114 => ?_) (fun c114 => ?_)
                    · have hfin : s5 = (lgS cs mo pr (23 * k1 + k2) : Int) := by
                        have hz : mo = 1 ∧ eK (23 * k1 + k2) < 0 := by
                          rw [hfp] at c114
                          split at c114 <;> omega
                        have hi0 : i = 0 := by
                          rcases h0 with q | q
                          · exact q
                          · exact absurd (by omega) q
                        rw [lgS_neg hz, hs, hi0]; rfl
                      refine ex_aload_n (pc := 160) dX7_lays_160 rfl ?_
                      refine ex_getfield (pc := 161) dX7_lays_161 fk_X7_31 h_o (by rfl) ?_
                      refine ex_bipush (pc := 164) dX7_lays_164 (by decide) ?_
                      refine ex_iload_n (pc := 166) dX7_lays_166 rfl ?_
                      refine ex_bipush (pc := 167) dX7_lays_167 (by decide) ?_
                      refine ex_iadd (pc := 169) dX7_lays_169 (by unfold inI; omega) ?_
                      refine ex_imul (pc := 170) dX7_lays_170 (by unfold inI; omega) ?_
                      refine ex_iload (pc := 171) dX7_lays_171 rfl ?_
                      refine ex_iadd (pc := 173) dX7_lays_173 (by unfold inI; omega) ?_
                      refine ex_bipush (pc := 174) dX7_lays_174 (by decide) ?_
                      refine ex_iadd (pc := 176) dX7_lays_176 (by unfold inI; omega) ?_
                      refine ex_iload (pc := 177) dX7_lays_177 rfl ?_
                      refine ex_iastore (pc := 179) dX7_lays_179 h_G (by omega) (by omega) ?_
                      refine ex_up (fun w1 e_w1 => ?_)
                      have h1_o := ((congrFun e_w1 55).trans (up_n (by first | assumption | decide | omega))).trans h_o
                      have h1_A := ((congrFun e_w1 62).trans (up_n (by first | assumption | decide | omega))).trans h_A
                      have h1_G := (congrFun e_w1 63).trans up_s
                      have h1_T := ((congrFun e_w1 a).trans (up_n (by first | assumption | decide | omega))).trans h_T
                      refine ex_iinc (L2 := [_, _, _, _, _, _, _]) (pc := 180) dX7_lays_180 rfl rfl (Nat.le_of_ble_eq_true rfl) (by unfold inI; omega) rfl ?_
                      refine ex_goto (pc := 183) dX7_lays_183 (tgt := 87) (by decide) ?_
                      have hix : ((23 : Int) * (dI + 19) + eI + 11).toNat = 23 * k1 + k2 := by omega
                      refine ih4 (k2 + 1) (by omega) (by omega) w1 _ _ _ _ (by omega) h1_o h1_T h1_A h1_G (fun z z1 z2 z3 => by rw [e_w1, up_n z3]; exact hfr z z1 z2 z3) (fun z hz => ?_)
                      rw [hix]
                      by_cases q : z = 23 * k1 + k2
                      · rw [q, up_s]; exact hfin
                      · rw [up_n q]; exact hlg z (by omega)
                    · have hbl : bs (fun b => pr.testBit b && decide (0 ≤ mtS cs mo pr b (23 * k1 + k2))) i < 2 ^ 31 := Nat.lt_trans (bs_lt _ i) (Nat.lt_of_le_of_lt (Nat.pow_le_pow_right (by decide) (show i ≤ 14 by omega)) (by decide))
                      refine ex_iload (pc := 117) dX7_lays_117 rfl ?_
                      refine ex_iload_n (pc := 119) dX7_lays_119 rfl ?_
                      refine ex_iload (pc := 120) dX7_lays_120 rfl ?_
                      refine ex_callSZ (as := [_, _]) (pc := 122) dX7_lays_122 (tX7_has (by have := Nat.pow_le_pow_right (show 0 < 2 by decide) hl; omega) (by omega)) lk_X7_116 ykX7_has zkX7_has rfl rfl (Nat.le_of_ble_eq_true rfl) ⟨by decide, by decide⟩ ⟨Nat.le_refl _, Nat.le_refl _⟩ (fun i122 w1 r122 p122 => ?_)
                      obtain ⟨e122, p122⟩ := p122
                      rw [e122]
                      refine ex_if_eq (pc := 125) dX7_lays_125 (tgt := 150) (by decide) (fun c125 => ?_) (fun c125 => ?_)
                      · refine ex_iconst (pc := 150) dX7_lays_150 (by decide) ?_
                        refine ex_ior (pc := 151) dX7_lays_151 ?_
                        refine ex_istore (L2 := [_, _, _, _, _, _, _]) (pc := 152) dX7_lays_152 rfl (Nat.le_of_ble_eq_true rfl) rfl ?_
                        refine ex_iinc (L2 := [_, _, _, _, _, _, _]) (pc := 154) dX7_lays_154 rfl rfl (Nat.le_of_ble_eq_true rfl) (by unfold inI; omega) rfl ?_
                        refine ex_goto (pc := 157) dX7_lays_157 (tgt := 100) (by decide) ?_
                        exact ih5 (i + 1) (by omega) (by omega) _ (by rw [hs, xor_0 hbl, bs_s, if_neg (by rw [Bool.and_eq_true]; exact fun q => absurd (p122.mpr q.1) (by omega))]) (Or.inr (by rw [hfp] at c114; intro q; rw [if_pos q.1] at c114; omega))
                      · have hmt : metF (tmL cs) (ptL cs) nu mo i dI eI = mtS cs mo pr i (23 * k1 + k2) := by
                          have e1 : dI = dK (23 * k1 + k2) := by unfold dK; omega
                          have e2 : eI = eK (23 * k1 + k2) := by unfold eK; omega
                          rw [e1, e2]
                          exact metF_congr hnu rfl rfl
                        refine ex_aload_n (pc := 128) dX7_lays_128 rfl ?_
                        refine ex_aload_n (pc := 129) dX7_lays_129 rfl ?_
                        refine ex_iload (pc := 130) dX7_lays_130 rfl ?_
                        refine ex_iload_n (pc := 132) dX7_lays_132 rfl ?_
                        refine ex_iload (pc := 133) dX7_lays_133 rfl ?_
                        refine ex_callVI (as := [_, _, _, _]) (pc := 135) dX7_lays_135 (tX7_metBy h_o h_T hR h_A hl hcd hnr (by omega) (by omega)) lk_X7_122 ykX7_metBy vkX7_metBy h_o rfl rfl rfl (Nat.le_of_ble_eq_true rfl) ⟨by decide, by decide⟩ ⟨Nat.le_refl _, Nat.le_refl _⟩ (fun i135 w1 r135 p135 => ?_)
                        obtain ⟨e135, p135⟩ := p135
                        rw [e135]
                        have hrg : metF (tmL cs) (ptL cs) nu mo i dI eI = -4 ∨ 0 ≤ metF (tmL cs) (ptL cs) nu mo i dI eI := metF_rng hnr
                        refine ex_bipush (pc := 138) dX7_lays_138 (by decide) ?_
                        refine ex_icmp_eq (pc := 140) dX7_lays_140 (tgt := 150) (by decide) (fun c140 => ?_) (fun c140 => ?_)
                        · refine ex_iconst (pc := 150) dX7_lays_150 (by decide) ?_
                          refine ex_ior (pc := 151) dX7_lays_151 ?_
                          refine ex_istore (L2 := [_, _, _, _, _, _, _]) (pc := 152) dX7_lays_152 rfl (Nat.le_of_ble_eq_true rfl) rfl ?_
                          refine ex_iinc (L2 := [_, _, _, _, _, _, _]) (pc := 154) dX7_lays_154 rfl rfl (Nat.le_of_ble_eq_true rfl) (by unfold inI; omega) rfl ?_
                          refine ex_goto (pc := 157) dX7_lays_157 (tgt := 100) (by decide) ?_
                          exact ih5 (i + 1) (by omega) (by omega) _ (by rw [hs, xor_0 hbl, bs_s, if_neg (by rw [Bool.and_eq_true, decide_eq_true_eq]; intro q; have := q.2; rw [hmt] at p135; omega)]) (Or.inr (by rw [hfp] at c114; intro q; rw [if_pos q.1] at c114; omega))
                        · refine ex_iconst (pc := 143) dX7_lays_143 (by decide) ?_
                          refine ex_iload (pc := 144) dX7_lays_144 rfl ?_
                          refine ex_ishl (pc := 146) dX7_lays_146 ?_
                          refine ex_goto (pc := 147) dX7_lays_147 (tgt := 151) (by decide) ?_
                          refine ex_ior (pc := 151) dX7_lays_151 ?_
                          refine ex_istore (L2 := [_, _, _, _, _, _, _]) (pc := 152) dX7_lays_152 rfl (Nat.le_of_ble_eq_true rfl) rfl ?_
                          refine ex_iinc (L2 := [_, _, _, _, _, _, _]) (pc := 154) dX7_lays_154 rfl rfl (Nat.le_of_ble_eq_true rfl) (by unfold inI; omega) rfl ?_
                          refine ex_goto (pc := 157) dX7_lays_157 (tgt := 100) (by decide) ?_
                          exact ih5 (i + 1) (by omega) (by omega) _ (by rw [hs, xshl_n _ (by omega), xor_n hbl (Nat.lt_trans (Nat.pow_lt_pow_right (by decide) (show i < 14 by omega)) (by decide)), bs_s, if_pos (by rw [Bool.and_eq_true, decide_eq_true_eq]; exact ⟨p122.mp (by omega), by rw [hmt] at p135; omega⟩)]) (Or.inr (by rw [hfp] at c114; intro q; rw [if_pos q.1] at c114; omega))
              refine ex_iload (pc := 87) dX7_lays_87 rfl ?_
              refine ex_bipush (pc := 89) dX7_lays_89 (by decide) ?_
              refine ex_icmp_ge (pc := 91) dX7_lays_91 (tgt := 186) (by decide) (fun c91 => by exfalso; omega) (fun c91 => ?_)
              refine ex_iconst (pc := 94) dX7_lays_94 (by decide) ?_
              refine ex_istore (L2 := [_, _, _, _, _, _, _]) (pc := 95) dX7_lays_95 rfl (Nat.le_of_ble_eq_true rfl) rfl ?_
              refine ex_iconst (pc := 97) dX7_lays_97 (by decide) ?_
              refine ex_istore (L2 := [_, _, _, _, _, _, _]) (pc := 98) dX7_lays_98 rfl (Nat.le_of_ble_eq_true rfl) rfl ?_
              exact L5 (cs.length + 1) 0 (by omega) (by omega) _ rfl (Or.inl rfl)
            · refine ex_iload (pc := 87) dX7_lays_87 rfl ?_
              refine ex_bipush (pc := 89) dX7_lays_89 (by decide) ?_
              refine ex_icmp_ge (pc := 91) dX7_lays_91 (tgt := 186) (by decide) (fun c91 => ?_) (fun c91 => by exfalso; omega)
              refine ex_iinc (L2 := [_, _, _, _, _, _, _]) (pc := 186) dX7_lays_186 rfl rfl (Nat.le_of_ble_eq_true rfl) (by unfold inI; omega) rfl ?_
              refine ex_goto (pc := 189) dX7_lays_189 (tgt := 77) (by decide) ?_
              exact ih3 (k1 + 1) (by omega) (by omega) w _ _ _ _ lg (by omega) h_o h_T h_A h_G hfr (fun z hz => hlg z (by omega))
        refine ex_iload_n (pc := 77) dX7_lays_77 rfl ?_
        refine ex_bipush (pc := 78) dX7_lays_78 (by decide) ?_
        refine ex_icmp_ge (pc := 80) dX7_lays_80 (tgt := 192) (by decide) (fun c80 => by exfalso; omega) (fun c80 => ?_)
        refine ex_bipush (pc := 83) dX7_lays_83 (by decide) ?_
        refine ex_istore (L2 := [_, _, _, _, _, _, _]) (pc := 85) dX7_lays_85 rfl (Nat.le_of_ble_eq_true rfl) rfl ?_
        exact L4 24 0 (by omega) (by omega) w _ _ _ lg (by omega) h_o h_T h_A h_G hfr (fun z hz => hlg z (by omega))
      · refine ex_iload_n (pc := 77) dX7_lays_77 rfl ?_
        refine ex_bipush (pc := 78) dX7_lays_78 (by decide) ?_
        refine ex_icmp_ge (pc := 80) dX7_lays_80 (tgt := 192) (by decide) (fun c80 => ?_) (fun c80 => by exfalso; omega)
        exact ex_vret (pc := 192) dX7_lays_192 ⟨⟨nu, lg, h_A, hnu, h_G, fun k hk => hlg k (by omega)⟩, h_o, hfr⟩ rfl (Nat.le_refl _)
  have L2 : ∀ (d k : Nat), k ≤ cs.length → cs.length + 1 ≤ k + d → ∀ (w : xW) (nu : Nat → Int), w 55 = rO uu kk ln pl (mo) pq cv sh be bg bc bp pa re px → w a = xA 30 f → w 62 = xA 240 nu → w 63 = xA 897 g2 → (∀ z, z ≠ 55 → z ≠ 62 → z ≠ 63 → w z = W z) → (∀ z, z < 240 → nu z = nuS cs pr k z) → Ex mX7_lays (pV (fun w2 => LdAt w2 cs mo pr ∧ w2 55 = rO uu kk ln pl (mo) pq cv sh be bg bc bp pa re px ∧ ∀ z, z ≠ 55 → z ≠ 62 → z ≠ 63 → w2 z = W z)) 0 0 n w 32 [some (xr 55), some (xr a), some (xi pr), some (xi k), none, none, none] [] := by
    intro d
    induction d with
    | zero => intro k q1 q2; omega
    | succ d ih =>
      intro k q1 q2 w nu h_o h_T h_A h_G hfr hnu
      refine ex_iload_n (pc := 32) dX7_lays_32 rfl ?_
      refine ex_aload_n (pc := 33) dX7_lays_33 rfl ?_
      refine ex_iconst (pc := 34) dX7_lays_34 (by decide) ?_
      refine ex_iaload (pc := 35) dX7_lays_35 h_T (by omega) (by omega) ?_
      have hz0 : f (0 : Int).toNat = (cs.length : Int) := hR.1
      rw [hz0]
      refine ex_icmp_ge (pc := 36) dX7_lays_36 (tgt := 74) (by decide) (fun c36 => ?_) (fun c36 => ?_)
      · refine ex_bipush (pc := 74) dX7_lays_74 (by decide) ?_
        refine ex_istore_n (L2 := [_, _, _, _, _, _, _]) (pc := 76) dX7_lays_76 rfl (Nat.le_of_ble_eq_true rfl) rfl ?_
        exact L3 nu (fun z hz => by rw [hnu z hz, show k = cs.length by omega]) 40 0 (by omega) (by omega) w _ _ _ _ g2 (by omega) h_o h_T h_A h_G hfr (fun z hz => by omega)
      · refine ex_iload_n (pc := 39) dX7_lays_39 rfl ?_
        refine ex_iload_n (pc := 40) dX7_lays_40 rfl ?_
        refine ex_callSZ (as := [_, _]) (pc := 41) dX7_lays_41 (tX7_has (by have := Nat.pow_le_pow_right (show 0 < 2 by decide) hl; omega) (by omega)) lk_X7_116 ykX7_has zkX7_has rfl rfl (Nat.le_of_ble_eq_true rfl) ⟨by decide, by decide⟩ ⟨Nat.le_refl _, Nat.le_refl _⟩ (fun i41 w1 r41 p41 => ?_)
        obtain ⟨e41, p41⟩ := p41
        rw [e41]
        refine ex_if_eq (pc := 44) dX7_lays_44 (tgt := 68) (by decide) (fun c44 => ?_) (fun c44 => ?_)
        · refine ex_iinc (L2 := [_, _, _, _, _, _, _]) (pc := 68) dX7_lays_68 rfl rfl (Nat.le_of_ble_eq_true rfl) (by unfold inI; omega) rfl ?_
          refine ex_goto (pc := 71) dX7_lays_71 (tgt := 32) (by decide) ?_
          exact ih (k + 1) (by omega) (by omega) w nu h_o h_T h_A h_G hfr (fun z hz => by rw [hnu z hz, nuS_s, if_neg (fun q => absurd (p41.mpr q) (by omega))])
        · have h9 := hR.2.2 k (by omega)
          have e2 : f ((2 : Int) + (k : Int)).toNat = tmL cs k := by rw [← h9.1, show ((2 : Int) + (k : Int)).toNat = 0 + 2 + k by omega]
          have e16 : f ((16 : Int) + (k : Int)).toNat = ptL cs k := by rw [← h9.2, show ((16 : Int) + (k : Int)).toNat = 0 + 16 + k by omega]
          have hck := hcd k (by omega)
          have htm : 0 ≤ tmL cs k ∧ tmL cs k < 20 ∧ 0 ≤ ptL cs k ∧ ptL cs k < 12 := by unfold tmL ptL; omega
          have hcode : (12 : Int) * tmL cs k + ptL cs k = cs.getD k 0 := by unfold tmL ptL; omega
          refine ex_aload_n (pc := 47) dX7_lays_47 rfl ?_
          refine ex_getfield (pc := 48) dX7_lays_48 fk_X7_28 h_o (by rfl) ?_
          refine ex_bipush (pc := 51) dX7_lays_51 (by decide) ?_
          refine ex_aload_n (pc := 53) dX7_lays_53 rfl ?_
          refine ex_iconst (pc := 54) dX7_lays_54 (by decide) ?_
          refine ex_iload_n (pc := 55) dX7_lays_55 rfl ?_
          refine ex_iadd (pc := 56) dX7_lays_56 (by unfold inI; omega) ?_
          refine ex_iaload (pc := 57) dX7_lays_57 h_T (by omega) (by omega) ?_
          rw [e2]
          refine ex_imul (pc := 58) dX7_lays_58 (by unfold inI; omega) ?_
          refine ex_aload_n (pc := 59) dX7_lays_59 rfl ?_
          refine ex_bipush (pc := 60) dX7_lays_60 (by decide) ?_
          refine ex_iload_n (pc := 62) dX7_lays_62 rfl ?_
          refine ex_iadd (pc := 63) dX7_lays_63 (by unfold inI; omega) ?_
          refine ex_iaload (pc := 64) dX7_lays_64 h_T (by omega) (by omega) ?_
          rw [e16]
          refine ex_iadd (pc := 65) dX7_lays_65 (by unfold inI; omega) ?_
          refine ex_iload_n (pc := 66) dX7_lays_66 rfl ?_
          refine ex_iastore (pc := 67) dX7_lays_67 h_A (by omega) (by omega) ?_
          refine ex_up (fun w1 e_w1 => ?_)
          have h1_o := ((congrFun e_w1 55).trans (up_n (by first | assumption | decide | omega))).trans h_o
          have h1_A := (congrFun e_w1 62).trans up_s
          have h1_G := ((congrFun e_w1 63).trans (up_n (by first | assumption | decide | omega))).trans h_G
          have h1_T := ((congrFun e_w1 a).trans (up_n (by first | assumption | decide | omega))).trans h_T
          refine ex_iinc (L2 := [_, _, _, _, _, _, _]) (pc := 68) dX7_lays_68 rfl rfl (Nat.le_of_ble_eq_true rfl) (by unfold inI; omega) rfl ?_
          refine ex_goto (pc := 71) dX7_lays_71 (tgt := 32) (by decide) ?_
          refine ih (k + 1) (by omega) (by omega) w1 _ h1_o h1_T h1_A h1_G (fun z z1 z2 z3 => by rw [e_w1, up_n z2]; exact hfr z z1 z2 z3) (fun z hz => ?_)
          rw [nuS_s, if_pos (p41.mp (by omega)), hcode]
          by_cases q : z = (cs.getD k 0).toNat
          · rw [q, up_s, up_s]
          · rw [up_n q, up_n q]; exact hnu z hz
  have L1 : ∀ (d k : Nat), k ≤ 240 → 241 ≤ k + d → ∀ (w : xW) (nu : Nat → Int), w 55 = rO uu kk ln pl (mo) pq cv sh be bg bc bp pa re px → w a = xA 30 f → w 62 = xA 240 nu → w 63 = xA 897 g2 → (∀ z, z ≠ 55 → z ≠ 62 → z ≠ 63 → w z = W z) → (∀ z, z < k → nu z = -4) → Ex mX7_lays (pV (fun w2 => LdAt w2 cs mo pr ∧ w2 55 = rO uu kk ln pl (mo) pq cv sh be bg bc bp pa re px ∧ ∀ z, z ≠ 55 → z ≠ 62 → z ≠ 63 → w2 z = W z)) 0 0 n w 9 [some (xr 55), some (xr a), some (xi pr), some (xi k), none, none, none] [] := by
    intro d
    induction d with
    | zero => intro k q1 q2; omega
    | succ d ih =>
      intro k q1 q2 w nu h_o h_T h_A h_G hfr hnu
      refine ex_iload_n (pc := 9) dX7_lays_9 rfl ?_
      refine ex_sipush (pc := 10) dX7_lays_10 (by decide) ?_
      refine ex_icmp_ge (pc := 13) dX7_lays_13 (tgt := 30) (by decide) (fun c13 => ?_) (fun c13 => ?_)
      · refine ex_iconst (pc := 30) dX7_lays_30 (by decide) ?_
        refine ex_istore_n (L2 := [_, _, _, _, _, _, _]) (pc := 31) dX7_lays_31 rfl (Nat.le_of_ble_eq_true rfl) rfl ?_
        exact L2 (cs.length + 1) 0 (by omega) (by omega) w nu h_o h_T h_A h_G hfr (fun z hz => hnu z (by omega))
      · refine ex_aload_n (pc := 16) dX7_lays_16 rfl ?_
        refine ex_getfield (pc := 17) dX7_lays_17 fk_X7_28 h_o (by rfl) ?_
        refine ex_iload_n (pc := 20) dX7_lays_20 rfl ?_
        refine ex_bipush (pc := 21) dX7_lays_21 (by decide) ?_
        refine ex_iastore (pc := 23) dX7_lays_23 h_A (by omega) (by omega) ?_
        refine ex_up (fun w1 e_w1 => ?_)
        have h1_o := ((congrFun e_w1 55).trans (up_n (by first | assumption | decide | omega))).trans h_o
        have h1_A := (congrFun e_w1 62).trans up_s
        have h1_G := ((congrFun e_w1 63).trans (up_n (by first | assumption | decide | omega))).trans h_G
        have h1_T := ((congrFun e_w1 a).trans (up_n (by first | assumption | decide | omega))).trans h_T
        refine ex_iinc (L2 := [_, _, _, _, _, _, _]) (pc := 24) dX7_lays_24 rfl rfl (Nat.le_of_ble_eq_true rfl) (by unfold inI; omega) rfl ?_
        refine ex_goto (pc := 27) dX7_lays_27 (tgt := 9) (by decide) ?_
        have e1 : ((k : Int)).toNat = k := by omega
        refine ih (k + 1) (by omega) (by omega) w1 _ h1_o h1_T h1_A h1_G (fun z z1 z2 z3 => by rw [e_w1, up_n z2]; exact hfr z z1 z2 z3) (fun z hz => ?_)
        rw [e1]
        by_cases q : z = k
        · rw [q, up_s]
        · rw [up_n q]; exact hnu z (by omega)
  refine ex_aload_n (pc := 0) dX7_lays_0 rfl ?_
  refine ex_aload_n (pc := 1) dX7_lays_1 rfl ?_
  refine ex_iconst (pc := 2) dX7_lays_2 (by decide) ?_
  refine ex_iaload (pc := 3) dX7_lays_3 h_T (by omega) (by omega) ?_
  have hz1 : f (1 : Int).toNat = mo := hR.2.1
  rw [hz1]
  refine ex_putA (pc := 4) dX7_lays_4 fk_X7_110 (ty := tyX7 12) (fun _ _ _ h9 => by cases h9; exact ⟨tyX7_ok 12 (by decide), rfl⟩) h_o (Nat.le_of_ble_eq_true rfl) (fun _ => rfl) (fun _ => rfl) ?_
  refine ex_up (fun w1 e_w1 => ?_)
  have h1_o := (congrFun e_w1 55).trans up_s
  have h1_A := ((congrFun e_w1 62).trans (up_n (by first | assumption | decide | omega))).trans h_A
  have h1_G := ((congrFun e_w1 63).trans (up_n (by first | assumption | decide | omega))).trans h_G
  have h1_T := ((congrFun e_w1 a).trans (up_n (by first | assumption | decide | omega))).trans h_T
  refine ex_iconst (pc := 7) dX7_lays_7 (by decide) ?_
  refine ex_istore_n (L2 := [_, _, _, _, _, _, _]) (pc := 8) dX7_lays_8 rfl (Nat.le_of_ble_eq_true rfl) rfl ?_
  exact L1 241 0 (by omega) (by omega) w1 g1 h1_o h1_T h1_A h1_G (fun z z1 z2 z3 => by rw [e_w1, up_n z1]) (fun z hz => by omega)

