theorem nuS_bit (cs : List Int) (pr : Nat) : ∀ i z, 0 ≤ nuS cs pr i z → pr.testBit (nuS cs pr i z).toNat = true := by
  intro i
  induction i with
  | zero =>
    intro z h
    have h : (0 : Int) ≤ -4 := h
    omega
  | succ i ih =>
    intro z
    rw [nuS_s]
    by_cases h : pr.testBit i = true
    · rw [if_pos h]
      by_cases e : z = (cs.getD i 0).toNat
      · rw [e, up_s]; intro _
        rw [show ((i : Int)).toNat = i by omega]; exact h
      · rw [up_n e]; exact ih z
    · rw [if_neg h]; exact ih z
theorem nA_bit {cs : List Int} {pr : Nat} {t b : Int} (h : 0 ≤ nA (nuS cs pr cs.length) t b) : pr.testBit (nA (nuS cs pr cs.length) t b).toNat = true := by
  unfold nA at *
  split at h
  · rename_i q
    rw [if_pos q]; exact nuS_bit _ _ _ _ h
  · omega
theorem mtS_bit {cs : List Int} {mo : Int} {pr i k : Nat} (h : 0 ≤ mtS cs mo pr i k) : pr.testBit (mtS cs mo pr i k).toNat = true := by
  unfold mtS metS metF at *
  split at h
  · rename_i q
    rw [if_pos q]; exact nA_bit h
  · rename_i q
    rw [if_neg q]
    split at h
    · rename_i q2
      rw [if_pos q2]
      split at h
      · rename_i q3
        rw [if_pos q3]; exact nA_bit h
      · rename_i q3
        rw [if_neg q3]; exact nA_bit h
    · rename_i q2
      rw [if_neg q2]; exact nA_bit h
theorem cvG_sub {mt : Nat → Nat → Int} {pr set k : Nat} (h : ∀ i, 0 ≤ mt i k → pr.testBit (mt i k).toNat = true) : ∀ i c, (∀ z, c.testBit z = true → pr.testBit z = true) → ∀ z, (cvG mt set k i c).testBit z = true → pr.testBit z = true := by
  intro i
  induction i with
  | zero => intro c hc; exact hc
  | succ i ih =>
    intro c hc z
    rw [cvG_s]
    split
    · rename_i q
      simp only [Bool.and_eq_true, decide_eq_true_eq] at q
      rw [Nat.testBit_or, Bool.or_eq_true]
      rintro (h1 | h1)
      · exact ih c hc z h1
      · rw [Nat.testBit_two_pow, decide_eq_true_eq] at h1
        rw [← h1]; exact h i q.2
    · exact ih c hc z
theorem pc_sub {cs : List Int} {mo : Int} {pr set : Nat} : ∀ z, (pcS cs mo pr set).2.testBit z = true → pr.testBit z = true := by
  have key : ∀ (L : List Nat) (a : Nat × Nat), (∀ z, a.2.testBit z = true → pr.testBit z = true) → ∀ z, (L.foldl (fun a k => (a.1 + 1, cvG (mtS cs mo pr) set k 14 a.2)) a).2.testBit z = true → pr.testBit z = true := by
    intro L
    induction L with
    | nil => intro a ha; exact ha
    | cons x L ih =>
      intro a ha
      exact ih _ (cvG_sub (mt := mtS cs mo pr) (k := x) (fun i hi => mtS_bit hi) 14 a.2 ha)
  intro z
  exact key _ (0, 0) (fun z hz => by simp at hz) z
theorem ptS_y {cs : List Int} {mo : Int} {d rest : Nat} {acc : List (Nat × Nat × Nat)} {pc : Int} (h : 0 ≤ bestS cs mo rest ∧ 0 < gI cs mo rest (bestS cs mo rest).toNat) : ptS cs mo (d + 1) rest acc pc = ptS cs mo d (dif rest (pcS cs mo rest (ptN cs mo rest)).2) (acc ++ [(ptN cs mo rest, (pcS cs mo rest (ptN cs mo rest)).1, (pcS cs mo rest (ptN cs mo rest)).2)]) (pc + (pc14 (ptN cs mo rest) + (pcS cs mo rest (ptN cs mo rest)).1 - 1)) := by
  rw [ptS, if_pos h]
theorem ptS_n {cs : List Int} {mo : Int} {d rest : Nat} {acc : List (Nat × Nat × Nat)} {pc : Int} (h : ¬ (0 ≤ bestS cs mo rest ∧ 0 < gI cs mo rest (bestS cs mo rest).toNat)) : ptS cs mo (d + 1) rest acc pc = (acc, rest, pc) := by
  rw [ptS, if_neg h]
/-- the parts as they lie in the row -/
def PaL (g : Nat → Int) (L : List (Nat × Nat × Nat)) : Prop := ∀ i, i < L.length → g (3 * i) = ((L.getD i (0, 0, 0)).1 : Int) ∧ g (3 * i + 1) = ((L.getD i (0, 0, 0)).2.1 : Int) ∧ g (3 * i + 2) = ((L.getD i (0, 0, 0)).2.2 : Int)
theorem PaL.push {g : Nat → Int} {L : List (Nat × Nat × Nat)} {x : Nat × Nat × Nat} (h : PaL g L) : PaL (va_up (va_up (va_up g (3 * L.length) (x.1 : Int)) (3 * L.length + 1) (x.2.1 : Int)) (3 * L.length + 2) (x.2.2 : Int)) (L ++ [x]) := by
  intro i hi
  rw [List.length_append] at hi
  simp only [List.length_singleton] at hi
  by_cases e : i = L.length
  · subst e
    rw [getD_ap2]
    refine ⟨?_, ?_, ?_⟩
    · rw [up_n (by omega), up_n (by omega), up_s]
    · rw [up_n (by omega), up_s]
    · rw [up_s]
  · rw [getD_ap1 (by omega)]
    have := h i (by omega)
    refine ⟨?_, ?_, ?_⟩
    · rw [up_n (by omega), up_n (by omega), up_n (by omega)]; exact this.1
    · rw [up_n (by omega), up_n (by omega), up_n (by omega)]; exact this.2.1
    · rw [up_n (by omega), up_n (by omega), up_n (by omega)]; exact this.2.2
abbrev mX7_isParted : xC := mkC yX7_isParted cX7_isParted 2 none 8 800 0 0
set_option maxHeartbeats 4000000 in
set_option maxRecDepth 100000 in
theorem tX7_isParted {n : Nat} {W : xW} {a : Nat} {f g1 g2 g3 g5 : Nat → Int} {cs : List Int} {mo : Int} {uu kk ln pl mn pq cv sh be bg bc bp pa re px : Int} (h_o : W 55 = rO uu kk ln pl mn pq cv sh be bg bc bp pa re px) (h_T : W a = xA 30 f) (hR : RowL f 0 cs mo) (h_A : W 62 = xA 240 g1) (h_G : W 63 = xA 897 g2) (h_S : W 64 = xA 448 g3) (h_P : W 65 = xA 21 g5) (ha : a = 56 ∨ a = 58) (hl : cs.length ≤ 14) (hcd : Cod cs) {RES : List (Nat × Nat × Nat) × Nat × Int} (hRES : ptS cs mo 14 (2 ^ cs.length - 1) [] 0 = RES) : Ctr mX7_isParted [xr 55, xr a] n W (pV (fun w2 => AX w2 62 240 ∧ AX w2 63 897 ∧ AX w2 64 448 ∧ (∃ g, w2 65 = xA 21 g ∧ PaL g RES.1) ∧ RES.1.length ≤ 7 ∧ (∃ mn pq cv sh be bg bc bp : Int, w2 55 = rO uu kk ln pl mn pq cv sh be bg bc bp (RES.1.length) (RES.2.1) (RES.2.2 + pc14 RES.2.1)) ∧ ∀ z, z ≠ 55 → z ≠ 62 → z ≠ 63 → z ≠ 64 → z ≠ 65 → w2 z = W z)) := by
  refine Ctr.of ykX7_isParted rfl (Nat.le_of_ble_eq_true rfl) okV (fun hin hW => ?_)
  show Ex _ _ 0 0 n W 0 [some (xr 55), some (xr a)] []
  have loop : ∀ (d : Nat) (w : xW) (rest : Nat) (acc : List (Nat × Nat × Nat)) (pcc : Int) (nu lg ss gp : Nat → Int) (mn2 pq2 cv2 sh2 be2 bg2 bc2 bp2 : Int), (∀ i, i < (shL cs mo rest).length → ss i = (((shL cs mo rest).getD i 0 : Nat) : Int)) → rest < 2 ^ cs.length → d + acc.length = 14 → 2 * acc.length + pc14 rest ≤ 14 → (0 ≤ pcc ∧ pcc ≤ 2000 * acc.length) → ptS cs mo d rest acc pcc = RES → BsE cs mo rest be2 bg2 bc2 bp2 → w 55 = rO uu kk ln pl (mn2) (pq2) (cv2) (sh2) (be2) (bg2) (bc2) (bp2) (acc.length) (rest) (pcc) → w a = xA 30 f → w 62 = xA 240 nu → w 63 = xA 897 lg → w 64 = xA 448 ss → w 65 = xA 21 gp → PaL gp acc → (∀ z, z ≠ 55 → z ≠ 62 → z ≠ 63 → z ≠ 64 → z ≠ 65 → w z = W z) → Ex mX7_isParted (pV (fun w2 => AX w2 62 240 ∧ AX w2 63 897 ∧ AX w2 64 448 ∧ (∃ g, w2 65 = xA 21 g ∧ PaL g RES.1) ∧ RES.1.length ≤ 7 ∧ (∃ mn pq cv sh be bg bc bp : Int, w2 55 = rO uu kk ln pl mn pq cv sh be bg bc bp (RES.1.length) (RES.2.1) (RES.2.2 + pc14 RES.2.1)) ∧ ∀ z, z ≠ 55 → z ≠ 62 → z ≠ 63 → z ≠ 64 → z ≠ 65 → w2 z = W z)) 0 0 n w 27 [some (xr 55), some (xr a)] [] := by
    intro d
    induction d with
    | zero => intro w rest acc pcc nu lg ss gp mn2 pq2 cv2 sh2 be2 bg2 bc2 bp2 hss hrest hd h14; omega
    | succ d ih =>
      intro w rest acc pcc nu lg ss gp mn2 pq2 cv2 sh2 be2 bg2 bc2 bp2 hss hrest hd h14 hpcc he hBE h_o h_T h_A h_G h_S h_P hPa hfr
      have hrlt : rest < 16384 := Nat.lt_of_lt_of_le hrest (two14 hl)
      have hb0 := hBE.1
      have hbr := bestS_rng cs mo rest
      have hprl := pc_le rest
      refine ex_aload_n (pc := 27) dX7_isParted_27 rfl ?_
      refine ex_getfield (pc := 28) dX7_isParted_28 fk_X7_148 h_o (by rfl) ?_
      refine ex_bipush (pc := 31) dX7_isParted_31 (by decide) ?_
      refine ex_icmp_eq (pc := 33) dX7_isParted_33 (tgt := 171) (by decide) (fun c33 => ?_) (fun c33 => ?_)
      · have hR0 : (acc, rest, pcc) = RES := by rw [← he]; exact (ptS_n (fun q => by have := hBE.1; omega)).symm
        refine ex_aload_n (pc := 171) dX7_isParted_171 rfl ?_
        refine ex_dup (pc := 172) dX7_isParted_172 rfl ?_
        refine ex_getfield (pc := 173) dX7_isParted_173 fk_X7_179 h_o (by rfl) ?_
        refine ex_aload_n (pc := 176) dX7_isParted_176 rfl ?_
        refine ex_getfield (pc := 177) dX7_isParted_177 fk_X7_176 h_o (by rfl) ?_
        refine ex_callSI (as := [_]) (pc := 180) dX7_isParted_180 (tX7_bits hrlt) lk_X7_132 ykX7_bits zkX7_bits rfl rfl (Nat.le_of_ble_eq_true rfl) ⟨by decide, by decide⟩ ⟨Nat.le_refl _, Nat.le_refl _⟩ (fun i180 w1 r180 p180 => ?_)
        obtain ⟨e180, p180⟩ := p180
        rw [e180]
        refine ex_iadd (pc := 183) dX7_isParted_183 (by unfold inI; omega) ?_
        rw [p180]
        refine ex_putA (pc := 184) dX7_isParted_184 fk_X7_179 (ty := tyX7 24) (fun _ _ _ h9 => by cases h9; exact ⟨tyX7_ok 24 (by decide), rfl⟩) h_o (Nat.le_of_ble_eq_true rfl) (fun _ => rfl) (fun _ => rfl) ?_
        refine ex_up (fun w1 e_w1 => ?_)
        have h1_o := (congrFun e_w1 55).trans up_s
        have h1_A := ((congrFun e_w1 62).trans (up_n (by first | assumption | decide | omega))).trans h_A
        have h1_G := ((congrFun e_w1 63).trans (up_n (by first | assumption | decide | omega))).trans h_G
        have h1_S := ((congrFun e_w1 64).trans (up_n (by first | assumption | decide | omega))).trans h_S
        have h1_P := ((congrFun e_w1 65).trans (up_n (by first | assumption | decide | omega))).trans h_P
        have h1_T := ((congrFun e_w1 a).trans (up_n (by first | assumption | decide | omega))).trans h_T
        exact ex_vret (pc := 187) dX7_isParted_187 ⟨⟨_, h1_A⟩, ⟨_, h1_G⟩, ⟨_, h1_S⟩, ⟨_, h1_P, by rw [← hR0]; exact hPa⟩, by rw [← hR0]; show acc.length ≤ 7; omega, ⟨mn2, pq2, cv2, sh2, be2, bg2, bc2, bp2, by rw [← hR0]; exact h1_o⟩, fun z z1 z2 z3 z4 z5 => by rw [e_w1, up_n z1]; exact hfr z z1 z2 z3 z4 z5⟩ rfl (Nat.le_refl _)
      · refine ex_aload_n (pc := 36) dX7_isParted_36 rfl ?_
        refine ex_getfield (pc := 37) dX7_isParted_37 fk_X7_151 h_o (by rfl) ?_
        refine ex_if_le (pc := 40) dX7_isParted_40 (tgt := 171) (by decide) (fun c40 => ?_) (fun c40 => ?_)
        · have hR0 : (acc, rest, pcc) = RES := by rw [← he]; exact (ptS_n (fun q => by have := (hBE.2 q.1).1; omega)).symm
          refine ex_aload_n (pc := 171) dX7_isParted_171 rfl ?_
          refine ex_dup (pc := 172) dX7_isParted_172 rfl ?_
          refine ex_getfield (pc := 173) dX7_isParted_173 fk_X7_179 h_o (by rfl) ?_
          refine ex_aload_n (pc := 176) dX7_isParted_176 rfl ?_
          refine ex_getfield (pc := 177) dX7_isParted_177 fk_X7_176 h_o (by rfl) ?_
          refine ex_callSI (as := [_]) (pc := 180) dX7_isParted_180 (tX7_bits hrlt) lk_X7_132 ykX7_bits zkX7_bits rfl rfl (Nat.le_of_ble_eq_true rfl) ⟨by decide, by decide⟩ ⟨Nat.le_refl _, Nat.le_refl _⟩ (fun i180 w1 r180 p180 => ?_)
          obtain ⟨e180, p180⟩ := p180
          rw [e180]
          refine ex_iadd (pc := 183) dX7_isParted_183 (by unfold inI; omega) ?_
          rw [p180]
          refine ex_putA (pc := 184) dX7_isParted_184 fk_X7_179 (ty := tyX7 24) (fun _ _ _ h9 => by cases h9; exact ⟨tyX7_ok 24 (by decide), rfl⟩) h_o (Nat.le_of_ble_eq_true rfl) (fun _ => rfl) (fun _ => rfl) ?_
          refine ex_up (fun w1 e_w1 => ?_)
          have h1_o := (congrFun e_w1 55).trans up_s
          have h1_A := ((congrFun e_w1 62).trans (up_n (by first | assumption | decide | omega))).trans h_A
          have h1_G := ((congrFun e_w1 63).trans (up_n (by first | assumption | decide | omega))).trans h_G
          have h1_S := ((congrFun e_w1 64).trans (up_n (by first | assumption | decide | omega))).trans h_S
          have h1_P := ((congrFun e_w1 65).trans (up_n (by first | assumption | decide | omega))).trans h_P
          have h1_T := ((congrFun e_w1 a).trans (up_n (by first | assumption | decide | omega))).trans h_T
          exact ex_vret (pc := 187) dX7_isParted_187 ⟨⟨_, h1_A⟩, ⟨_, h1_G⟩, ⟨_, h1_S⟩, ⟨_, h1_P, by rw [← hR0]; exact hPa⟩, by rw [← hR0]; show acc.length ≤ 7; omega, ⟨mn2, pq2, cv2, sh2, be2, bg2, bc2, bp2, by rw [← hR0]; exact h1_o⟩, fun z z1 z2 z3 z4 z5 => by rw [e_w1, up_n z1]; exact hfr z z1 z2 z3 z4 z5⟩ rfl (Nat.le_refl _)
        · have hb0 := hBE.1
          have hbr := bestS_rng cs mo rest
          have hb3 := hBE.2 (by omega)
          have hyes : 0 ≤ bestS cs mo rest ∧ 0 < gI cs mo rest (bestS cs mo rest).toNat := ⟨by omega, by omega⟩
          have hbl : (bestS cs mo rest).toNat < (shL cs mo rest).length := by omega
          have hNlt : ptN cs mo rest < 16384 := sh_lt hbl
          have hN2 : two (ptN cs mo rest) = true := sh_two hbl
          have hN : ss be2.toNat = (ptN cs mo rest : Int) := by rw [hb0]; exact hss _ hbl
          have hpl := pcS_lt (mo := mo) (pr := rest) hl (ptN cs mo rest)
          have hgn : gI cs mo rest (bestS cs mo rest).toNat = (pc14 (pcS cs mo rest (ptN cs mo rest)).2 : Int) - pc14 (ptN cs mo rest) - (pcS cs mo rest (ptN cs mo rest)).1 + 1 := rfl
          have hp2 := (pc_low hNlt).2.mpr (two_iff.mp hN2)
          have hdf := pc_dif (a := rest) (c := (pcS cs mo rest (ptN cs mo rest)).2) pc_sub
          have h448 := sh448 cs mo rest
          have hple := pc_le (ptN cs mo rest)
          have i0 : ((3 : Int) * (acc.length : Int)).toNat = 3 * acc.length := by omega
          have i1 : ((3 : Int) * (acc.length : Int) + 1).toNat = 3 * acc.length + 1 := by omega
          have i2 : ((3 : Int) * (acc.length : Int) + 2).toNat = 3 * acc.length + 2 := by omega
          refine ex_aload_n (pc := 43) dX7_isParted_43 rfl ?_
          refine ex_getfield (pc := 44) dX7_isParted_44 fk_X7_37 h_o (by rfl) ?_
          refine ex_iconst (pc := 47) dX7_isParted_47 (by decide) ?_
          refine ex_aload_n (pc := 48) dX7_isParted_48 rfl ?_
          refine ex_getfield (pc := 49) dX7_isParted_49 fk_X7_173 h_o (by rfl) ?_
          refine ex_imul (pc := 52) dX7_isParted_52 (by unfold inI; omega) ?_
          refine ex_aload_n (pc := 53) dX7_isParted_53 rfl ?_
          refine ex_getfield (pc := 54) dX7_isParted_54 fk_X7_34 h_o (by rfl) ?_
          refine ex_aload_n (pc := 57) dX7_isParted_57 rfl ?_
          refine ex_getfield (pc := 58) dX7_isParted_58 fk_X7_148 h_o (by rfl) ?_
          refine ex_iaload (pc := 61) dX7_isParted_61 h_S (by omega) (by omega) ?_
          rw [hN]
          refine ex_iastore (pc := 62) dX7_isParted_62 h_P (by omega) (by omega) ?_
          refine ex_up (fun w1 e_w1 => ?_)
          have h1_o := ((congrFun e_w1 55).trans (up_n (by first | assumption | decide | omega))).trans h_o
          have h1_A := ((congrFun e_w1 62).trans (up_n (by first | assumption | decide | omega))).trans h_A
          have h1_G := ((congrFun e_w1 63).trans (up_n (by first | assumption | decide | omega))).trans h_G
          have h1_S := ((congrFun e_w1 64).trans (up_n (by first | assumption | decide | omega))).trans h_S
          have h1_P := (congrFun e_w1 65).trans up_s
          have h1_T := ((congrFun e_w1 a).trans (up_n (by first | assumption | decide | omega))).trans h_T
          refine ex_aload_n (pc := 63) dX7_isParted_63 rfl ?_
          refine ex_getfield (pc := 64) dX7_isParted_64 fk_X7_37 h1_o (by rfl) ?_
          refine ex_iconst (pc := 67) dX7_isParted_67 (by decide) ?_
          refine ex_aload_n (pc := 68) dX7_isParted_68 rfl ?_
          refine ex_getfield (pc := 69) dX7_isParted_69 fk_X7_173 h1_o (by rfl) ?_
          refine ex_imul (pc := 72) dX7_isParted_72 (by unfold inI; omega) ?_
          refine ex_iconst (pc := 73) dX7_isParted_73 (by decide) ?_
          refine ex_iadd (pc := 74) dX7_isParted_74 (by unfold inI; omega) ?_
          refine ex_aload_n (pc := 75) dX7_isParted_75 rfl ?_
          refine ex_getfield (pc := 76) dX7_isParted_76 fk_X7_163 h1_o (by rfl) ?_
          refine ex_iastore (pc := 79) dX7_isParted_79 h1_P (by omega) (by omega) ?_
          refine ex_up (fun w2 e_w2 => ?_)
          have h2_o := ((congrFun e_w2 55).trans (up_n (by first | assumption | decide | omega))).trans h1_o
          have h2_A := ((congrFun e_w2 62).trans (up_n (by first | assumption | decide | omega))).trans h1_A
          have h2_G := ((congrFun e_w2 63).trans (up_n (by first | assumption | decide | omega))).trans h1_G
          have h2_S := ((congrFun e_w2 64).trans (up_n (by first | assumption | decide | omega))).trans h1_S
          have h2_P := (congrFun e_w2 65).trans up_s
          have h2_T := ((congrFun e_w2 a).trans (up_n (by first | assumption | decide | omega))).trans h1_T
          refine ex_aload_n (pc := 80) dX7_isParted_80 rfl ?_
          refine ex_getfield (pc := 81) dX7_isParted_81 fk_X7_37 h2_o (by rfl) ?_
          refine ex_iconst (pc := 84) dX7_isParted_84 (by decide) ?_
          refine ex_aload_n (pc := 85) dX7_isParted_85 rfl ?_
          refine ex_getfield (pc := 86) dX7_isParted_86 fk_X7_173 h2_o (by rfl) ?_
          refine ex_imul (pc := 89) dX7_isParted_89 (by unfold inI; omega) ?_
          refine ex_iconst (pc := 90) dX7_isParted_90 (by decide) ?_
          refine ex_iadd (pc := 91) dX7_isParted_91 (by unfold inI; omega) ?_
          refine ex_aload_n (pc := 92) dX7_isParted_92 rfl ?_
          refine ex_getfield (pc := 93) dX7_isParted_93 fk_X7_154 h2_o (by rfl) ?_
          refine ex_iastore (pc := 96) dX7_isParted_96 h2_P (by omega) (by omega) ?_
          refine ex_up (fun w3 e_w3 => ?_)
          have h3_o := ((congrFun e_w3 55).trans (up_n (by first | assumption | decide | omega))).trans h2_o
          have h3_A := ((congrFun e_w3 62).trans (up_n (by first | assumption | decide | omega))).trans h2_A
          have h3_G := ((congrFun e_w3 63).trans (up_n (by first | assumption | decide | omega))).trans h2_G
          have h3_S := ((congrFun e_w3 64).trans (up_n (by first | assumption | decide | omega))).trans h2_S
          have h3_P := (congrFun e_w3 65).trans up_s
          have h3_T := ((congrFun e_w3 a).trans (up_n (by first | assumption | decide | omega))).trans h2_T
          refine ex_aload_n (pc := 97) dX7_isParted_97 rfl ?_
          refine ex_dup (pc := 98) dX7_isParted_98 rfl ?_
          refine ex_getfield (pc := 99) dX7_isParted_99 fk_X7_179 h3_o (by rfl) ?_
          refine ex_aload_n (pc := 102) dX7_isParted_102 rfl ?_
          refine ex_getfield (pc := 103) dX7_isParted_103 fk_X7_34 h3_o (by rfl) ?_
          refine ex_aload_n (pc := 106) dX7_isParted_106 rfl ?_
          refine ex_getfield (pc := 107) dX7_isParted_107 fk_X7_148 h3_o (by rfl) ?_
          refine ex_iaload (pc := 110) dX7_isParted_110 h3_S (by omega) (by omega) ?_
          rw [hN]
          refine ex_callSI (as := [_]) (pc := 111) dX7_isParted_111 (tX7_bits hNlt) lk_X7_132 ykX7_bits zkX7_bits rfl rfl (Nat.le_of_ble_eq_true rfl) ⟨by decide, by decide⟩ ⟨Nat.le_refl _, Nat.le_refl _⟩ (fun i111 w4 r111 p111 => ?_)
          obtain ⟨e111, p111⟩ := p111
          rw [e111]
          refine ex_aload_n (pc := 114) dX7_isParted_114 rfl ?_
          refine ex_getfield (pc := 115) dX7_isParted_115 fk_X7_37 h3_o (by rfl) ?_
          refine ex_iconst (pc := 118) dX7_isParted_118 (by decide) ?_
          refine ex_aload_n (pc := 119) dX7_isParted_119 rfl ?_
          refine ex_getfield (pc := 120) dX7_isParted_120 fk_X7_173 h3_o (by rfl) ?_
          refine ex_imul (pc := 123) dX7_isParted_123 (by unfold inI; omega) ?_
          refine ex_iconst (pc := 124) dX7_isParted_124 (by decide) ?_
          refine ex_iadd (pc := 125) dX7_isParted_125 (by unfold inI; omega) ?_
          refine ex_iaload (pc := 126) dX7_isParted_126 h3_P (by omega) (by omega) ?_
          rw [i0, i1, i2, up_n (show 3 * acc.length + 1 ≠ 3 * acc.length + 2 by omega), up_s, hb3.2.2]
          refine ex_iadd (pc := 127) dX7_isParted_127 (by unfold inI; omega) ?_
          refine ex_iconst (pc := 128) dX7_isParted_128 (by decide) ?_
          refine ex_isub (pc := 129) dX7_isParted_129 (by unfold inI; omega) ?_
          refine ex_iadd (pc := 130) dX7_isParted_130 (by unfold inI; omega) ?_
          rw [p111]
          refine ex_putA (pc := 131) dX7_isParted_131 fk_X7_179 (ty := tyX7 24) (fun _ _ _ h9 => by cases h9; exact ⟨tyX7_ok 24 (by decide), rfl⟩) h3_o (Nat.le_of_ble_eq_true rfl) (fun _ => rfl) (fun _ => rfl) ?_
          refine ex_up (fun w4 e_w4 => ?_)
          have h4_o := (congrFun e_w4 55).trans up_s
          have h4_A := ((congrFun e_w4 62).trans (up_n (by first | assumption | decide | omega))).trans h3_A
          have h4_G := ((congrFun e_w4 63).trans (up_n (by first | assumption | decide | omega))).trans h3_G
          have h4_S := ((congrFun e_w4 64).trans (up_n (by first | assumption | decide | omega))).trans h3_S
          have h4_P := ((congrFun e_w4 65).trans (up_n (by first | assumption | decide | omega))).trans h3_P
          have h4_T := ((congrFun e_w4 a).trans (up_n (by first | assumption | decide | omega))).trans h3_T
          refine ex_aload_n (pc := 134) dX7_isParted_134 rfl ?_
          refine ex_dup (pc := 135) dX7_isParted_135 rfl ?_
          refine ex_getfield (pc := 136) dX7_isParted_136 fk_X7_173 h4_o (by rfl) ?_
          refine ex_iconst (pc := 139) dX7_isParted_139 (by decide) ?_
          refine ex_iadd (pc := 140) dX7_isParted_140 (by unfold inI; omega) ?_
          refine ex_putA (pc := 141) dX7_isParted_141 fk_X7_173 (ty := tyX7 21) (fun _ _ _ h9 => by cases h9; exact ⟨tyX7_ok 21 (by decide), rfl⟩) h4_o (Nat.le_of_ble_eq_true rfl) (fun _ => rfl) (fun _ => rfl) ?_
          refine ex_up (fun w5 e_w5 => ?_)
          have h5_o := (congrFun e_w5 55).trans up_s
          have h5_A := ((congrFun e_w5 62).trans (up_n (by first | assumption | decide | omega))).trans h4_A
          have h5_G := ((congrFun e_w5 63).trans (up_n (by first | assumption | decide | omega))).trans h4_G
          have h5_S := ((congrFun e_w5 64).trans (up_n (by first | assumption | decide | omega))).trans h4_S
          have h5_P := ((congrFun e_w5 65).trans (up_n (by first | assumption | decide | omega))).trans h4_P
          have h5_T := ((congrFun e_w5 a).trans (up_n (by first | assumption | decide | omega))).trans h4_T
          refine ex_aload_n (pc := 144) dX7_isParted_144 rfl ?_
          refine ex_dup (pc := 145) dX7_isParted_145 rfl ?_
          refine ex_getfield (pc := 146) dX7_isParted_146 fk_X7_176 h5_o (by rfl) ?_
          refine ex_aload_n (pc := 149) dX7_isParted_149 rfl ?_
          refine ex_getfield (pc := 150) dX7_isParted_150 fk_X7_154 h5_o (by rfl) ?_
          refine ex_iconst (pc := 153) dX7_isParted_153 (by decide) ?_
          refine ex_ixor (pc := 154) dX7_isParted_154 ?_
          refine ex_iand (pc := 155) dX7_isParted_155 ?_
          rw [hb3.2.1, xdif_n (Nat.lt_trans hrlt (by decide))]
          refine ex_putA (pc := 156) dX7_isParted_156 fk_X7_176 (ty := tyX7 23) (fun _ _ _ h9 => by cases h9; exact ⟨tyX7_ok 23 (by decide), rfl⟩) h5_o (Nat.le_of_ble_eq_true rfl) (fun _ => rfl) (fun _ => rfl) ?_
          refine ex_up (fun w6 e_w6 => ?_)
          have h6_o := (congrFun e_w6 55).trans up_s
          have h6_A := ((congrFun e_w6 62).trans (up_n (by first | assumption | decide | omega))).trans h5_A
          have h6_G := ((congrFun e_w6 63).trans (up_n (by first | assumption | decide | omega))).trans h5_G
          have h6_S := ((congrFun e_w6 64).trans (up_n (by first | assumption | decide | omega))).trans h5_S
          have h6_P := ((congrFun e_w6 65).trans (up_n (by first | assumption | decide | omega))).trans h5_P
          have h6_T := ((congrFun e_w6 a).trans (up_n (by first | assumption | decide | omega))).trans h5_T
          refine ex_aload_n (pc := 159) dX7_isParted_159 rfl ?_
          refine ex_aload_n (pc := 160) dX7_isParted_160 rfl ?_
          refine ex_aload_n (pc := 161) dX7_isParted_161 rfl ?_
          refine ex_getfield (pc := 162) dX7_isParted_162 fk_X7_176 h6_o (by rfl) ?_
          refine ex_callVV (as := [_, _]) (pc := 165) dX7_isParted_165 (tX7_findsBest h6_o h6_T hR h6_A h6_G h6_S ha hl hcd (Nat.lt_of_le_of_lt (dif_le _ _) hrest)) lk_X7_170 ykX7_findsBest vkX7_findsBest h6_o rfl rfl rfl (Nat.le_of_ble_eq_true rfl) ⟨by decide, by decide⟩ ⟨Nat.le_refl _, Nat.le_refl _⟩ (fun w7 p165 => ?_)
          obtain ⟨⟨nuB, lgB, h7_A, -, h7_G, -⟩, ⟨ssB, h7_S, hssB⟩, ⟨pq2, cv2, be2, bg2, bc2, bp2, hBEB, h7_o⟩, hfLB⟩ := p165
          have h7_T := (hfLB a (by omega) (by omega) (by omega) (by omega)).trans h6_T
          have h7_P := (hfLB 65 (by decide) (by decide) (by decide) (by decide)).trans h6_P
          refine ex_goto (pc := 168) dX7_isParted_168 (tgt := 27) (by decide) ?_
          have hre : dif rest (pcS cs mo rest (ptN cs mo rest)).2 < 2 ^ cs.length := Nat.lt_of_le_of_lt (dif_le _ _) hrest
          refine ih w7 (dif rest (pcS cs mo rest (ptN cs mo rest)).2) (acc ++ [(ptN cs mo rest, (pcS cs mo rest (ptN cs mo rest)).1, (pcS cs mo rest (ptN cs mo rest)).2)]) (pcc + (pc14 (ptN cs mo rest) + (pcS cs mo rest (ptN cs mo rest)).1 - 1)) _ _ _ _ _ _ _ _ _ _ _ _ hssB hre (by rw [List.length_append]; simp only [List.length_singleton]; omega) (by rw [List.length_append]; simp only [List.length_singleton]; omega) (by rw [List.length_append]; simp only [List.length_singleton]; omega) (by rw [← ptS_y hyes]; exact he) hBEB (by rw [List.length_append]; exact h7_o) h7_T h7_A h7_G h7_S h7_P ?_ (fun z z1 z2 z3 z4 z5 => (hfLB z z1 z2 z3 z4).trans (by rw [e_w6, up_n z1, e_w5, up_n z1, e_w4, up_n z1, e_w3, up_n z5, e_w2, up_n z5, e_w1, up_n z5]; exact hfr z z1 z2 z3 z4 z5))
          rw [i0, i1, i2, hb3.2.1, hb3.2.2]
          exact hPa.push (x := (ptN cs mo rest, (pcS cs mo rest (ptN cs mo rest)).1, (pcS cs mo rest (ptN cs mo rest)).2))
  refine ex_aload_n (pc := 0) dX7_isParted_0 rfl ?_
  refine ex_iconst (pc := 1) dX7_isParted_1 (by decide) ?_
  refine ex_putA (pc := 2) dX7_isParted_2 fk_X7_173 (ty := tyX7 21) (fun _ _ _ h9 => by cases h9; exact ⟨tyX7_ok 21 (by decide), rfl⟩) h_o (Nat.le_of_ble_eq_true rfl) (fun _ => rfl) (fun _ => rfl) ?_
  refine ex_up (fun w1 e_w1 => ?_)
  have h1_o := (congrFun e_w1 55).trans up_s
  have h1_A := ((congrFun e_w1 62).trans (up_n (by first | assumption | decide | omega))).trans h_A
  have h1_G := ((congrFun e_w1 63).trans (up_n (by first | assumption | decide | omega))).trans h_G
  have h1_S := ((congrFun e_w1 64).trans (up_n (by first | assumption | decide | omega))).trans h_S
  have h1_P := ((congrFun e_w1 65).trans (up_n (by first | assumption | decide | omega))).trans h_P
  have h1_T := ((congrFun e_w1 a).trans (up_n (by first | assumption | decide | omega))).trans h_T
  refine ex_aload_n (pc := 5) dX7_isParted_5 rfl ?_
  refine ex_aload_n (pc := 6) dX7_isParted_6 rfl ?_
  refine ex_callSI (as := [_]) (pc := 7) dX7_isParted_7 (tX7_allOf h1_T (by decide) hR.1 hl) lk_X7_166 ykX7_allOf zkX7_allOf rfl rfl (Nat.le_of_ble_eq_true rfl) ⟨by decide, by decide⟩ ⟨Nat.le_refl _, Nat.le_refl _⟩ (fun i7 w2 r7 p7 => ?_)
  obtain ⟨ew, ep⟩ := p7
  rw [ew, ep]
  refine ex_putA (pc := 10) dX7_isParted_10 fk_X7_176 (ty := tyX7 23) (fun _ _ _ h9 => by cases h9; exact ⟨tyX7_ok 23 (by decide), rfl⟩) h1_o (Nat.le_of_ble_eq_true rfl) (fun _ => rfl) (fun _ => rfl) ?_
  refine ex_up (fun w2 e_w2 => ?_)
  have h2_o := (congrFun e_w2 55).trans up_s
  have h2_A := ((congrFun e_w2 62).trans (up_n (by first | assumption | decide | omega))).trans h1_A
  have h2_G := ((congrFun e_w2 63).trans (up_n (by first | assumption | decide | omega))).trans h1_G
  have h2_S := ((congrFun e_w2 64).trans (up_n (by first | assumption | decide | omega))).trans h1_S
  have h2_P := ((congrFun e_w2 65).trans (up_n (by first | assumption | decide | omega))).trans h1_P
  have h2_T := ((congrFun e_w2 a).trans (up_n (by first | assumption | decide | omega))).trans h1_T
  refine ex_aload_n (pc := 13) dX7_isParted_13 rfl ?_
  refine ex_iconst (pc := 14) dX7_isParted_14 (by decide) ?_
  refine ex_putA (pc := 15) dX7_isParted_15 fk_X7_179 (ty := tyX7 24) (fun _ _ _ h9 => by cases h9; exact ⟨tyX7_ok 24 (by decide), rfl⟩) h2_o (Nat.le_of_ble_eq_true rfl) (fun _ => rfl) (fun _ => rfl) ?_
  refine ex_up (fun w3 e_w3 => ?_)
  have h3_o := (congrFun e_w3 55).trans up_s
  have h3_A := ((congrFun e_w3 62).trans (up_n (by first | assumption | decide | omega))).trans h2_A
  have h3_G := ((congrFun e_w3 63).trans (up_n (by first | assumption | decide | omega))).trans h2_G
  have h3_S := ((congrFun e_w3 64).trans (up_n (by first | assumption | decide | omega))).trans h2_S
  have h3_P := ((congrFun e_w3 65).trans (up_n (by first | assumption | decide | omega))).trans h2_P
  have h3_T := ((congrFun e_w3 a).trans (up_n (by first | assumption | decide | omega))).trans h2_T
  refine ex_aload_n (pc := 18) dX7_isParted_18 rfl ?_
  refine ex_aload_n (pc := 19) dX7_isParted_19 rfl ?_
  refine ex_aload_n (pc := 20) dX7_isParted_20 rfl ?_
  refine ex_getfield (pc := 21) dX7_isParted_21 fk_X7_176 h3_o (by rfl) ?_
  refine ex_callVV (as := [_, _]) (pc := 24) dX7_isParted_24 (tX7_findsBest h3_o h3_T hR h3_A h3_G h3_S ha hl hcd (Al_lt cs)) lk_X7_170 ykX7_findsBest vkX7_findsBest h3_o rfl rfl rfl (Nat.le_of_ble_eq_true rfl) ⟨by decide, by decide⟩ ⟨Nat.le_refl _, Nat.le_refl _⟩ (fun w4 p24 => ?_)
  obtain ⟨⟨nuA, lgA, h4_A, -, h4_G, -⟩, ⟨ssA, h4_S, hssA⟩, ⟨pq2, cv2, be2, bg2, bc2, bp2, hBEA, h4_o⟩, hfLA⟩ := p24
  have h4_T := (hfLA a (by omega) (by omega) (by omega) (by omega)).trans h3_T
  have h4_P := (hfLA 65 (by decide) (by decide) (by decide) (by decide)).trans h3_P
  exact loop 14 w4 (2 ^ cs.length - 1) [] 0 _ _ _ _ _ _ _ _ _ _ _ _ hssA (Al_lt cs) rfl (by have := pc_le (2 ^ cs.length - 1); simp only [List.length_nil]; omega) (by simp) hRES hBEA h4_o h4_T h4_A h4_G h4_S h4_P (fun i hi => absurd hi (Nat.not_lt_zero _)) (fun z z1 z2 z3 z4 z5 => (hfLA z z1 z2 z3 z4).trans (by rw [e_w3, up_n z1, e_w2, up_n z1, e_w1, up_n z1]))

abbrev mX7_parted : xC := mkC yX7_parted cX7_parted 3 (some .int) 9 900 0 0
set_option maxHeartbeats 4000000 in
set_option maxRecDepth 100000 in
theorem tX7_parted {n : Nat} {w : xW} {s : St} (hS : RefS w s) {k a : Int} : Ctr mX7_parted [xr 55, xi k, xi a] n w (pI (fun v w2 => v = opParted s k a ∧ RefS w2 s ∧ FrR w w2)) := by
  refine Ctr.of ykX7_parted rfl (Nat.le_of_ble_eq_true rfl) okI (fun hin hW => ?_)
  have hS0 := hS
  obtain ⟨hv, hsc, ⟨pl, mn, pq, cv, sh, be, bg, bc, bp, pa, re, px, h_o⟩, ⟨f, h_n, hR⟩, ⟨g, h_p, hU⟩, hu8, ⟨kf, h_k, hK⟩, hk2, ⟨t, h_t, ht⟩, hlen⟩ := hS
  have hl : s.1.length ≤ 14 := hv.1.2.2.1
  have hl1 : 1 ≤ s.1.length := hv.1.2.1
  have hcd : Cod s.1 := hv.1.1
  have hsc0 := hsc
  obtain ⟨⟨f57, h_r⟩, ⟨f58, h_a⟩, ⟨f62, h_A⟩, ⟨f63, h_G⟩, ⟨f64, h_S⟩, ⟨f65, h_P⟩, ⟨f66, h_F⟩, ⟨f67, h_V⟩⟩ := hsc
  have hal := Al_lt s.1
  have hal2 := Al_16 hl
  have hAl : Al s.1 = 2 ^ s.1.length - 1 := rfl
  show Ex _ _ 0 0 n w 0 [some (xr 55), some (xi k), some (xi a)] []
  refine ex_iload_n (pc := 0) dX7_parted_0 rfl ?_
  refine ex_if_lt (pc := 1) dX7_parted_1 (tgt := 13) (by decide) (fun c1 => ?_) (fun c1 => ?_)
  · refine ex_iconst (pc := 13) dX7_parted_13 (by decide) ?_
    exact ex_iret (pc := 14) dX7_parted_14 ⟨by unfold opParted; rw [if_pos (by omega)], hS0, fun _ _ => rfl⟩ rfl (Nat.le_refl _)
  · refine ex_iload_n (pc := 4) dX7_parted_4 rfl ?_
    refine ex_iconst (pc := 5) dX7_parted_5 (by decide) ?_
    refine ex_iconst (pc := 6) dX7_parted_6 (by decide) ?_
    refine ex_callSZ (as := [_, _, _]) (pc := 7) dX7_parted_7 (tX7_in) lk_X7_68 ykX7_in zkX7_in rfl rfl (Nat.le_of_ble_eq_true rfl) ⟨by decide, by decide⟩ ⟨Nat.le_refl _, Nat.le_refl _⟩ (fun i7 w1 r7 p7 => ?_)
    obtain ⟨e7, p7⟩ := p7
    rw [e7]
    refine ex_if_ne (pc := 10) dX7_parted_10 (tgt := 15) (by decide) (fun c10 => ?_) (fun c10 => ?_)
    · refine ex_aload_n (pc := 15) dX7_parted_15 rfl ?_
      refine ex_aload_n (pc := 16) dX7_parted_16 rfl ?_
      refine ex_getfield (pc := 17) dX7_parted_17 fk_X7_7 h_o (by rfl) ?_
      refine ex_callVV (as := [_]) (pc := 20) dX7_parted_20 (tX7_isParted h_o h_n hR h_A h_G h_S h_P (by decide) hl hcd rfl) lk_X7_182 ykX7_isParted vkX7_isParted h_o rfl rfl rfl (Nat.le_of_ble_eq_true rfl) ⟨by decide, by decide⟩ ⟨Nat.le_refl _, Nat.le_refl _⟩ (fun w1 p20 => ?_)
      obtain ⟨⟨g62, h1_A⟩, ⟨g63, h1_G⟩, ⟨g64, h1_S⟩, ⟨gp, h1_P, hPa⟩, h7, ⟨mn2, pq2, cv2, sh2, be2, bg2, bc2, bp2, h1_o⟩, hfL⟩ := p20
      have h1_n := (hfL 56 (by decide) (by decide) (by decide) (by decide) (by decide)).trans h_n
      have h1_r := (hfL 57 (by decide) (by decide) (by decide) (by decide) (by decide)).trans h_r
      have h1_a := (hfL 58 (by decide) (by decide) (by decide) (by decide) (by decide)).trans h_a
      have h1_p := (hfL 59 (by decide) (by decide) (by decide) (by decide) (by decide)).trans h_p
      have h1_k := (hfL 60 (by decide) (by decide) (by decide) (by decide) (by decide)).trans h_k
      have h1_t := (hfL 61 (by decide) (by decide) (by decide) (by decide) (by decide)).trans h_t
      have h1_F := (hfL 66 (by decide) (by decide) (by decide) (by decide) (by decide)).trans h_F
      have h1_V := (hfL 67 (by decide) (by decide) (by decide) (by decide) (by decide)).trans h_V
      refine ex_iload_n (pc := 23) dX7_parted_23 rfl ?_
      refine ex_aload_n (pc := 24) dX7_parted_24 rfl ?_
      refine ex_getfield (pc := 25) dX7_parted_25 fk_X7_173 h1_o (by rfl) ?_
      refine ex_icmp_ge (pc := 28) dX7_parted_28 (tgt := 44) (by decide) (fun c28 => ?_) (fun c28 => ?_)
      · refine ex_bipush (pc := 44) dX7_parted_44 (by decide) ?_
        exact ex_iret (pc := 46) dX7_parted_46 ⟨by unfold opParted; rw [if_neg (by omega), if_pos (by omega)], RefS.qq hS0 h1_o ⟨_, h1_a⟩ ⟨_, h1_A⟩ ⟨_, h1_G⟩ ⟨_, h1_S⟩ ⟨_, h1_P⟩ ⟨_, h1_F⟩ ⟨_, h1_V⟩ (fun z hz z1 z2 => hfL z z1 (by omega) (by omega) (by omega) (by omega))⟩ rfl (Nat.le_refl _)
      · refine ex_aload_n (pc := 31) dX7_parted_31 rfl ?_
        refine ex_getfield (pc := 32) dX7_parted_32 fk_X7_37 h1_o (by rfl) ?_
        refine ex_iconst (pc := 35) dX7_parted_35 (by decide) ?_
        refine ex_iload_n (pc := 36) dX7_parted_36 rfl ?_
        refine ex_imul (pc := 37) dX7_parted_37 (by unfold inI; omega) ?_
        refine ex_iload_n (pc := 38) dX7_parted_38 rfl ?_
        refine ex_iadd (pc := 39) dX7_parted_39 (by unfold inI; omega) ?_
        refine ex_iaload (pc := 40) dX7_parted_40 h1_P (by omega) (by omega) ?_
        refine ex_goto (pc := 41) dX7_parted_41 (tgt := 46) (by decide) ?_
        obtain ⟨j, hj⟩ : ∃ j : Nat, k = j := ⟨k.toNat, by omega⟩
        subst hj
        have hkj : ((j : Int)).toNat = j := by omega
        have hq9 := hPa j (by omega)
        have hval : gp ((3 : Int) * (j : Int) + a).toNat = opParted s (j : Int) a := by
          unfold opParted
          rw [if_neg (by omega), if_neg (by omega), hkj]
          by_cases z0 : a = 0
          · rw [if_pos z0, ← hq9.1, show ((3 : Int) * (j : Int) + a).toNat = 3 * j by omega]
          · rw [if_neg z0]
            by_cases z1 : a = 1
            · rw [if_pos z1, ← hq9.2.1, show ((3 : Int) * (j : Int) + a).toNat = 3 * j + 1 by omega]
            · rw [if_neg z1, ← hq9.2.2, show ((3 : Int) * (j : Int) + a).toNat = 3 * j + 2 by omega]
        exact ex_iret (pc := 46) dX7_parted_46 ⟨hval, RefS.qq hS0 h1_o ⟨_, h1_a⟩ ⟨_, h1_A⟩ ⟨_, h1_G⟩ ⟨_, h1_S⟩ ⟨_, h1_P⟩ ⟨_, h1_F⟩ ⟨_, h1_V⟩ (fun z hz z1 z2 => hfL z z1 (by omega) (by omega) (by omega) (by omega))⟩ rfl (Nat.le_refl _)
    · refine ex_iconst (pc := 13) dX7_parted_13 (by decide) ?_
      exact ex_iret (pc := 14) dX7_parted_14 ⟨by unfold opParted; rw [if_pos (by omega)], hS0, fun _ _ => rfl⟩ rfl (Nat.le_refl _)

abbrev mX7_parting : xC := mkC yX7_parting cX7_parting 2 (some .int) 9 900 0 0
set_option maxHeartbeats 4000000 in
set_option maxRecDepth 100000 in
theorem tX7_parting {n : Nat} {w : xW} {s : St} (hS : RefS w s) {a : Int} : Ctr mX7_parting [xr 55, xi a] n w (pI (fun v w2 => v = opParting s a ∧ RefS w2 s ∧ FrR w w2)) := by
  refine Ctr.of ykX7_parting rfl (Nat.le_of_ble_eq_true rfl) okI (fun hin hW => ?_)
  have hS0 := hS
  obtain ⟨hv, hsc, ⟨pl, mn, pq, cv, sh, be, bg, bc, bp, pa, re, px, h_o⟩, ⟨f, h_n, hR⟩, ⟨g, h_p, hU⟩, hu8, ⟨kf, h_k, hK⟩, hk2, ⟨t, h_t, ht⟩, hlen⟩ := hS
  have hl : s.1.length ≤ 14 := hv.1.2.2.1
  have hl1 : 1 ≤ s.1.length := hv.1.2.1
  have hcd : Cod s.1 := hv.1.1
  have hsc0 := hsc
  obtain ⟨⟨f57, h_r⟩, ⟨f58, h_a⟩, ⟨f62, h_A⟩, ⟨f63, h_G⟩, ⟨f64, h_S⟩, ⟨f65, h_P⟩, ⟨f66, h_F⟩, ⟨f67, h_V⟩⟩ := hsc
  have hal := Al_lt s.1
  have hal2 := Al_16 hl
  have hAl : Al s.1 = 2 ^ s.1.length - 1 := rfl
  show Ex _ _ 0 0 n w 0 [some (xr 55), some (xi a)] []
  refine ex_iload_n (pc := 0) dX7_parting_0 rfl ?_
  refine ex_iconst (pc := 1) dX7_parting_1 (by decide) ?_
  refine ex_iconst (pc := 2) dX7_parting_2 (by decide) ?_
  refine ex_callSZ (as := [_, _, _]) (pc := 3) dX7_parting_3 (tX7_in) lk_X7_68 ykX7_in zkX7_in rfl rfl (Nat.le_of_ble_eq_true rfl) ⟨by decide, by decide⟩ ⟨Nat.le_refl _, Nat.le_refl _⟩ (fun i3 w1 r3 p3 => ?_)
  obtain ⟨e3, p3⟩ := p3
  rw [e3]
  refine ex_if_ne (pc := 6) dX7_parting_6 (tgt := 11) (by decide) (fun c6 => ?_) (fun c6 => ?_)
  · refine ex_aload_n (pc := 11) dX7_parting_11 rfl ?_
    refine ex_aload_n (pc := 12) dX7_parting_12 rfl ?_
    refine ex_getfield (pc := 13) dX7_parting_13 fk_X7_7 h_o (by rfl) ?_
    refine ex_callVV (as := [_]) (pc := 16) dX7_parting_16 (tX7_isParted h_o h_n hR h_A h_G h_S h_P (by decide) hl hcd rfl) lk_X7_182 ykX7_isParted vkX7_isParted h_o rfl rfl rfl (Nat.le_of_ble_eq_true rfl) ⟨by decide, by decide⟩ ⟨Nat.le_refl _, Nat.le_refl _⟩ (fun w1 p16 => ?_)
    obtain ⟨⟨g62, h1_A⟩, ⟨g63, h1_G⟩, ⟨g64, h1_S⟩, ⟨gp, h1_P, hPa⟩, h7, ⟨mn2, pq2, cv2, sh2, be2, bg2, bc2, bp2, h1_o⟩, hfL⟩ := p16
    have h1_n := (hfL 56 (by decide) (by decide) (by decide) (by decide) (by decide)).trans h_n
    have h1_r := (hfL 57 (by decide) (by decide) (by decide) (by decide) (by decide)).trans h_r
    have h1_a := (hfL 58 (by decide) (by decide) (by decide) (by decide) (by decide)).trans h_a
    have h1_p := (hfL 59 (by decide) (by decide) (by decide) (by decide) (by decide)).trans h_p
    have h1_k := (hfL 60 (by decide) (by decide) (by decide) (by decide) (by decide)).trans h_k
    have h1_t := (hfL 61 (by decide) (by decide) (by decide) (by decide) (by decide)).trans h_t
    have h1_F := (hfL 66 (by decide) (by decide) (by decide) (by decide) (by decide)).trans h_F
    have h1_V := (hfL 67 (by decide) (by decide) (by decide) (by decide) (by decide)).trans h_V
    refine ex_iload_n (pc := 19) dX7_parting_19 rfl ?_
    refine ex_if_ne (pc := 20) dX7_parting_20 (tgt := 30) (by decide) (fun c20 => ?_) (fun c20 => ?_)
    · refine ex_iload_n (pc := 30) dX7_parting_30 rfl ?_
      refine ex_iconst (pc := 31) dX7_parting_31 (by decide) ?_
      refine ex_icmp_ne (pc := 32) dX7_parting_32 (tgt := 42) (by decide) (fun c32 => ?_) (fun c32 => ?_)
      · refine ex_aload_n (pc := 42) dX7_parting_42 rfl ?_
        refine ex_getfield (pc := 43) dX7_parting_43 fk_X7_179 h1_o (by rfl) ?_
        exact ex_iret (pc := 46) dX7_parting_46 ⟨by unfold opParting; rw [if_neg (by omega), if_neg (by omega), if_neg (by omega)], RefS.qq hS0 h1_o ⟨_, h1_a⟩ ⟨_, h1_A⟩ ⟨_, h1_G⟩ ⟨_, h1_S⟩ ⟨_, h1_P⟩ ⟨_, h1_F⟩ ⟨_, h1_V⟩ (fun z hz z1 z2 => hfL z z1 (by omega) (by omega) (by omega) (by omega))⟩ rfl (Nat.le_refl _)
      · refine ex_aload_n (pc := 35) dX7_parting_35 rfl ?_
        refine ex_getfield (pc := 36) dX7_parting_36 fk_X7_176 h1_o (by rfl) ?_
        refine ex_goto (pc := 39) dX7_parting_39 (tgt := 46) (by decide) ?_
        exact ex_iret (pc := 46) dX7_parting_46 ⟨by unfold opParting; rw [if_neg (by omega), if_neg (by omega), if_pos (by omega)], RefS.qq hS0 h1_o ⟨_, h1_a⟩ ⟨_, h1_A⟩ ⟨_, h1_G⟩ ⟨_, h1_S⟩ ⟨_, h1_P⟩ ⟨_, h1_F⟩ ⟨_, h1_V⟩ (fun z hz z1 z2 => hfL z z1 (by omega) (by omega) (by omega) (by omega))⟩ rfl (Nat.le_refl _)
    · refine ex_aload_n (pc := 23) dX7_parting_23 rfl ?_
      refine ex_getfield (pc := 24) dX7_parting_24 fk_X7_173 h1_o (by rfl) ?_
      refine ex_goto (pc := 27) dX7_parting_27 (tgt := 46) (by decide) ?_
      exact ex_iret (pc := 46) dX7_parting_46 ⟨by unfold opParting; rw [if_neg (by omega), if_pos (by omega)], RefS.qq hS0 h1_o ⟨_, h1_a⟩ ⟨_, h1_A⟩ ⟨_, h1_G⟩ ⟨_, h1_S⟩ ⟨_, h1_P⟩ ⟨_, h1_F⟩ ⟨_, h1_V⟩ (fun z hz z1 z2 => hfL z z1 (by omega) (by omega) (by omega) (by omega))⟩ rfl (Nat.le_refl _)
  · refine ex_iconst (pc := 9) dX7_parting_9 (by decide) ?_
    exact ex_iret (pc := 10) dX7_parting_10 ⟨by unfold opParting; rw [if_pos (by omega)], hS0, fun _ _ => rfl⟩ rfl (Nat.le_refl _)

