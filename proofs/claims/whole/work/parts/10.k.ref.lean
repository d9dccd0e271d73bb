/-- the shapes found while the shifts below k are looked at -/
def shK (cs : List Int) (mo : Int) (pr k : Nat) : List Nat := (((List.range k).filter (fun j => decide (448 < j) && two (lgS cs mo pr j))).map (lgS cs mo pr)).foldl addS []
theorem shK_y {cs : List Int} {mo : Int} {pr k : Nat} (h : 448 < k) (h2 : two (lgS cs mo pr k) = true) : shK cs mo pr (k + 1) = addS (shK cs mo pr k) (lgS cs mo pr k) := by
  unfold shK
  rw [filt_s, if_pos (by rw [Bool.and_eq_true, decide_eq_true_eq]; exact ⟨h, h2⟩), List.map_append, List.foldl_append]; rfl
theorem shK_n {cs : List Int} {mo : Int} {pr k : Nat} (h2 : ¬ two (lgS cs mo pr k) = true) : shK cs mo pr (k + 1) = shK cs mo pr k := by
  unfold shK
  rw [filt_s, if_neg (by rw [Bool.and_eq_true]; exact fun q => h2 q.2), List.append_nil]
theorem filt449 (f : Nat → Bool) : ∀ k, k ≤ 449 → (List.range k).filter (fun j => decide (448 < j) && f j) = [] := by
  intro k
  induction k with
  | zero => intro _; rfl
  | succ k ih =>
    intro hk
    rw [filt_s, ih (by omega), if_neg (by rw [Bool.and_eq_true, decide_eq_true_eq]; intro q; omega)]; rfl
theorem shK_449 {cs : List Int} {mo : Int} {pr : Nat} : shK cs mo pr 449 = [] := by
  unfold shK
  rw [filt449 _ 449 (by omega)]; rfl
set_option maxRecDepth 100000 in
theorem shK_len {cs : List Int} {mo : Int} {pr : Nat} : ∀ k, (shK cs mo pr k).length ≤ k - 449 := by
  intro k
  have h1 := fold_addS_len (((List.range k).filter (fun j => decide (448 < j) && two (lgS cs mo pr j))).map (lgS cs mo pr)) []
  have h2 : ∀ k, ((List.range k).filter (fun j => decide (448 < j) && two (lgS cs mo pr j))).length ≤ k - 449 := by
    intro k
    induction k with
    | zero => exact Nat.le_refl _
    | succ k ih =>
      rw [filt_s, List.length_append]
      by_cases q : 448 < k
      · split
        · simp only [List.length_singleton]; omega
        · simp only [List.length_nil]; omega
      · rw [if_neg (by rw [Bool.and_eq_true, decide_eq_true_eq]; intro q2; omega)]
        simp only [List.length_nil]; omega
  have h3 := h2 k
  rw [List.length_map] at h1
  unfold shK
  simp only [List.length_nil] at h1
  omega
theorem shK_all {cs : List Int} {mo : Int} {pr : Nat} : shK cs mo pr 897 = shL cs mo pr := by
  have e : ∀ R : List Nat, (R.filter (fun k => two (lgS cs mo pr k))).filter (fun k => decide (448 < k)) = R.filter (fun j => decide (448 < j) && two (lgS cs mo pr j)) := by
    intro R
    rw [List.filter_filter]
  unfold shK shL shG wdL
  rw [e]
theorem memL {L : List Nat} {x : Nat} : x ∈ L ↔ ∃ i, i < L.length ∧ L.getD i 0 = x := by
  constructor
  · intro h
    obtain ⟨i, hi, rfl⟩ := List.getElem_of_mem h
    exact ⟨i, hi, by simp [List.getD, hi]⟩
  · rintro ⟨i, hi, rfl⟩
    have : L.getD i 0 = L[i] := by simp [List.getD, hi]
    rw [this]; exact List.getElem_mem hi
theorem sh_two {cs : List Int} {mo : Int} {pr i : Nat} (hi : i < (shL cs mo pr).length) : two ((shL cs mo pr).getD i 0) = true := by
  obtain ⟨k, h1, -, h2⟩ := shG_mem (memL.mpr ⟨i, hi, rfl⟩)
  have h2 : (shL cs mo pr).getD i 0 = lgS cs mo pr k := h2
  rw [h2]
  unfold wdL at h1
  exact (List.mem_filter.mp h1).2
def SsAt (w : xW) (cs : List Int) (mo : Int) (pr : Nat) : Prop := ∃ ss, w 64 = xA 448 ss ∧ ∀ i, i < (shL cs mo pr).length → ss i = (((shL cs mo pr).getD i 0 : Nat) : Int)
abbrev mX7_findsShapes : xC := mkC yX7_findsShapes cX7_findsShapes 4 none 6 600 0 0
set_option maxHeartbeats 4000000 in
set_option maxRecDepth 100000 in
theorem tX7_findsShapes {n : Nat} {W : xW} {a : Nat} {f g1 g2 g3 : Nat → Int} {cs : List Int} {mo : Int} {pr : Nat} {uu kk ln pl mn pq cv sh be bg bc bp pa re px : Int} (h_o : W 55 = rO uu kk ln pl mn pq cv sh be bg bc bp pa re px) (h_T : W a = xA 30 f) (hR : RowL f 0 cs mo) (h_A : W 62 = xA 240 g1) (h_G : W 63 = xA 897 g2) (h_S : W 64 = xA 448 g3) (ha : a = 56 ∨ a = 58) (hl : cs.length ≤ 14) (hcd : Cod cs) (hprl : pr < 2 ^ cs.length) : Ctr mX7_findsShapes [xr 55, xr a, xi pr] n W (pV (fun w2 => LdAt w2 cs mo pr ∧ SsAt w2 cs mo pr ∧ w2 55 = rO uu kk ln pl (mo) pq cv ((shL cs mo pr).length) be bg bc bp pa re px ∧ ∀ z, z ≠ 55 → z ≠ 62 → z ≠ 63 → z ≠ 64 → w2 z = W z)) := by
  refine Ctr.of ykX7_findsShapes rfl (Nat.le_of_ble_eq_true rfl) okV (fun hin hW => ?_)
  show Ex _ _ 0 0 n W 0 [some (xr 55), some (xr a), some (xi pr), none] []
  have loop : ∀ (w1 : xW) (nu lg : Nat → Int), w1 62 = xA 240 nu → (∀ z, z < 240 → nu z = nuS cs pr cs.length z) → (∀ k, k < 897 → lg k = (lgS cs mo pr k : Int)) → (∀ z, z ≠ 55 → z ≠ 62 → z ≠ 63 → w1 z = W z) → ∀ (d k : Nat), 449 ≤ k → k ≤ 897 → 898 ≤ k + d → ∀ (w : xW) (ss : Nat → Int), w 55 = rO uu kk ln pl (mo) pq cv ((shK cs mo pr k).length) be bg bc bp pa re px → w 63 = xA 897 lg → w 64 = xA 448 ss → (∀ i, i < (shK cs mo pr k).length → ss i = (((shK cs mo pr k).getD i 0 : Nat) : Int)) → (∀ z, z ≠ 55 → z ≠ 64 → w z = w1 z) → Ex mX7_findsShapes (pV (fun w2 => LdAt w2 cs mo pr ∧ SsAt w2 cs mo pr ∧ w2 55 = rO uu kk ln pl (mo) pq cv ((shL cs mo pr).length) be bg bc bp pa re px ∧ ∀ z, z ≠ 55 → z ≠ 62 → z ≠ 63 → z ≠ 64 → w2 z = W z)) 0 0 n w 15 [some (xr 55), some (xr a), some (xi pr), some (xi k)] [] := by
    intro w1 nu lg hA hnu hlg hfw d
    induction d with
    | zero => intro k h1 h2 h3; omega
    | succ d ih =>
      intro k h1 h2 h3 w ss h_o h_G h_S hss hfr
      refine ex_iload_n (pc := 15) dX7_findsShapes_15 rfl ?_
      refine ex_sipush (pc := 16) dX7_findsShapes_16 (by decide) ?_
      refine ex_icmp_ge (pc := 19) dX7_findsShapes_19 (tgt := 79) (by decide) (fun c19 => ?_) (fun c19 => ?_)
      · exact ex_vret (pc := 79) dX7_findsShapes_79 ⟨⟨nu, lg, (hfr 62 (by decide) (by decide)).trans hA, hnu, h_G, hlg⟩, ⟨ss, h_S, by rw [← shK_all, ← show k = 897 by omega]; exact hss⟩, by rw [← shK_all, ← show k = 897 by omega]; exact h_o, fun z z1 z2 z3 z4 => (hfr z z1 z4).trans (hfw z z1 z2 z3)⟩ rfl (Nat.le_refl _)
      · have hkk : ((k : Int)).toNat = k := by omega
        have hsl := shK_len (cs := cs) (mo := mo) (pr := pr) k
        have hpl := pc_low (lgS_lt cs mo pr k)
        refine ex_aload_n (pc := 22) dX7_findsShapes_22 rfl ?_
        refine ex_getfield (pc := 23) dX7_findsShapes_23 fk_X7_31 h_o (by rfl) ?_
        refine ex_iload_n (pc := 26) dX7_findsShapes_26 rfl ?_
        refine ex_iaload (pc := 27) dX7_findsShapes_27 h_G (by omega) (by omega) ?_
        rw [hkk, hlg k (by omega)]
        refine ex_callSI (as := [_]) (pc := 28) dX7_findsShapes_28 (tX7_bits (lgS_lt _ _ _ _)) lk_X7_132 ykX7_bits zkX7_bits rfl rfl (Nat.le_of_ble_eq_true rfl) ⟨by decide, by decide⟩ ⟨Nat.le_refl _, Nat.le_refl _⟩ (fun i28 w1 r28 p28 => ?_)
        obtain ⟨e28, p28⟩ := p28
        rw [e28]
        refine ex_iconst (pc := 31) dX7_findsShapes_31 (by decide) ?_
        refine ex_icmp_le (pc := 32) dX7_findsShapes_32 (tgt := 73) (by decide) (fun c32 => ?_) (fun c32 => ?_)
        · have hn2 : ¬ two (lgS cs mo pr k) = true := by rw [two_iff]; exact fun q => absurd (hpl.2.mpr q) (by omega)
          refine ex_iinc (L2 := [_, _, _, _]) (pc := 73) dX7_findsShapes_73 rfl rfl (Nat.le_of_ble_eq_true rfl) (by unfold inI; omega) rfl ?_
          refine ex_goto (pc := 76) dX7_findsShapes_76 (tgt := 15) (by decide) ?_
          exact ih (k + 1) (by omega) (by omega) (by omega) w ss (by rw [shK_n hn2]; exact h_o) h_G h_S (by rw [shK_n hn2]; exact hss) hfr
        · have hy2 : two (lgS cs mo pr k) = true := two_iff.mpr (hpl.2.mp (by omega))
          refine ex_aload_n (pc := 35) dX7_findsShapes_35 rfl ?_
          refine ex_aload_n (pc := 36) dX7_findsShapes_36 rfl ?_
          refine ex_getfield (pc := 37) dX7_findsShapes_37 fk_X7_31 h_o (by rfl) ?_
          refine ex_iload_n (pc := 40) dX7_findsShapes_40 rfl ?_
          refine ex_iaload (pc := 41) dX7_findsShapes_41 h_G (by omega) (by omega) ?_
          rw [hkk, hlg k (by omega)]
          refine ex_callVZ (as := [_]) (pc := 42) dX7_findsShapes_42 (tX7_isNew h_o h_S (by omega)) lk_X7_142 ykX7_isNew vkX7_isNew h_o rfl rfl rfl (Nat.le_of_ble_eq_true rfl) ⟨by decide, by decide⟩ ⟨Nat.le_refl _, Nat.le_refl _⟩ (fun i42 w1 r42 p42 => ?_)
          obtain ⟨e42, p42⟩ := p42
          rw [e42]
          refine ex_if_eq (pc := 45) dX7_findsShapes_45 (tgt := 73) (by decide) (fun c45 => ?_) (fun c45 => ?_)
          · refine ex_iinc (L2 := [_, _, _, _]) (pc := 73) dX7_findsShapes_73 rfl rfl (Nat.le_of_ble_eq_true rfl) (by unfold inI; omega) rfl ?_
            refine ex_goto (pc := 76) dX7_findsShapes_76 (tgt := 15) (by decide) ?_
            have hmem : lgS cs mo pr k ∈ shK cs mo pr k := by
              apply Classical.byContradiction
              intro hno
              have hall := p42.mpr (fun z hz => by rw [hss z hz]; intro q; exact hno (memL.mpr ⟨z, hz, by omega⟩))
              omega
            have hsame : shK cs mo pr (k + 1) = shK cs mo pr k := by rw [shK_y (by omega) hy2]; unfold addS; rw [if_pos hmem]
            exact ih (k + 1) (by omega) (by omega) (by omega) w ss (by rw [hsame]; exact h_o) h_G h_S (by rw [hsame]; exact hss) hfr
          · refine ex_aload_n (pc := 48) dX7_findsShapes_48 rfl ?_
            refine ex_getfield (pc := 49) dX7_findsShapes_49 fk_X7_34 h_o (by rfl) ?_
            refine ex_aload_n (pc := 52) dX7_findsShapes_52 rfl ?_
            refine ex_getfield (pc := 53) dX7_findsShapes_53 fk_X7_136 h_o (by rfl) ?_
            refine ex_aload_n (pc := 56) dX7_findsShapes_56 rfl ?_
            refine ex_getfield (pc := 57) dX7_findsShapes_57 fk_X7_31 h_o (by rfl) ?_
            refine ex_iload_n (pc := 60) dX7_findsShapes_60 rfl ?_
            refine ex_iaload (pc := 61) dX7_findsShapes_61 h_G (by omega) (by omega) ?_
            rw [hkk, hlg k (by omega)]
            refine ex_iastore (pc := 62) dX7_findsShapes_62 h_S (by omega) (by omega) ?_
            refine ex_up (fun w1 e_w1 => ?_)
            have h1_o := ((congrFun e_w1 55).trans (up_n (by first | assumption | decide | omega))).trans h_o
            have h1_G := ((congrFun e_w1 63).trans (up_n (by first | assumption | decide | omega))).trans h_G
            have h1_S := (congrFun e_w1 64).trans up_s
            refine ex_aload_n (pc := 63) dX7_findsShapes_63 rfl ?_
            refine ex_dup (pc := 64) dX7_findsShapes_64 rfl ?_
            refine ex_getfield (pc := 65) dX7_findsShapes_65 fk_X7_136 h1_o (by rfl) ?_
            refine ex_iconst (pc := 68) dX7_findsShapes_68 (by decide) ?_
            refine ex_iadd (pc := 69) dX7_findsShapes_69 (by unfold inI; omega) ?_
            refine ex_putA (pc := 70) dX7_findsShapes_70 fk_X7_136 (ty := tyX7 15) (fun _ _ _ h9 => by cases h9; exact ⟨tyX7_ok 15 (by decide), rfl⟩) h1_o (Nat.le_of_ble_eq_true rfl) (fun _ => rfl) (fun _ => rfl) ?_
            refine ex_up (fun w2 e_w2 => ?_)
            have h2_o := (congrFun e_w2 55).trans up_s
            have h2_G := ((congrFun e_w2 63).trans (up_n (by first | assumption | decide | omega))).trans h1_G
            have h2_S := ((congrFun e_w2 64).trans (up_n (by first | assumption | decide | omega))).trans h1_S
            refine ex_iinc (L2 := [_, _, _, _]) (pc := 73) dX7_findsShapes_73 rfl rfl (Nat.le_of_ble_eq_true rfl) (by unfold inI; omega) rfl ?_
            refine ex_goto (pc := 76) dX7_findsShapes_76 (tgt := 15) (by decide) ?_
            have hnm : ¬ lgS cs mo pr k ∈ shK cs mo pr k := by
              intro hmem
              obtain ⟨z, hz, hz2⟩ := memL.mp hmem
              exact p42.mp (by omega) z hz (by rw [hss z hz]; omega)
            have hnew : shK cs mo pr (k + 1) = shK cs mo pr k ++ [lgS cs mo pr k] := by rw [shK_y (by omega) hy2]; unfold addS; rw [if_neg hnm]
            have hll : (((shK cs mo pr k).length : Int)).toNat = (shK cs mo pr k).length := by omega
            refine ih (k + 1) (by omega) (by omega) (by omega) w2 _ (by rw [hnew, List.length_append]; exact h2_o) h2_G h2_S (fun i hi => ?_) (fun z z1 z4 => by rw [e_w2, up_n z1, e_w1, up_n z4]; exact hfr z z1 z4)
            rw [hnew, List.length_append] at hi
            simp only [List.length_singleton] at hi
            rw [hnew, hll]
            by_cases q : i = (shK cs mo pr k).length
            · rw [q, up_s, getD_app2]
            · rw [up_n q, getD_app1 (by omega)]; exact hss i (by omega)
  refine ex_aload_n (pc := 0) dX7_findsShapes_0 rfl ?_
  refine ex_aload_n (pc := 1) dX7_findsShapes_1 rfl ?_
  refine ex_iload_n (pc := 2) dX7_findsShapes_2 rfl ?_
  refine ex_callVV (as := [_, _]) (pc := 3) dX7_findsShapes_3 (tX7_lays h_o h_T hR h_A h_G ha hl hcd hprl) lk_X7_139 ykX7_lays vkX7_lays h_o rfl rfl rfl (Nat.le_of_ble_eq_true rfl) ⟨by decide, by decide⟩ ⟨Nat.le_refl _, Nat.le_refl _⟩ (fun w1 p3 => ?_)
  obtain ⟨⟨nu, lg, hA1, hnu, h1_G, hlg⟩, h1_o, hfw⟩ := p3
  have h1_S := (hfw 64 (by decide) (by decide) (by decide)).trans h_S
  have h1_T := (hfw a (by omega) (by omega) (by omega)).trans h_T
  refine ex_aload_n (pc := 6) dX7_findsShapes_6 rfl ?_
  refine ex_iconst (pc := 7) dX7_findsShapes_7 (by decide) ?_
  refine ex_putA (pc := 8) dX7_findsShapes_8 fk_X7_136 (ty := tyX7 15) (fun _ _ _ h9 => by cases h9; exact ⟨tyX7_ok 15 (by decide), rfl⟩) h1_o (Nat.le_of_ble_eq_true rfl) (fun _ => rfl) (fun _ => rfl) ?_
  refine ex_up (fun w2 e_w2 => ?_)
  have h2_o := (congrFun e_w2 55).trans up_s
  have h2_G := ((congrFun e_w2 63).trans (up_n (by first | assumption | decide | omega))).trans h1_G
  have h2_S := ((congrFun e_w2 64).trans (up_n (by first | assumption | decide | omega))).trans h1_S
  have h2_T := ((congrFun e_w2 a).trans (up_n (by first | assumption | decide | omega))).trans h1_T
  refine ex_sipush (pc := 11) dX7_findsShapes_11 (by decide) ?_
  refine ex_istore_n (L2 := [_, _, _, _]) (pc := 14) dX7_findsShapes_14 rfl (Nat.le_of_ble_eq_true rfl) rfl ?_
  exact loop w1 nu lg hA1 hnu hlg hfw 449 449 (by omega) (by omega) (by omega) w2 g3 (by rw [shK_449]; exact h2_o) h2_G h2_S (by rw [shK_449]; intro i hi; exact absurd hi (Nat.not_lt_zero _)) (fun z z1 _ => by rw [e_w2, up_n z1])

theorem bst_y {cs : List Int} {mo : Int} {pr i : Nat} (h : i ≠ 0 ∧ (gI cs mo pr (bst cs mo pr i) < gI cs mo pr i ∨ (gI cs mo pr i = gI cs mo pr (bst cs mo pr i) ∧ cI cs mo pr (bst cs mo pr i) < cI cs mo pr i))) : bst cs mo pr (i + 1) = i := by
  rw [bst, if_pos h]
theorem bst_n {cs : List Int} {mo : Int} {pr i : Nat} (h : ¬ (i ≠ 0 ∧ (gI cs mo pr (bst cs mo pr i) < gI cs mo pr i ∨ (gI cs mo pr i = gI cs mo pr (bst cs mo pr i) ∧ cI cs mo pr (bst cs mo pr i) < cI cs mo pr i)))) : bst cs mo pr (i + 1) = bst cs mo pr i := by
  rw [bst, if_neg h]
def BsI (cs : List Int) (mo : Int) (pr k : Nat) (be bg bc bp : Int) : Prop := (k = 0 ∧ be = -4 ∧ bg = 0 ∧ bc = 0) ∨ (0 < k ∧ be = (bst cs mo pr k : Int) ∧ bg = gI cs mo pr (bst cs mo pr k) ∧ bc = ((pcS cs mo pr ((shL cs mo pr).getD (bst cs mo pr k) 0)).2 : Int) ∧ bp = ((pcS cs mo pr ((shL cs mo pr).getD (bst cs mo pr k) 0)).1 : Int))
def BsE (cs : List Int) (mo : Int) (pr : Nat) (be bg bc bp : Int) : Prop := be = bestS cs mo pr ∧ (0 ≤ bestS cs mo pr → bg = gI cs mo pr (bestS cs mo pr).toNat ∧ bc = ((pcS cs mo pr (ptN cs mo pr)).2 : Int) ∧ bp = ((pcS cs mo pr (ptN cs mo pr)).1 : Int))
theorem BsI.E {cs : List Int} {mo : Int} {pr : Nat} {be bg bc bp : Int} (h : BsI cs mo pr (shL cs mo pr).length be bg bc bp) : BsE cs mo pr be bg bc bp := by
  unfold BsE ptN bestS
  rcases h with ⟨h1, h2, h3, h4⟩ | ⟨h1, h2, h3, h4, h5⟩
  · rw [if_pos h1]
    exact ⟨h2, fun q => by omega⟩
  · rw [if_neg (by omega)]
    refine ⟨h2, fun _ => ?_⟩
    rw [show ((bst cs mo pr (shL cs mo pr).length : Int)).toNat = bst cs mo pr (shL cs mo pr).length by omega]
    exact ⟨h3, h4, h5⟩
abbrev mX7_findsBest : xC := mkC yX7_findsBest cX7_findsBest 5 none 7 700 0 0
set_option maxHeartbeats 4000000 in
set_option maxRecDepth 100000 in
theorem tX7_findsBest {n : Nat} {W : xW} {a : Nat} {f g1 g2 g3 : Nat → Int} {cs : List Int} {mo : Int} {pr : Nat} {uu kk ln pl mn pq cv sh be bg bc bp pa re px : Int} (h_o : W 55 = rO uu kk ln pl mn pq cv sh be bg bc bp pa re px) (h_T : W a = xA 30 f) (hR : RowL f 0 cs mo) (h_A : W 62 = xA 240 g1) (h_G : W 63 = xA 897 g2) (h_S : W 64 = xA 448 g3) (ha : a = 56 ∨ a = 58) (hl : cs.length ≤ 14) (hcd : Cod cs) (hprl : pr < 2 ^ cs.length) : Ctr mX7_findsBest [xr 55, xr a, xi pr] n W (pV (fun w2 => LdAt w2 cs mo pr ∧ SsAt w2 cs mo pr ∧ (∃ pq cv be bg bc bp : Int, BsE cs mo pr be bg bc bp ∧ w2 55 = rO uu kk ln pl (mo) pq cv ((shL cs mo pr).length) be bg bc bp pa re px) ∧ ∀ z, z ≠ 55 → z ≠ 62 → z ≠ 63 → z ≠ 64 → w2 z = W z)) := by
  refine Ctr.of ykX7_findsBest rfl (Nat.le_of_ble_eq_true rfl) okV (fun hin hW => ?_)
  show Ex _ _ 0 0 n W 0 [some (xr 55), some (xr a), some (xi pr), none, none] []
  have loop : ∀ (w1 : xW) (nu lg ss : Nat → Int), (∀ z, z < 240 → nu z = nuS cs pr cs.length z) → (∀ k, k < 897 → lg k = (lgS cs mo pr k : Int)) → (∀ i, i < (shL cs mo pr).length → ss i = (((shL cs mo pr).getD i 0 : Nat) : Int)) → (∀ z, z ≠ 55 → z ≠ 62 → z ≠ 63 → z ≠ 64 → w1 z = W z) → ∀ (d k : Nat), k ≤ (shL cs mo pr).length → (shL cs mo pr).length + 1 ≤ k + d → ∀ (w : xW) (pI cI9 be bg bc bp : Int) (x4 : Option xV), w 55 = rO uu kk ln pl (mo) (pI) (cI9) ((shL cs mo pr).length) be bg bc bp pa re px → w a = xA 30 f → w 62 = xA 240 nu → w 63 = xA 897 lg → w 64 = xA 448 ss → BsI cs mo pr k be bg bc bp → (∀ z, z ≠ 55 → w z = w1 z) → Ex mX7_findsBest (pV (fun w2 => LdAt w2 cs mo pr ∧ SsAt w2 cs mo pr ∧ (∃ pq cv be bg bc bp : Int, BsE cs mo pr be bg bc bp ∧ w2 55 = rO uu kk ln pl (mo) pq cv ((shL cs mo pr).length) be bg bc bp pa re px) ∧ ∀ z, z ≠ 55 → z ≠ 62 → z ≠ 63 → z ≠ 64 → w2 z = W z)) 0 0 n w 24 [some (xr 55), some (xr a), some (xi pr), some (xi k), x4] [] := by
    intro w1 nu lg ss hnu hlg hss hfw d
    have h448 := sh448 cs mo pr
    induction d with
    | zero => intro k h1 h2; omega
    | succ d ih =>
      intro k h1 h2 w pI cI9 be bg bc bp x4 h_o h_T h_A h_G h_S hBI hfr
      refine ex_iload_n (pc := 24) dX7_findsBest_24 rfl ?_
      refine ex_aload_n (pc := 25) dX7_findsBest_25 rfl ?_
      refine ex_getfield (pc := 26) dX7_findsBest_26 fk_X7_136 h_o (by rfl) ?_
      refine ex_icmp_ge (pc := 29) dX7_findsBest_29 (tgt := 132) (by decide) (fun c29 => ?_) (fun c29 => ?_)
      · exact ex_vret (pc := 132) dX7_findsBest_132 ⟨⟨nu, lg, h_A, hnu, h_G, hlg⟩, ⟨ss, h_S, hss⟩, ⟨pI, cI9, be, bg, bc, bp, BsI.E (by rw [← show k = (shL cs mo pr).length by omega]; exact hBI), h_o⟩, fun z z1 z2 z3 z4 => (hfr z z1).trans (hfw z z1 z2 z3 z4)⟩ rfl (Nat.le_refl _)
      · have hkk : ((k : Int)).toNat = k := by omega
        have hk : k < (shL cs mo pr).length := by omega
        have hpl := pcS_lt (mo := mo) (pr := pr) hl ((shL cs mo pr).getD k 0)
        refine ex_aload_n (pc := 32) dX7_findsBest_32 rfl ?_
        refine ex_aload_n (pc := 33) dX7_findsBest_33 rfl ?_
        refine ex_aload_n (pc := 34) dX7_findsBest_34 rfl ?_
        refine ex_getfield (pc := 35) dX7_findsBest_35 fk_X7_34 h_o (by rfl) ?_
        refine ex_iload_n (pc := 38) dX7_findsBest_38 rfl ?_
        refine ex_iaload (pc := 39) dX7_findsBest_39 h_S (by omega) (by omega) ?_
        rw [hkk, hss k hk]
        refine ex_callVV (as := [_, _]) (pc := 40) dX7_findsBest_40 (tX7_looksAt h_o h_T hR h_A hnu h_G hlg ha hl hcd hprl (sh_lt hk) (sh_two hk)) lk_X7_157 ykX7_looksAt vkX7_looksAt h_o rfl rfl rfl (Nat.le_of_ble_eq_true rfl) ⟨by decide, by decide⟩ ⟨Nat.le_refl _, Nat.le_refl _⟩ (fun w1 p40 => ?_)
        obtain ⟨h1_o, hf1⟩ := p40
        have h1_T := (hf1 a (by omega)).trans h_T
        have h1_A := (hf1 62 (by decide)).trans h_A
        have h1_G := (hf1 63 (by decide)).trans h_G
        have h1_S := (hf1 64 (by decide)).trans h_S
        refine ex_aload_n (pc := 43) dX7_findsBest_43 rfl ?_
        refine ex_aload_n (pc := 44) dX7_findsBest_44 rfl ?_
        refine ex_getfield (pc := 45) dX7_findsBest_45 fk_X7_34 h1_o (by rfl) ?_
        refine ex_iload_n (pc := 48) dX7_findsBest_48 rfl ?_
        refine ex_iaload (pc := 49) dX7_findsBest_49 h1_S (by omega) (by omega) ?_
        rw [hkk, hss k hk]
        refine ex_callVI (as := [_]) (pc := 50) dX7_findsBest_50 (tX7_gainOf h1_o hpl.1 (by omega) (sh_lt hk)) lk_X7_160 ykX7_gainOf vkX7_gainOf h1_o rfl rfl rfl (Nat.le_of_ble_eq_true rfl) ⟨by decide, by decide⟩ ⟨Nat.le_refl _, Nat.le_refl _⟩ (fun i50 w2 r50 p50 => ?_)
        obtain ⟨e50, p50⟩ := p50
        rw [e50]
        have hgv : i50 = gI cs mo pr k := p50
        refine ex_istore (L2 := [_, _, _, _, _]) (pc := 53) dX7_findsBest_53 rfl (Nat.le_of_ble_eq_true rfl) rfl ?_
        refine ex_aload_n (pc := 55) dX7_findsBest_55 rfl ?_
        refine ex_getfield (pc := 56) dX7_findsBest_56 fk_X7_148 h1_o (by rfl) ?_
        refine ex_bipush (pc := 59) dX7_findsBest_59 (by decide) ?_
        refine ex_icmp_eq (pc := 61) dX7_findsBest_61 (tgt := 99) (by decide) (fun c61 => ?_) (fun c61 => ?_)
        · refine ex_aload_n (pc := 99) dX7_findsBest_99 rfl ?_
          refine ex_iload_n (pc := 100) dX7_findsBest_100 rfl ?_
          refine ex_putA (pc := 101) dX7_findsBest_101 fk_X7_148 (ty := tyX7 17) (fun _ _ _ h9 => by cases h9; exact ⟨tyX7_ok 17 (by decide), rfl⟩) h1_o (Nat.le_of_ble_eq_true rfl) (fun _ => rfl) (fun _ => rfl) ?_
          refine ex_up (fun w2 e_w2 => ?_)
          have h2_o := (congrFun e_w2 55).trans up_s
          have h2_A := ((congrFun e_w2 62).trans (up_n (by first | assumption | decide | omega))).trans h1_A
          have h2_G := ((congrFun e_w2 63).trans (up_n (by first | assumption | decide | omega))).trans h1_G
          have h2_S := ((congrFun e_w2 64).trans (up_n (by first | assumption | decide | omega))).trans h1_S
          have h2_T := ((congrFun e_w2 a).trans (up_n (by first | assumption | decide | omega))).trans h1_T
          refine ex_aload_n (pc := 104) dX7_findsBest_104 rfl ?_
          refine ex_iload (pc := 105) dX7_findsBest_105 rfl ?_
          refine ex_putA (pc := 107) dX7_findsBest_107 fk_X7_151 (ty := tyX7 18) (fun _ _ _ h9 => by cases h9; exact ⟨tyX7_ok 18 (by decide), rfl⟩) h2_o (Nat.le_of_ble_eq_true rfl) (fun _ => rfl) (fun _ => rfl) ?_
          refine ex_up (fun w3 e_w3 => ?_)
          have h3_o := (congrFun e_w3 55).trans up_s
          have h3_A := ((congrFun e_w3 62).trans (up_n (by first | assumption | decide | omega))).trans h2_A
          have h3_G := ((congrFun e_w3 63).trans (up_n (by first | assumption | decide | omega))).trans h2_G
          have h3_S := ((congrFun e_w3 64).trans (up_n (by first | assumption | decide | omega))).trans h2_S
          have h3_T := ((congrFun e_w3 a).trans (up_n (by first | assumption | decide | omega))).trans h2_T
          refine ex_aload_n (pc := 110) dX7_findsBest_110 rfl ?_
          refine ex_aload_n (pc := 111) dX7_findsBest_111 rfl ?_
          refine ex_getfield (pc := 112) dX7_findsBest_112 fk_X7_129 h3_o (by rfl) ?_
          refine ex_putA (pc := 115) dX7_findsBest_115 fk_X7_154 (ty := tyX7 19) (fun _ _ _ h9 => by cases h9; exact ⟨tyX7_ok 19 (by decide), rfl⟩) h3_o (Nat.le_of_ble_eq_true rfl) (fun _ => rfl) (fun _ => rfl) ?_
          refine ex_up (fun w4 e_w4 => ?_)
          have h4_o := (congrFun e_w4 55).trans up_s
          have h4_A := ((congrFun e_w4 62).trans (up_n (by first | assumption | decide | omega))).trans h3_A
          have h4_G := ((congrFun e_w4 63).trans (up_n (by first | assumption | decide | omega))).trans h3_G
          have h4_S := ((congrFun e_w4 64).trans (up_n (by first | assumption | decide | omega))).trans h3_S
          have h4_T := ((congrFun e_w4 a).trans (up_n (by first | assumption | decide | omega))).trans h3_T
          refine ex_aload_n (pc := 118) dX7_findsBest_118 rfl ?_
          refine ex_aload_n (pc := 119) dX7_findsBest_119 rfl ?_
          refine ex_getfield (pc := 120) dX7_findsBest_120 fk_X7_126 h4_o (by rfl) ?_
          refine ex_putA (pc := 123) dX7_findsBest_123 fk_X7_163 (ty := tyX7 20) (fun _ _ _ h9 => by cases h9; exact ⟨tyX7_ok 20 (by decide), rfl⟩) h4_o (Nat.le_of_ble_eq_true rfl) (fun _ => rfl) (fun _ => rfl) ?_
          refine ex_up (fun w5 e_w5 => ?_)
          have h5_o := (congrFun e_w5 55).trans up_s
          have h5_A := ((congrFun e_w5 62).trans (up_n (by first | assumption | decide | omega))).trans h4_A
          have h5_G := ((congrFun e_w5 63).trans (up_n (by first | assumption | decide | omega))).trans h4_G
          have h5_S := ((congrFun e_w5 64).trans (up_n (by first | assumption | decide | omega))).trans h4_S
          have h5_T := ((congrFun e_w5 a).trans (up_n (by first | assumption | decide | omega))).trans h4_T
          refine ex_iinc (L2 := [_, _, _, _, _]) (pc := 126) dX7_findsBest_126 rfl rfl (Nat.le_of_ble_eq_true rfl) (by unfold inI; omega) rfl ?_
          refine ex_goto (pc := 129) dX7_findsBest_129 (tgt := 24) (by decide) ?_
          have hk0 : k = 0 := by
            rcases hBI with q | q
            · exact q.1
            · omega
          have hb : bst cs mo pr (k + 1) = k := by rw [hk0]; rfl
          exact ih (k + 1) (by omega) (by omega) w5 _ _ _ _ _ _ _ h5_o h5_T h5_A h5_G h5_S (Or.inr (by rw [hb]; exact ⟨by omega, rfl, hgv, rfl, rfl⟩)) (fun z z1 => by rw [e_w5, up_n z1, e_w4, up_n z1, e_w3, up_n z1, e_w2, up_n z1]; exact (hf1 z z1).trans (hfr z z1))
        · have hB := (hBI.resolve_left (by intro q; omega)).2
          have hk1 : 0 < k := (hBI.resolve_left (by intro q; omega)).1
          have hpl2 := pcS_lt (mo := mo) (pr := pr) hl ((shL cs mo pr).getD (bst cs mo pr k) 0)
          refine ex_iload (pc := 64) dX7_findsBest_64 rfl ?_
          refine ex_aload_n (pc := 66) dX7_findsBest_66 rfl ?_
          refine ex_getfield (pc := 67) dX7_findsBest_67 fk_X7_151 h1_o (by rfl) ?_
          refine ex_icmp_gt (pc := 70) dX7_findsBest_70 (tgt := 99) (by decide) (fun c70 => ?_) (fun c70 => ?_)
          · refine ex_aload_n (pc := 99) dX7_findsBest_99 rfl ?_
            refine ex_iload_n (pc := 100) dX7_findsBest_100 rfl ?_
            refine ex_putA (pc := 101) dX7_findsBest_101 fk_X7_148 (ty := tyX7 17) (fun _ _ _ h9 => by cases h9; exact ⟨tyX7_ok 17 (by decide), rfl⟩) h1_o (Nat.le_of_ble_eq_true rfl) (fun _ => rfl) (fun _ => rfl) ?_
            refine ex_up (fun w2 e_w2 => ?_)
            have h2_o := (congrFun e_w2 55).trans up_s
            have h2_A := ((congrFun e_w2 62).trans (up_n (by first | assumption | decide | omega))).trans h1_A
            have h2_G := ((congrFun e_w2 63).trans (up_n (by first | assumption | decide | omega))).trans h1_G
            have h2_S := ((congrFun e_w2 64).trans (up_n (by first | assumption | decide | omega))).trans h1_S
            have h2_T := ((congrFun e_w2 a).trans (up_n (by first | assumption | decide | omega))).trans h1_T
            refine ex_aload_n (pc := 104) dX7_findsBest_104 rfl ?_
            refine ex_iload (pc := 105) dX7_findsBest_105 rfl ?_
            refine ex_putA (pc := 107) dX7_findsBest_107 fk_X7_151 (ty := tyX7 18) (fun _ _ _ h9 => by cases h9; exact ⟨tyX7_ok 18 (by decide), rfl⟩) h2_o (Nat.le_of_ble_eq_true rfl) (fun _ => rfl) (fun _ => rfl) ?_
            refine ex_up (fun w3 e_w3 => ?_)
            have h3_o := (congrFun e_w3 55).trans up_s
            have h3_A := ((congrFun e_w3 62).trans (up_n (by first | assumption | decide | omega))).trans h2_A
            have h3_G := ((congrFun e_w3 63).trans (up_n (by first | assumption | decide | omega))).trans h2_G
            have h3_S := ((congrFun e_w3 64).trans (up_n (by first | assumption | decide | omega))).trans h2_S
            have h3_T := ((congrFun e_w3 a).trans (up_n (by first | assumption | decide | omega))).trans h2_T
            refine ex_aload_n (pc := 110) dX7_findsBest_110 rfl ?_
            refine ex_aload_n (pc := 111) dX7_findsBest_111 rfl ?_
            refine ex_getfield (pc := 112) dX7_findsBest_112 fk_X7_129 h3_o (by rfl) ?_
            refine ex_putA (pc := 115) dX7_findsBest_115 fk_X7_154 (ty := tyX7 19) (fun _ _ _ h9 => by cases h9; exact ⟨tyX7_ok 19 (by decide), rfl⟩) h3_o (Nat.le_of_ble_eq_true rfl) (fun _ => rfl) (fun _ => rfl) ?_
            refine ex_up (fun w4 e_w4 => ?_)
            have h4_o := (congrFun e_w4 55).trans up_s
            have h4_A := ((congrFun e_w4 62).trans (up_n (by first | assumption | decide | omega))).trans h3_A
            have h4_G := ((congrFun e_w4 63).trans (up_n (by first | assumption | decide | omega))).trans h3_G
            have h4_S := ((congrFun e_w4 64).trans (up_n (by first | assumption | decide | omega))).trans h3_S
            have h4_T := ((congrFun e_w4 a).trans (up_n (by first | assumption | decide | omega))).trans h3_T
            refine ex_aload_n (pc := 118) dX7_findsBest_118 rfl ?_
            refine ex_aload_n (pc := 119) dX7_findsBest_119 rfl ?_
            refine ex_getfield (pc := 120) dX7_findsBest_120 fk_X7_126 h4_o (by rfl) ?_
            refine ex_putA (pc := 123) dX7_findsBest_123 fk_X7_163 (ty := tyX7 20) (fun _ _ _ h9 => by cases h9; exact ⟨tyX7_ok 20 (by decide), rfl⟩) h4_o (Nat.le_of_ble_eq_true rfl) (fun _ => rfl) (fun _ => rfl) ?_
            refine ex_up (fun w5 e_w5 => ?_)
            have h5_o := (congrFun e_w5 55).trans up_s
            have h5_A := ((congrFun e_w5 62).trans (up_n (by first | assumption | decide | omega))).trans h4_A
            have h5_G := ((congrFun e_w5 63).trans (up_n (by first | assumption | decide | omega))).trans h4_G
            have h5_S := ((congrFun e_w5 64).trans (up_n (by first | assumption | decide | omega))).trans h4_S
            have h5_T := ((congrFun e_w5 a).trans (up_n (by first | assumption | decide | omega))).trans h4_T
            refine ex_iinc (L2 := [_, _, _, _, _]) (pc := 126) dX7_findsBest_126 rfl rfl (Nat.le_of_ble_eq_true rfl) (by unfold inI; omega) rfl ?_
            refine ex_goto (pc := 129) dX7_findsBest_129 (tgt := 24) (by decide) ?_
            have hb : bst cs mo pr (k + 1) = k := bst_y ⟨by omega, Or.inl (by omega)⟩
            exact ih (k + 1) (by omega) (by omega) w5 _ _ _ _ _ _ _ h5_o h5_T h5_A h5_G h5_S (Or.inr (by rw [hb]; exact ⟨by omega, rfl, hgv, rfl, rfl⟩)) (fun z z1 => by rw [e_w5, up_n z1, e_w4, up_n z1, e_w3, up_n z1, e_w2, up_n z1]; exact (hf1 z z1).trans (hfr z z1))
          · refine ex_iload (pc := 73) dX7_findsBest_73 rfl ?_
            refine ex_aload_n (pc := 75) dX7_findsBest_75 rfl ?_
            refine ex_getfield (pc := 76) dX7_findsBest_76 fk_X7_151 h1_o (by rfl) ?_
            refine ex_icmp_ne (pc := 79) dX7_findsBest_79 (tgt := 126) (by decide) (fun c79 => ?_) (fun c79 => ?_)
            · refine ex_iinc (L2 := [_, _, _, _, _]) (pc := 126) dX7_findsBest_126 rfl rfl (Nat.le_of_ble_eq_true rfl) (by unfold inI; omega) rfl ?_
              refine ex_goto (pc := 129) dX7_findsBest_129 (tgt := 24) (by decide) ?_
              have hb : bst cs mo pr (k + 1) = bst cs mo pr k := bst_n (by intro q; omega)
              exact ih (k + 1) (by omega) (by omega) w1 _ _ _ _ _ _ _ h1_o h1_T h1_A h1_G h1_S (Or.inr (by rw [hb]; exact ⟨by omega, hB⟩)) (fun z z1 => (hf1 z z1).trans (hfr z z1))
            · refine ex_aload_n (pc := 82) dX7_findsBest_82 rfl ?_
              refine ex_getfield (pc := 83) dX7_findsBest_83 fk_X7_129 h1_o (by rfl) ?_
              refine ex_callSI (as := [_]) (pc := 86) dX7_findsBest_86 (tX7_bits hpl.1) lk_X7_132 ykX7_bits zkX7_bits rfl rfl (Nat.le_of_ble_eq_true rfl) ⟨by decide, by decide⟩ ⟨Nat.le_refl _, Nat.le_refl _⟩ (fun i86 w2 r86 p86 => ?_)
              obtain ⟨e86, p86⟩ := p86
              rw [e86]
              refine ex_aload_n (pc := 89) dX7_findsBest_89 rfl ?_
              refine ex_getfield (pc := 90) dX7_findsBest_90 fk_X7_154 h1_o (by rfl) ?_
              rw [hB.2.2.1]
              refine ex_callSI (as := [_]) (pc := 93) dX7_findsBest_93 (tX7_bits hpl2.1) lk_X7_132 ykX7_bits zkX7_bits rfl rfl (Nat.le_of_ble_eq_true rfl) ⟨by decide, by decide⟩ ⟨Nat.le_refl _, Nat.le_refl _⟩ (fun i93 w2 r93 p93 => ?_)
              obtain ⟨e93, p93⟩ := p93
              rw [e93]
              refine ex_icmp_le (pc := 96) dX7_findsBest_96 (tgt := 126) (by decide) (fun c96 => ?_) (fun c96 => ?_)
              · refine ex_iinc (L2 := [_, _, _, _, _]) (pc := 126) dX7_findsBest_126 rfl rfl (Nat.le_of_ble_eq_true rfl) (by unfold inI; omega) rfl ?_
                refine ex_goto (pc := 129) dX7_findsBest_129 (tgt := 24) (by decide) ?_
                have hb : bst cs mo pr (k + 1) = bst cs mo pr k := bst_n (by intro q; unfold cI at q; omega)
                exact ih (k + 1) (by omega) (by omega) w1 _ _ _ _ _ _ _ h1_o h1_T h1_A h1_G h1_S (Or.inr (by rw [hb]; exact ⟨by omega, hB⟩)) (fun z z1 => (hf1 z z1).trans (hfr z z1))
              · refine ex_aload_n (pc := 99) dX7_findsBest_99 rfl ?_
                refine ex_iload_n (pc := 100) dX7_findsBest_100 rfl ?_
                refine ex_putA (pc := 101) dX7_findsBest_101 fk_X7_148 (ty := tyX7 17) (fun _ _ _ h9 => by cases h9; exact ⟨tyX7_ok 17 (by decide), rfl⟩) h1_o (Nat.le_of_ble_eq_true rfl) (fun _ => rfl) (fun _ => rfl) ?_
                refine ex_up (fun w2 e_w2 => ?_)
                have h2_o := (congrFun e_w2 55).trans up_s
                have h2_A := ((congrFun e_w2 62).trans (up_n (by first | assumption | decide | omega))).trans h1_A
                have h2_G := ((congrFun e_w2 63).trans (up_n (by first | assumption | decide | omega))).trans h1_G
                have h2_S := ((congrFun e_w2 64).trans (up_n (by first | assumption | decide | omega))).trans h1_S
                have h2_T := ((congrFun e_w2 a).trans (up_n (by first | assumption | decide | omega))).trans h1_T
                refine ex_aload_n (pc := 104) dX7_findsBest_104 rfl ?_
                refine ex_iload (pc := 105) dX7_findsBest_105 rfl ?_
                refine ex_putA (pc := 107) dX7_findsBest_107 fk_X7_151 (ty := tyX7 18) (fun _ _ _ h9 => by cases h9; exact ⟨tyX7_ok 18 (by decide), rfl⟩) h2_o (Nat.le_of_ble_eq_true rfl) (fun _ => rfl) (fun _ => rfl) ?_
                refine ex_up (fun w3 e_w3 => ?_)
                have h3_o := (congrFun e_w3 55).trans up_s
                have h3_A := ((congrFun e_w3 62).trans (up_n (by first | assumption | decide | omega))).trans h2_A
                have h3_G := ((congrFun e_w3 63).trans (up_n (by first | assumption | decide | omega))).trans h2_G
                have h3_S := ((congrFun e_w3 64).trans (up_n (by first | assumption | decide | omega))).trans h2_S
                have h3_T := ((congrFun e_w3 a).trans (up_n (by first | assumption | decide | omega))).trans h2_T
                refine ex_aload_n (pc := 110) dX7_findsBest_110 rfl ?_
                refine ex_aload_n (pc := 111) dX7_findsBest_111 rfl ?_
                refine ex_getfield (pc := 112) dX7_findsBest_112 fk_X7_129 h3_o (by rfl) ?_
                refine ex_putA (pc := 115) dX7_findsBest_115 fk_X7_154 (ty := tyX7 19) (fun _ _ _ h9 => by cases h9; exact ⟨tyX7_ok 19 (by decide), rfl⟩) h3_o (Nat.le_of_ble_eq_true rfl) (fun _ => rfl) (fun _ => rfl) ?_
                refine ex_up (fun w4 e_w4 => ?_)
                have h4_o := (congrFun e_w4 55).trans up_s
                have h4_A := ((congrFun e_w4 62).trans (up_n (by first | assumption | decide | omega))).trans h3_A
                have h4_G := ((congrFun e_w4 63).trans (up_n (by first | assumption | decide | omega))).trans h3_G
                have h4_S := ((congrFun e_w4 64).trans (up_n (by first | assumption | decide | omega))).trans h3_S
                have h4_T := ((congrFun e_w4 a).trans (up_n (by first | assumption | decide | omega))).trans h3_T
                refine ex_aload_n (pc := 118) dX7_findsBest_118 rfl ?_
                refine ex_aload_n (pc := 119) dX7_findsBest_119 rfl ?_
                refine ex_getfield (pc := 120) dX7_findsBest_120 fk_X7_126 h4_o (by rfl) ?_
                refine ex_putA (pc := 123) dX7_findsBest_123 fk_X7_163 (ty := tyX7 20) (fun _ _ _ h9 => by cases h9; exact ⟨tyX7_ok 20 (by decide), rfl⟩) h4_o (Nat.le_of_ble_eq_true rfl) (fun _ => rfl) (fun _ => rfl) ?_
                refine ex_up (fun w5 e_w5 => ?_)
                have h5_o := (congrFun e_w5 55).trans up_s
                have h5_A := ((congrFun e_w5 62).trans (up_n (by first | assumption | decide | omega))).trans h4_A
                have h5_G := ((congrFun e_w5 63).trans (up_n (by first | assumption | decide | omega))).trans h4_G
                have h5_S := ((congrFun e_w5 64).trans (up_n (by first | assumption | decide | omega))).trans h4_S
                have h5_T := ((congrFun e_w5 a).trans (up_n (by first | assumption | decide | omega))).trans h4_T
                refine ex_iinc (L2 := [_, _, _, _, _]) (pc := 126) dX7_findsBest_126 rfl rfl (Nat.le_of_ble_eq_true rfl) (by unfold inI; omega) rfl ?_
                refine ex_goto (pc := 129) dX7_findsBest_129 (tgt := 24) (by decide) ?_
                have hb : bst cs mo pr (k + 1) = k := bst_y ⟨by omega, Or.inr ⟨by omega, by unfold cI; omega⟩⟩
                exact ih (k + 1) (by omega) (by omega) w5 _ _ _ _ _ _ _ h5_o h5_T h5_A h5_G h5_S (Or.inr (by rw [hb]; exact ⟨by omega, rfl, hgv, rfl, rfl⟩)) (fun z z1 => by rw [e_w5, up_n z1, e_w4, up_n z1, e_w3, up_n z1, e_w2, up_n z1]; exact (hf1 z z1).trans (hfr z z1))
  refine ex_aload_n (pc := 0) dX7_findsBest_0 rfl ?_
  refine ex_aload_n (pc := 1) dX7_findsBest_1 rfl ?_
  refine ex_iload_n (pc := 2) dX7_findsBest_2 rfl ?_
  refine ex_callVV (as := [_, _]) (pc := 3) dX7_findsBest_3 (tX7_findsShapes h_o h_T hR h_A h_G h_S ha hl hcd hprl) lk_X7_145 ykX7_findsShapes vkX7_findsShapes h_o rfl rfl rfl (Nat.le_of_ble_eq_true rfl) ⟨by decide, by decide⟩ ⟨Nat.le_refl _, Nat.le_refl _⟩ (fun w1 p3 => ?_)
  obtain ⟨⟨nu, lg, h1_A, hnu, h1_G, hlg⟩, ⟨ss, h1_S, hss⟩, h1_o, hfw⟩ := p3
  have h1_T := (hfw a (by omega) (by omega) (by omega) (by omega)).trans h_T
  refine ex_aload_n (pc := 6) dX7_findsBest_6 rfl ?_
  refine ex_bipush (pc := 7) dX7_findsBest_7 (by decide) ?_
  refine ex_putA (pc := 9) dX7_findsBest_9 fk_X7_148 (ty := tyX7 17) (fun _ _ _ h9 => by cases h9; exact ⟨tyX7_ok 17 (by decide), rfl⟩) h1_o (Nat.le_of_ble_eq_true rfl) (fun _ => rfl) (fun _ => rfl) ?_
  refine ex_up (fun w2 e_w2 => ?_)
  have h2_o := (congrFun e_w2 55).trans up_s
  have h2_A := ((congrFun e_w2 62).trans (up_n (by first | assumption | decide | omega))).trans h1_A
  have h2_G := ((congrFun e_w2 63).trans (up_n (by first | assumption | decide | omega))).trans h1_G
  have h2_S := ((congrFun e_w2 64).trans (up_n (by first | assumption | decide | omega))).trans h1_S
  have h2_T := ((congrFun e_w2 a).trans (up_n (by first | assumption | decide | omega))).trans h1_T
  refine ex_aload_n (pc := 12) dX7_findsBest_12 rfl ?_
  refine ex_iconst (pc := 13) dX7_findsBest_13 (by decide) ?_
  refine ex_putA (pc := 14) dX7_findsBest_14 fk_X7_151 (ty := tyX7 18) (fun _ _ _ h9 => by cases h9; exact ⟨tyX7_ok 18 (by decide), rfl⟩) h2_o (Nat.le_of_ble_eq_true rfl) (fun _ => rfl) (fun _ => rfl) ?_
  refine ex_up (fun w3 e_w3 => ?_)
  have h3_o := (congrFun e_w3 55).trans up_s
  have h3_A := ((congrFun e_w3 62).trans (up_n (by first | assumption | decide | omega))).trans h2_A
  have h3_G := ((congrFun e_w3 63).trans (up_n (by first | assumption | decide | omega))).trans h2_G
  have h3_S := ((congrFun e_w3 64).trans (up_n (by first | assumption | decide | omega))).trans h2_S
  have h3_T := ((congrFun e_w3 a).trans (up_n (by first | assumption | decide | omega))).trans h2_T
  refine ex_aload_n (pc := 17) dX7_findsBest_17 rfl ?_
  refine ex_iconst (pc := 18) dX7_findsBest_18 (by decide) ?_
  refine ex_putA (pc := 19) dX7_findsBest_19 fk_X7_154 (ty := tyX7 19) (fun _ _ _ h9 => by cases h9; exact ⟨tyX7_ok 19 (by decide), rfl⟩) h3_o (Nat.le_of_ble_eq_true rfl) (fun _ => rfl) (fun _ => rfl) ?_
  refine ex_up (fun w4 e_w4 => ?_)
  have h4_o := (congrFun e_w4 55).trans up_s
  have h4_A := ((congrFun e_w4 62).trans (up_n (by first | assumption | decide | omega))).trans h3_A
  have h4_G := ((congrFun e_w4 63).trans (up_n (by first | assumption | decide | omega))).trans h3_G
  have h4_S := ((congrFun e_w4 64).trans (up_n (by first | assumption | decide | omega))).trans h3_S
  have h4_T := ((congrFun e_w4 a).trans (up_n (by first | assumption | decide | omega))).trans h3_T
  refine ex_iconst (pc := 22) dX7_findsBest_22 (by decide) ?_
  refine ex_istore_n (L2 := [_, _, _, _, _]) (pc := 23) dX7_findsBest_23 rfl (Nat.le_of_ble_eq_true rfl) rfl ?_
  exact loop w1 nu lg ss hnu hlg hss hfw ((shL cs mo pr).length + 1) 0 (by omega) (by omega) w4 _ _ _ _ _ _ _ h4_o h4_T h4_A h4_G h4_S (Or.inl ⟨rfl, rfl, rfl, rfl⟩) (fun z z1 => by rw [e_w4, up_n z1, e_w3, up_n z1, e_w2, up_n z1])

