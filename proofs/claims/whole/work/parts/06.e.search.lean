theorem addS_len (acc : List Nat) (s : Nat) : (addS acc s).length ≤ acc.length + 1 := by
  unfold addS
  split
  · omega
  · rw [List.length_append]; exact Nat.le_refl _
theorem fold_addS_len (l : List Nat) : ∀ acc : List Nat, (l.foldl addS acc).length ≤ acc.length + l.length := by
  induction l with
  | nil => intro acc; exact Nat.le_refl _
  | cons a l ih =>
    intro acc
    have h1 := ih (addS acc a)
    have h2 := addS_len acc a
    simp only [List.foldl_cons, List.length_cons]
    omega
theorem big_448 : ((List.range 897).filter (fun k => decide (448 < k))).length = 448 := by decide +kernel
theorem shG_len0 {lb : Nat → Nat} {f : Nat → Bool} {x : Nat} {R : List Nat} (hR : (R.filter (fun k => decide (448 < k))).length = 448) : (shG lb ((R.filter f).take x)).length ≤ 448 := by
  have h1 := fold_addS_len ((((R.filter f).take x).filter (fun k => decide (448 < k))).map lb) []
  have h2 : (((R.filter f).take x).filter (fun k => decide (448 < k))).length ≤ 448 := by
    exact Nat.le_trans (List.Sublist.length_le (((List.take_sublist _ _).trans List.filter_sublist).filter _)) (Nat.le_of_eq hR)
  rw [List.length_map] at h1
  unfold shG
  simp only [List.length_nil] at h1
  omega
theorem shG_lt0 {lb : Nat → Nat} {f : Nat → Bool} {x : Nat} {R : List Nat} (hR : (R.filter (fun k => decide (448 < k))).length = 448) (hx : x < (R.filter f).length) (h8 : 448 < (R.filter f)[x]) : (shG lb ((R.filter f).take x)).length < 448 := by
  have h1 := fold_addS_len ((((R.filter f).take x).filter (fun k => decide (448 < k))).map lb) []
  have h2 : (((R.filter f).take (x + 1)).filter (fun k => decide (448 < k))).length ≤ 448 := by
    exact Nat.le_trans (List.Sublist.length_le (((List.take_sublist _ _).trans List.filter_sublist).filter _)) (Nat.le_of_eq hR)
  rw [take_succ_get hx, List.filter_append, List.length_append] at h2
  have h3 : ([(R.filter f)[x]].filter (fun k => decide (448 < k))).length = 1 := by
    generalize (R.filter f)[x] = y at h8
    simp [List.filter, h8]
  rw [List.length_map] at h1
  unfold shG
  simp only [List.length_nil] at h1
  omega
theorem shG_len {lb : Nat → Nat} {f : Nat → Bool} {x : Nat} : (shG lb (((List.range 897).filter f).take x)).length ≤ 448 := shG_len0 big_448
theorem shG_lt {lb : Nat → Nat} {f : Nat → Bool} {x : Nat} (hx : x < ((List.range 897).filter f).length) (h8 : 448 < ((List.range 897).filter f)[x]) : (shG lb (((List.range 897).filter f).take x)).length < 448 := shG_lt0 big_448 hx h8
theorem shG_s {lb : Nat → Nat} {L : List Nat} {x : Nat} (hx : x < L.length) : shG lb (L.take (x + 1)) = if 448 < L[x] then addS (shG lb (L.take x)) (lb L[x]) else shG lb (L.take x) := by
  unfold shG
  rw [take_succ_get hx, List.filter_append, List.map_append, List.foldl_append]
  by_cases h : 448 < L[x] <;> simp [List.filter, h]
abbrev mX5_findShapes : xC := mkC yX5_findShapes cX5_findShapes 3 none 4 400 0 0
set_option maxHeartbeats 4000000 in
set_option maxRecDepth 100000 in
theorem tX5_findShapes {n : Nat} {W : xW} {q : Nat} {mo pr sc : Int} {f : Nat → Bool}  {tf : Nat → Int} {pf : Nat → Int} {nu : Nat → Int} {lb : Nat → Nat} {wi : Nat → Int} {ss : Nat → Int} {sp : Nat → Int} {sv : Nat → Int} (h_q : W q = seO q ((List.range 897).filter f).length mo pr sc) (h_T : W (q + 1) = xA 14 tf) (h_P : W (q + 2) = xA 14 pf) (h_N : W (q + 3) = xA 240 nu) (h_A : W (q + 4) = xA 897 (fun i => (lb i : Int))) (h_W : W (q + 5) = xA 897 wi) (h_S : W (q + 6) = xA 448 ss) (h_U : W (q + 7) = xA 448 sp) (h_V : W (q + 8) = xA 448 sv) {mt : Nat → Nat → Int} (hmtd : ∀ i k, mt i k = metF tf pf nu mo i (dK k) (eK k)) (hmt : ∀ i k, i < 14 → mt i k < 14) (hL : ∀ k ∈ ((List.range 897).filter f), k < 897) (hwi : ∀ i, i < ((List.range 897).filter f).length → wi i = ((((List.range 897).filter f).getD i 0 : Nat) : Int)) (hlb : ∀ k, lb k < 16384) (hb : ∀ k, k < 14 → -300 ≤ tf k ∧ tf k ≤ 300 ∧ -300 ≤ pf k ∧ pf k ≤ 300) : Ctr mX5_findShapes [xr q] n W (pV (fun w2 => ∃ ss2 sp2 sv2 : Nat → Int, w2 q = seO q ((List.range 897).filter f).length mo pr (shG lb ((List.range 897).filter f)).length ∧ w2 (q + 6) = xA 448 ss2 ∧ w2 (q + 7) = xA 448 sp2 ∧ w2 (q + 8) = xA 448 sv2 ∧ (∀ i, i < (shG lb ((List.range 897).filter f)).length → ss2 i = (((shG lb ((List.range 897).filter f)).getD i 0 : Nat) : Int) ∧ sp2 i = ((pcG lb mt ((List.range 897).filter f) ((shG lb ((List.range 897).filter f)).getD i 0)).1 : Int) ∧ sv2 i = ((pcG lb mt ((List.range 897).filter f) ((shG lb ((List.range 897).filter f)).getD i 0)).2 : Int)) ∧ ∀ z, z ≠ q → z ≠ q + 6 → z ≠ q + 7 → z ≠ q + 8 → w2 z = W z)) := by
  refine Ctr.of ykX5_findShapes rfl (Nat.le_of_ble_eq_true rfl) okV (fun hin hW => ?_)
  have hfl := filt_len f 897
  show Ex _ _ 0 0 n W 0 [some (xr q), none, none] []
  have loop : ∀ (d x : Nat), x ≤ ((List.range 897).filter f).length → ((List.range 897).filter f).length + 1 ≤ x + d → ∀ (w : xW) (ss sp sv : Nat → Int) (x2 : Option xV), w q = seO q ((List.range 897).filter f).length mo pr (shG lb (((List.range 897).filter f).take x)).length → w (q + 1) = xA 14 tf → w (q + 2) = xA 14 pf → w (q + 3) = xA 240 nu → w (q + 4) = xA 897 (fun i => (lb i : Int)) → w (q + 5) = xA 897 wi → w (q + 6) = xA 448 ss → w (q + 7) = xA 448 sp → w (q + 8) = xA 448 sv → (∀ i, i < (shG lb (((List.range 897).filter f).take x)).length → ss i = (((shG lb (((List.range 897).filter f).take x)).getD i 0 : Nat) : Int) ∧ sp i = ((pcG lb mt ((List.range 897).filter f) ((shG lb (((List.range 897).filter f).take x)).getD i 0)).1 : Int) ∧ sv i = ((pcG lb mt ((List.range 897).filter f) ((shG lb (((List.range 897).filter f).take x)).getD i 0)).2 : Int)) → (∀ z, z ≠ q → z ≠ q + 6 → z ≠ q + 7 → z ≠ q + 8 → w z = W z) → Ex mX5_findShapes (pV (fun w2 => ∃ ss2 sp2 sv2 : Nat → Int, w2 q = seO q ((List.range 897).filter f).length mo pr (shG lb ((List.range 897).filter f)).length ∧ w2 (q + 6) = xA 448 ss2 ∧ w2 (q + 7) = xA 448 sp2 ∧ w2 (q + 8) = xA 448 sv2 ∧ (∀ i, i < (shG lb ((List.range 897).filter f)).length → ss2 i = (((shG lb ((List.range 897).filter f)).getD i 0 : Nat) : Int) ∧ sp2 i = ((pcG lb mt ((List.range 897).filter f) ((shG lb ((List.range 897).filter f)).getD i 0)).1 : Int) ∧ sv2 i = ((pcG lb mt ((List.range 897).filter f) ((shG lb ((List.range 897).filter f)).getD i 0)).2 : Int)) ∧ ∀ z, z ≠ q → z ≠ q + 6 → z ≠ q + 7 → z ≠ q + 8 → w2 z = W z)) 0 0 n w 7 [some (xr q), some (xi x), x2] [] := by
    intro d
    induction d with
    | zero => intro x h1 h2; omega
    | succ d ih =>
      intro x h1 h2 w ss sp sv x2 h_q h_T h_P h_N h_A h_W h_S h_U h_V hinv hfr
      refine ex_iload_n (pc := 7) dX5_findShapes_7 rfl ?_
      refine ex_aload_n (pc := 8) dX5_findShapes_8 rfl ?_
      refine ex_getfield (pc := 9) dX5_findShapes_9 fk_X5_102 h_q (by rfl) ?_
      refine ex_icmp_ge (pc := 12) dX5_findShapes_12 (tgt := 91) (by decide) (fun c12 => ?_) (fun c12 => ?_)
      · have hxl : x = ((List.range 897).filter f).length := by omega
        rw [hxl, List.take_length] at h_q hinv
        exact ex_vret (pc := 91) dX5_findShapes_91 ⟨ss, sp, sv, h_q, h_S, h_U, h_V, hinv, hfr⟩ rfl (Nat.le_refl _)
      · refine ex_aload_n (pc := 15) dX5_findShapes_15 rfl ?_
        refine ex_getfield (pc := 16) dX5_findShapes_16 fk_X5_24 h_q (by rfl) ?_
        refine ex_iload_n (pc := 19) dX5_findShapes_19 rfl ?_
        refine ex_iaload (pc := 20) dX5_findShapes_20 h_W (by omega) (by omega) ?_
        have hki : ((x : Int)).toNat = x := by omega
        rw [hki]
        have hx : x < ((List.range 897).filter f).length := by omega
        have hwx := hwi x hx
        rw [hwx]
        obtain ⟨s, hs⟩ : ∃ s, ((List.range 897).filter f)[x] = s := ⟨_, rfl⟩
        have hgd : ((List.range 897).filter f).getD x 0 = s := by rw [← hs]; simp [List.getD, hx]
        rw [hgd]
        have hs897 : s < 897 := by rw [← hs]; exact hL ((List.range 897).filter f)[x] (List.getElem_mem hx)
        have hks : ((s : Int)).toNat = s := by omega
        refine ex_istore_n (L2 := [_, _, _]) (pc := 21) dX5_findShapes_21 rfl (Nat.le_of_ble_eq_true rfl) rfl ?_
        refine ex_iload_n (pc := 22) dX5_findShapes_22 rfl ?_
        refine ex_sipush (pc := 23) dX5_findShapes_23 (by decide) ?_
        refine ex_icmp_le (pc := 26) dX5_findShapes_26 (tgt := 85) (by decide) (fun c26 => ?_) (fun c26 => ?_)
        · refine ex_iinc (L2 := [_, _, _]) (pc := 85) dX5_findShapes_85 rfl rfl (Nat.le_of_ble_eq_true rfl) (by unfold inI; omega) rfl ?_
          refine ex_goto (pc := 88) dX5_findShapes_88 (tgt := 7) (by decide) ?_
          have e9 : (shG lb (((List.range 897).filter f).take (x + 1))) = (shG lb (((List.range 897).filter f).take x)) := by rw [shG_s hx, if_neg (by rw [hs]; omega)]
          exact ih (x + 1) (by omega) (by omega) _ ss sp sv _ (by rw [e9]; exact h_q) h_T h_P h_N h_A h_W h_S h_U h_V (by rw [e9]; exact hinv) hfr
        · refine ex_aload_n (pc := 29) dX5_findShapes_29 rfl ?_
          refine ex_getfield (pc := 30) dX5_findShapes_30 fk_X5_109 h_q (by rfl) ?_
          refine ex_sipush (pc := 33) dX5_findShapes_33 (by decide) ?_
          refine ex_icmp_ge (pc := 36) dX5_findShapes_36 (tgt := 85) (by decide) (fun c36 => by exfalso; have := shG_lt (lb := lb) hx (by rw [hs]; omega); omega) (fun c36 => ?_)
          refine ex_aload_n (pc := 39) dX5_findShapes_39 rfl ?_
          refine ex_aload_n (pc := 40) dX5_findShapes_40 rfl ?_
          refine ex_getfield (pc := 41) dX5_findShapes_41 fk_X5_21 h_q (by rfl) ?_
          refine ex_iload_n (pc := 44) dX5_findShapes_44 rfl ?_
          refine ex_iaload (pc := 45) dX5_findShapes_45 h_A (by omega) (by omega) ?_
          rw [hks]
          refine ex_callVZ (as := [_]) (pc := 46) dX5_findShapes_46 (tX5_isShape h_q h_S (N := (shG lb (((List.range 897).filter f).take x)).length) shG_len (c := (lb s : Int))) lk_X5_112 ykX5_isShape vkX5_isShape h_q rfl rfl rfl (Nat.le_of_ble_eq_true rfl) ⟨by decide, by decide⟩ ⟨Nat.le_refl _, Nat.le_refl _⟩ (fun i46 w1 r46 p46 => ?_)
          obtain ⟨e46, p46⟩ := p46
          subst e46
          refine ex_if_ne (pc := 49) dX5_findShapes_49 (tgt := 85) (by decide) (fun c49 => ?_) (fun c49 => ?_)
          · refine ex_iinc (L2 := [_, _, _]) (pc := 85) dX5_findShapes_85 rfl rfl (Nat.le_of_ble_eq_true rfl) (by unfold inI; omega) rfl ?_
            refine ex_goto (pc := 88) dX5_findShapes_88 (tgt := 7) (by decide) ?_
            have hmem : lb s ∈ (shG lb (((List.range 897).filter f).take x)) := by
              obtain ⟨k, k1, k2⟩ := p46.mp (by omega)
              rw [(hinv k k1).1] at k2
              have k3 : (shG lb (((List.range 897).filter f).take x)).getD k 0 = lb s := by omega
              rw [← k3]
              have k4 : (shG lb (((List.range 897).filter f).take x)).getD k 0 = (shG lb (((List.range 897).filter f).take x))[k] := by simp [List.getD, k1]
              rw [k4]; exact List.getElem_mem k1
            have e9 : (shG lb (((List.range 897).filter f).take (x + 1))) = (shG lb (((List.range 897).filter f).take x)) := by rw [shG_s hx, if_pos (by rw [hs]; omega), hs]; unfold addS; rw [if_pos hmem]
            exact ih (x + 1) (by omega) (by omega) _ ss sp sv _ (by rw [e9]; exact h_q) h_T h_P h_N h_A h_W h_S h_U h_V (by rw [e9]; exact hinv) hfr
          · refine ex_aload_n (pc := 52) dX5_findShapes_52 rfl ?_
            refine ex_getfield (pc := 53) dX5_findShapes_53 fk_X5_27 h_q (by rfl) ?_
            refine ex_aload_n (pc := 56) dX5_findShapes_56 rfl ?_
            refine ex_getfield (pc := 57) dX5_findShapes_57 fk_X5_109 h_q (by rfl) ?_
            refine ex_aload_n (pc := 60) dX5_findShapes_60 rfl ?_
            refine ex_getfield (pc := 61) dX5_findShapes_61 fk_X5_21 h_q (by rfl) ?_
            refine ex_iload_n (pc := 64) dX5_findShapes_64 rfl ?_
            refine ex_iaload (pc := 65) dX5_findShapes_65 h_A (by omega) (by omega) ?_
            rw [hks]
            have hlt := shG_lt (lb := lb) hx (by rw [hs]; omega)
            generalize hacc : (shG lb (((List.range 897).filter f).take x)) = acc at *
            have hkl : ((acc.length : Int)).toNat = acc.length := by omega
            refine ex_iastore (pc := 66) dX5_findShapes_66 h_S (by omega) (by omega) ?_
            refine ex_up (fun w1 e_w1 => ?_)
            have h1_q := ((congrFun e_w1 q).trans (up_n (by first | assumption | decide | omega))).trans h_q
            have h1_T := ((congrFun e_w1 (q + 1)).trans (up_n (by first | assumption | decide | omega))).trans h_T
            have h1_P := ((congrFun e_w1 (q + 2)).trans (up_n (by first | assumption | decide | omega))).trans h_P
            have h1_N := ((congrFun e_w1 (q + 3)).trans (up_n (by first | assumption | decide | omega))).trans h_N
            have h1_A := ((congrFun e_w1 (q + 4)).trans (up_n (by first | assumption | decide | omega))).trans h_A
            have h1_W := ((congrFun e_w1 (q + 5)).trans (up_n (by first | assumption | decide | omega))).trans h_W
            have h1_S := (congrFun e_w1 (q + 6)).trans up_s
            have h1_U := ((congrFun e_w1 (q + 7)).trans (up_n (by first | assumption | decide | omega))).trans h_U
            have h1_V := ((congrFun e_w1 (q + 8)).trans (up_n (by first | assumption | decide | omega))).trans h_V
            refine ex_aload_n (pc := 67) dX5_findShapes_67 rfl ?_
            refine ex_aload_n (pc := 68) dX5_findShapes_68 rfl ?_
            refine ex_getfield (pc := 69) dX5_findShapes_69 fk_X5_109 h1_q (by rfl) ?_
            refine ex_callVV (as := [_]) (pc := 72) dX5_findShapes_72 (tX5_measureShape (sN := lb s) (j := acc.length) h1_q h1_T h1_P h1_N h1_A h1_W h1_S h1_U h1_V hmtd (fun i k hi _ => hmt i k hi) hL (filt_len f 897) hwi hlb hb hlt (by rw [hkl, up_s]) (hlb s)) lk_X5_115 ykX5_measureShape vkX5_measureShape h1_q rfl rfl rfl (Nat.le_of_ble_eq_true rfl) ⟨by decide, by decide⟩ ⟨Nat.le_refl _, Nat.le_refl _⟩ (fun w2 p72 => ?_)
            have e72 : w2 = _ := p72
            have h2_q := (congrFun e72 q).trans (((up_n (by omega)).trans (up_n (by omega))).trans h1_q)
            have h2_T := (congrFun e72 (q + 1)).trans (((up_n (by omega)).trans (up_n (by omega))).trans h1_T)
            have h2_P := (congrFun e72 (q + 2)).trans (((up_n (by omega)).trans (up_n (by omega))).trans h1_P)
            have h2_N := (congrFun e72 (q + 3)).trans (((up_n (by omega)).trans (up_n (by omega))).trans h1_N)
            have h2_A := (congrFun e72 (q + 4)).trans (((up_n (by omega)).trans (up_n (by omega))).trans h1_A)
            have h2_W := (congrFun e72 (q + 5)).trans (((up_n (by omega)).trans (up_n (by omega))).trans h1_W)
            have h2_S := (congrFun e72 (q + 6)).trans (((up_n (by omega)).trans (up_n (by omega))).trans h1_S)
            have h2_U := (congrFun e72 (q + 7)).trans ((up_n (by omega)).trans up_s)
            have h2_V := (congrFun e72 (q + 8)).trans up_s
            refine ex_aload_n (pc := 75) dX5_findShapes_75 rfl ?_
            refine ex_dup (pc := 76) dX5_findShapes_76 rfl ?_
            refine ex_getfield (pc := 77) dX5_findShapes_77 fk_X5_109 h2_q (by rfl) ?_
            refine ex_iconst (pc := 80) dX5_findShapes_80 (by decide) ?_
            refine ex_iadd (pc := 81) dX5_findShapes_81 (by unfold inI; omega) ?_
            refine ex_putA (pc := 82) dX5_findShapes_82 fk_X5_109 (ty := tyX5 11) (fun _ _ _ h9 => by cases h9; exact ⟨tyX5_ok 11 (by decide), rfl⟩) h2_q (Nat.le_of_ble_eq_true rfl) (fun _ => rfl) (fun _ => rfl) ?_
            refine ex_up (fun w3 e_w3 => ?_)
            have h3_q := (congrFun e_w3 q).trans up_s
            have h3_T := ((congrFun e_w3 (q + 1)).trans (up_n (by first | assumption | decide | omega))).trans h2_T
            have h3_P := ((congrFun e_w3 (q + 2)).trans (up_n (by first | assumption | decide | omega))).trans h2_P
            have h3_N := ((congrFun e_w3 (q + 3)).trans (up_n (by first | assumption | decide | omega))).trans h2_N
            have h3_A := ((congrFun e_w3 (q + 4)).trans (up_n (by first | assumption | decide | omega))).trans h2_A
            have h3_W := ((congrFun e_w3 (q + 5)).trans (up_n (by first | assumption | decide | omega))).trans h2_W
            have h3_S := ((congrFun e_w3 (q + 6)).trans (up_n (by first | assumption | decide | omega))).trans h2_S
            have h3_U := ((congrFun e_w3 (q + 7)).trans (up_n (by first | assumption | decide | omega))).trans h2_U
            have h3_V := ((congrFun e_w3 (q + 8)).trans (up_n (by first | assumption | decide | omega))).trans h2_V
            refine ex_iinc (L2 := [_, _, _]) (pc := 85) dX5_findShapes_85 rfl rfl (Nat.le_of_ble_eq_true rfl) (by unfold inI; omega) rfl ?_
            refine ex_goto (pc := 88) dX5_findShapes_88 (tgt := 7) (by decide) ?_
            have hnm : ¬ lb s ∈ acc := by
              intro hm
              obtain ⟨k, k1, k2⟩ := List.getElem_of_mem hm
              have k4 : acc.getD k 0 = acc[k] := by simp [List.getD, k1]
              have := p46.mpr ⟨k, k1, by rw [(hinv k k1).1, k4, k2]⟩
              omega
            have e9 : (shG lb (((List.range 897).filter f).take (x + 1))) = acc ++ [lb s] := by rw [shG_s hx, if_pos (by rw [hs]; omega), hs, hacc]; unfold addS; rw [if_neg hnm]
            exact ih (x + 1) (by omega) (by omega) w3 _ _ _ _ (by rw [e9, List.length_append]; exact h3_q) h3_T h3_P h3_N h3_A h3_W h3_S h3_U h3_V (by
              intro i hi
              rw [e9] at hi ⊢
              rw [List.length_append] at hi
              by_cases y : i < acc.length
              · rw [getD_app1 y, up_n (by omega), up_n (by omega), up_n (by omega)]; exact hinv i y
              · have y2 : i = acc.length := by simp at hi; omega
                rw [y2, getD_app2, up_s, up_s, hkl, up_s]; exact ⟨rfl, rfl, rfl⟩) (fun z z1 z2 z3 z4 => by rw [e_w3, up_n z1, e72, up_n z4, up_n z3, e_w1, up_n z2]; exact hfr z z1 z2 z3 z4)
  refine ex_aload_n (pc := 0) dX5_findShapes_0 rfl ?_
  refine ex_iconst (pc := 1) dX5_findShapes_1 (by decide) ?_
  refine ex_putA (pc := 2) dX5_findShapes_2 fk_X5_109 (ty := tyX5 11) (fun _ _ _ h9 => by cases h9; exact ⟨tyX5_ok 11 (by decide), rfl⟩) h_q (Nat.le_of_ble_eq_true rfl) (fun _ => rfl) (fun _ => rfl) ?_
  refine ex_up (fun w1 e_w1 => ?_)
  have h1_q := (congrFun e_w1 q).trans up_s
  have h1_T := ((congrFun e_w1 (q + 1)).trans (up_n (by first | assumption | decide | omega))).trans h_T
  have h1_P := ((congrFun e_w1 (q + 2)).trans (up_n (by first | assumption | decide | omega))).trans h_P
  have h1_N := ((congrFun e_w1 (q + 3)).trans (up_n (by first | assumption | decide | omega))).trans h_N
  have h1_A := ((congrFun e_w1 (q + 4)).trans (up_n (by first | assumption | decide | omega))).trans h_A
  have h1_W := ((congrFun e_w1 (q + 5)).trans (up_n (by first | assumption | decide | omega))).trans h_W
  have h1_S := ((congrFun e_w1 (q + 6)).trans (up_n (by first | assumption | decide | omega))).trans h_S
  have h1_U := ((congrFun e_w1 (q + 7)).trans (up_n (by first | assumption | decide | omega))).trans h_U
  have h1_V := ((congrFun e_w1 (q + 8)).trans (up_n (by first | assumption | decide | omega))).trans h_V
  refine ex_iconst (pc := 5) dX5_findShapes_5 (by decide) ?_
  refine ex_istore_n (L2 := [_, _, _]) (pc := 6) dX5_findShapes_6 rfl (Nat.le_of_ble_eq_true rfl) rfl ?_
  exact loop (((List.range 897).filter f).length + 1) 0 (by omega) (by omega) w1 ss sp sv _ h1_q h1_T h1_P h1_N h1_A h1_W h1_S h1_U h1_V (fun i hi => absurd hi (Nat.not_lt_zero _)) (fun z z1 _ _ _ => by rw [e_w1, up_n z1])

