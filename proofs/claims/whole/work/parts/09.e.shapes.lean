def opLargest (s : St) (d e : Int) : Int := if shC s.2.1 d e then (lgS s.1 s.2.1 (Al s.1) ((d + 19) * 23 + e + 11).toNat : Int) else -1
def opMeets (s : St) (a d e : Int) : Int := if (0 ≤ a ∧ a < s.1.length) ∧ shC s.2.1 d e then metS s.1 s.2.1 (Al s.1) a.toNat d e else -1
def opShape (s : St) (k a : Int) : Int := if 0 ≤ k ∧ k < (shL s.1 s.2.1 (Al s.1)).length then (if a = 0 then ((shL s.1 s.2.1 (Al s.1)).getD k.toNat 0 : Int) else if a = 1 then ((pcS s.1 s.2.1 (Al s.1) ((shL s.1 s.2.1 (Al s.1)).getD k.toNat 0)).1 : Int) else if a = 2 then ((pcS s.1 s.2.1 (Al s.1) ((shL s.1 s.2.1 (Al s.1)).getD k.toNat 0)).2 : Int) else if a = 3 then gnS s.1 s.2.1 (Al s.1) ((shL s.1 s.2.1 (Al s.1)).getD k.toNat 0) + 100 else -1) else -1
def opPlace (s : St) (a j : Int) : Int := if a < 1 ∨ (Al s.1 : Int) < a ∨ j < -1 then -1 else if j = -1 then ((plcL s.1 s.2.1 (Al s.1) a.toNat).length : Int) else plcI s.1 s.2.1 (Al s.1) a.toNat j.toNat
def opBest (s : St) (a : Int) : Int := if a < 0 ∨ 1 < a then -1 else if bestS s.1 s.2.1 (Al s.1) < 0 then -4 else if a = 0 then bestS s.1 s.2.1 (Al s.1) else gI s.1 s.2.1 (Al s.1) (bestS s.1 s.2.1 (Al s.1)).toNat + 100
abbrev resP (cs : List Int) (mo : Int) : List (Nat × Nat × Nat) × Nat × Int := ptS cs mo 14 (Al cs) [] 0
def opParted (s : St) (k a : Int) : Int := if k < 0 ∨ a < 0 ∨ 2 < a then -1 else if (resP s.1 s.2.1).1.length ≤ k then -4 else if a = 0 then (((resP s.1 s.2.1).1.getD k.toNat (0, 0, 0)).1 : Int) else if a = 1 then (((resP s.1 s.2.1).1.getD k.toNat (0, 0, 0)).2.1 : Int) else (((resP s.1 s.2.1).1.getD k.toNat (0, 0, 0)).2.2 : Int)
def opParting (s : St) (a : Int) : Int := if a < 0 ∨ 2 < a then -1 else if a = 0 then ((resP s.1 s.2.1).1.length : Int) else if a = 1 then ((resP s.1 s.2.1).2.1 : Int) else (resP s.1 s.2.1).2.2 + pc14 (resP s.1 s.2.1).2.1
def opShapes (s : St) (a : Int) : Int := if a = 0 then ((shL s.1 s.2.1 (Al s.1)).length : Int) else if a = 1 then (fewG (redL (cvx s.1 s.2.1 (Al s.1)) (shL s.1 s.2.1 (Al s.1)).length) (covS s.1 s.2.1 (Al s.1)) : Int) else if a = 2 then (dif (Al s.1) (covS s.1 s.2.1 (Al s.1)) : Int) else -1
def linkE (mo e : Int) : Int := if mo = 1 then e % 12 else e
def opLink (s : St) (a b c : Int) : Int := if ¬ (0 ≤ a ∧ a < s.1.length) then -1 else if ¬ (0 ≤ b ∧ b < s.1.length) then -1 else if a = b then -1 else if c = 0 then tmL s.1 b.toNat - tmL s.1 a.toNat + 50 else if c = 1 then linkE s.2.1 (ptL s.1 b.toNat - ptL s.1 a.toNat) + 50 else if c = 2 then (pc14 (lgS s.1 s.2.1 (Al s.1) ((tmL s.1 b.toNat - tmL s.1 a.toNat + 19) * 23 + linkE s.2.1 (ptL s.1 b.toNat - ptL s.1 a.toNat) + 11).toNat) : Int) else -1
theorem Al_lt (cs : List Int) : Al cs < 2 ^ cs.length := by
  have := Nat.one_le_two_pow (n := cs.length)
  unfold Al; omega
theorem Al_16 {cs : List Int} (h : cs.length ≤ 14) : Al cs < 16384 := by
  have := two14 h
  have := Al_lt cs
  omega
abbrev mX6_wholeSearch : xC := mkC yX6_wholeSearch cX6_wholeSearch 1 (some (.object "ShiftedShapes$Search")) 6 600 0 0
set_option maxHeartbeats 4000000 in
set_option maxRecDepth 100000 in
theorem tX6_wholeSearch {n : Nat} {w : xW} {s : St} (hS : ClsS w s) : Ctr mX6_wholeSearch [xr 0] n w (pR (fun v w2 => v = 31 ∧ SeAt w2 31 s.1 s.2.1 (Al s.1) ∧ ClsS w2 s ∧ FrO w w2)) := by
  refine Ctr.of ykX6_wholeSearch rfl (Nat.le_of_ble_eq_true rfl) okR (fun hin hW => ?_)
  have hS0 := hS
  obtain ⟨hv, wk, bk, bc, bg, H, hc⟩ := hS
  have hlen := H.P.len
  obtain ⟨y1, y2, y3, y4, hq9⟩ := H.H.q
  show Ex _ _ 0 0 n w 0 [some (xr 0)] []
  refine ex_aload_n (pc := 0) dX6_wholeSearch_0 rfl ?_
  refine ex_getfield (pc := 1) dX6_wholeSearch_1 fk_X6_241 H.o (by rfl) ?_
  refine ex_if_ne (pc := 4) dX6_wholeSearch_4 (tgt := 30) (by decide) (fun c4 => ?_) (fun c4 => ?_)
  · refine ex_aload_n (pc := 30) dX6_wholeSearch_30 rfl ?_
    refine ex_getfield (pc := 31) dX6_wholeSearch_31 fk_X6_41 H.o (by rfl) ?_
    exact ex_aret (pc := 34) dX6_wholeSearch_34 ⟨rfl, (hc.1.resolve_left (by omega)).2, hS0, fun _ _ => rfl⟩ rfl (Nat.le_refl _)
  · refine ex_aload_n (pc := 7) dX6_wholeSearch_7 rfl ?_
    refine ex_getfield (pc := 8) dX6_wholeSearch_8 fk_X6_41 H.o (by rfl) ?_
    refine ex_aload_n (pc := 11) dX6_wholeSearch_11 rfl ?_
    refine ex_getfield (pc := 12) dX6_wholeSearch_12 fk_X6_19 H.o (by rfl) ?_
    refine ex_aload_n (pc := 15) dX6_wholeSearch_15 rfl ?_
    refine ex_getfield (pc := 16) dX6_wholeSearch_16 fk_X6_19 H.o (by rfl) ?_
    refine ex_callVI (as := []) (pc := 19) dX6_wholeSearch_19 (lX2_allNotes H.P) lk_X6_167 ykX2_allNotes vkX2_allNotes H.p rfl rfl rfl (Nat.le_of_ble_eq_true rfl) ⟨by decide, by decide⟩ ⟨Nat.le_refl _, Nat.le_refl _⟩ (fun i19 w1 r19 p19 => ?_)
    obtain ⟨e19, p19⟩ := p19
    rw [e19, p19]
    refine ex_callVV (as := [_, _]) (pc := 22) dX6_wholeSearch_22 (tX5_lookOver H.H H.P hv.1.1 (by decide) (by decide) (Al_lt s.1)) lk_X6_234 ykX5_lookOver vkX5_lookOver hq9 rfl rfl rfl (Nat.le_of_ble_eq_true rfl) ⟨by decide, by decide⟩ ⟨Nat.le_refl _, Nat.le_refl _⟩ (fun w1 p22 => ?_)
    obtain ⟨q1, q2⟩ := p22
    have H1 := H.finds q1.X (H.X.fr (fun z z1 z2 => q2 z (by omega))) (H.Y.fr (fun z z1 z2 => q2 z (by omega))) (H.V.fr (q2 _ (by decide)) (q2 _ (by decide))) (fun z hz => q2 z (by omega))
    have h1_o := H1.o
    have h1_p := H1.p
    have h1_h := q1.q
    refine ex_aload_n (pc := 25) dX6_wholeSearch_25 rfl ?_
    refine ex_iconst (pc := 26) dX6_wholeSearch_26 (by decide) ?_
    refine ex_putA (pc := 27) dX6_wholeSearch_27 fk_X6_241 (ty := tyX6 9) (fun _ _ _ h9 => by cases h9; exact ⟨tyX6_ok 9 (by decide), rfl⟩) h1_o (Nat.le_of_ble_eq_true rfl) (fun _ => rfl) (fun _ => rfl) ?_
    refine ex_up (fun w2 e_w2 => ?_)
    have h2_o := (congrFun e_w2 0).trans up_s
    have h2_p := ((congrFun e_w2 3).trans (up_n (by first | assumption | decide | omega))).trans h1_p
    have h2_h := ((congrFun e_w2 31).trans (up_n (by first | assumption | decide | omega))).trans h1_h
    refine ex_aload_n (pc := 30) dX6_wholeSearch_30 rfl ?_
    refine ex_getfield (pc := 31) dX6_wholeSearch_31 fk_X6_41 h2_o (by rfl) ?_
    have H2 := H1.flags h2_o (fun z hz => (congrFun e_w2 z).trans (up_n hz))
    have hse : SeAt w2 31 s.1 s.2.1 (Al s.1) := q1.fr (fun z z1 z2 => (congrFun e_w2 z).trans (up_n (by omega)))
    exact ex_aret (pc := 34) dX6_wholeSearch_34 ⟨rfl, hse, ClsS.mk hv H2 ⟨Or.inr ⟨rfl, hse⟩, hc.2⟩, fun z hz => ((congrFun e_w2 z).trans (up_n (by omega))).trans (q2 z (by omega))⟩ rfl (Nat.le_refl _)

abbrev mX6_largest : xC := mkC yX6_largest cX6_largest 3 (some .int) 7 700 0 0
set_option maxHeartbeats 4000000 in
set_option maxRecDepth 100000 in
theorem tX6_largest {n : Nat} {w : xW} {s : St} (hS : ClsS w s) {d e : Int} : Ctr mX6_largest [xr 0, xi d, xi e] n w (pI (fun v w2 => v = opLargest s d e ∧ ClsS w2 s ∧ FrO w w2)) := by
  refine Ctr.of ykX6_largest rfl (Nat.le_of_ble_eq_true rfl) okI (fun hin hW => ?_)
  have hS0 := hS
  obtain ⟨hv, wk, bk, bc, bg, H, hc⟩ := hS
  have hlen := H.P.len
  show Ex _ _ 0 0 n w 0 [some (xr 0), some (xi d), some (xi e)] []
  refine ex_aload_n (pc := 0) dX6_largest_0 rfl ?_
  refine ex_iload_n (pc := 1) dX6_largest_1 rfl ?_
  refine ex_iload_n (pc := 2) dX6_largest_2 rfl ?_
  refine ex_callVZ (as := [_, _]) (pc := 3) dX6_largest_3 (tX6_isShift H) lk_X6_138 ykX6_isShift vkX6_isShift H.o rfl rfl rfl (Nat.le_of_ble_eq_true rfl) ⟨by decide, by decide⟩ ⟨Nat.le_refl _, Nat.le_refl _⟩ (fun i3 w1 r3 p3 => ?_)
  obtain ⟨e3, p3⟩ := p3
  rw [e3]
  refine ex_if_eq (pc := 6) dX6_largest_6 (tgt := 21) (by decide) (fun c6 => ?_) (fun c6 => ?_)
  · refine ex_iconst (pc := 21) dX6_largest_21 (by decide) ?_
    exact ex_iret (pc := 22) dX6_largest_22 ⟨by unfold opLargest; rw [if_neg (by intro z; have := p3.mpr z; omega)], hS0, fun _ _ => rfl⟩ rfl (Nat.le_refl _)
  · refine ex_aload_n (pc := 9) dX6_largest_9 rfl ?_
    refine ex_callVR (as := []) (pc := 10) dX6_largest_10 (tX6_wholeSearch hS0) lk_X6_141 ykX6_wholeSearch vkX6_wholeSearch H.o rfl rfl rfl (Nat.le_of_ble_eq_true rfl) ⟨by decide, by decide⟩ ⟨Nat.le_refl _, Nat.le_refl _⟩ (fun i10 w1 p10 => ?_)
    obtain ⟨e_r, s1, hS1, f1⟩ := p10
    subst e_r
    have hS9 := hS1
    obtain ⟨hv1, wk1, bk1, bc1, bg1, H1, hc1⟩ := hS1
    have h1_o := H1.o
    have h1_p := H1.p
    have h1_u := H1.u
    have h1_k := H1.k
    have h1_h := s1.q
    refine ex_iload_n (pc := 13) dX6_largest_13 rfl ?_
    refine ex_iload_n (pc := 14) dX6_largest_14 rfl ?_
    have hsh : shC s.2.1 d e := p3.mp (by omega)
    have hde : -19 ≤ d ∧ d ≤ 19 ∧ -11 ≤ e ∧ e ≤ 11 := by have h9 := hsh; unfold shC at h9; split at h9 <;> omega
    refine ex_callVI (as := [_, _]) (pc := 15) dX6_largest_15 (tX5_largestOf s1 (by omega)) lk_X6_145 ykX5_largestOf vkX5_largestOf h1_h rfl rfl rfl (Nat.le_of_ble_eq_true rfl) ⟨by decide, by decide⟩ ⟨Nat.le_refl _, Nat.le_refl _⟩ (fun i15 w2 r15 p15 => ?_)
    obtain ⟨e15, p15⟩ := p15
    rw [e15]
    refine ex_goto (pc := 18) dX6_largest_18 (tgt := 22) (by decide) ?_
    exact ex_iret (pc := 22) dX6_largest_22 ⟨by unfold opLargest; rw [if_pos hsh, p15, if_pos (by omega)], hS9, f1⟩ rfl (Nat.le_refl _)

abbrev mX6_meets : xC := mkC yX6_meets cX6_meets 4 (some .int) 7 700 0 0
set_option maxHeartbeats 4000000 in
set_option maxRecDepth 100000 in
theorem tX6_meets {n : Nat} {w : xW} {s : St} (hS : ClsS w s) {a d e : Int} : Ctr mX6_meets [xr 0, xi a, xi d, xi e] n w (pI (fun v w2 => v = opMeets s a d e ∧ ClsS w2 s ∧ FrO w w2)) := by
  refine Ctr.of ykX6_meets rfl (Nat.le_of_ble_eq_true rfl) okI (fun hin hW => ?_)
  have hS0 := hS
  obtain ⟨hv, wk, bk, bc, bg, H, hc⟩ := hS
  have hlen := H.P.len
  show Ex _ _ 0 0 n w 0 [some (xr 0), some (xi a), some (xi d), some (xi e)] []
  refine ex_aload_n (pc := 0) dX6_meets_0 rfl ?_
  refine ex_iload_n (pc := 1) dX6_meets_1 rfl ?_
  refine ex_callVZ (as := [_]) (pc := 2) dX6_meets_2 (tX6_isNote H) lk_X6_100 ykX6_isNote vkX6_isNote H.o rfl rfl rfl (Nat.le_of_ble_eq_true rfl) ⟨by decide, by decide⟩ ⟨Nat.le_refl _, Nat.le_refl _⟩ (fun i2 w1 r2 p2 => ?_)
  obtain ⟨e2, p2⟩ := p2
  rw [e2]
  refine ex_if_eq (pc := 5) dX6_meets_5 (tgt := 17) (by decide) (fun c5 => ?_) (fun c5 => ?_)
  · refine ex_iconst (pc := 17) dX6_meets_17 (by decide) ?_
    exact ex_iret (pc := 18) dX6_meets_18 ⟨by unfold opMeets; rw [if_neg (by intro z; omega)], hS0, fun _ _ => rfl⟩ rfl (Nat.le_refl _)
  · refine ex_aload_n (pc := 8) dX6_meets_8 rfl ?_
    refine ex_iload_n (pc := 9) dX6_meets_9 rfl ?_
    refine ex_iload_n (pc := 10) dX6_meets_10 rfl ?_
    refine ex_callVZ (as := [_, _]) (pc := 11) dX6_meets_11 (tX6_isShift H) lk_X6_138 ykX6_isShift vkX6_isShift H.o rfl rfl rfl (Nat.le_of_ble_eq_true rfl) ⟨by decide, by decide⟩ ⟨Nat.le_refl _, Nat.le_refl _⟩ (fun i11 w1 r11 p11 => ?_)
    obtain ⟨e11, p11⟩ := p11
    rw [e11]
    refine ex_if_ne (pc := 14) dX6_meets_14 (tgt := 19) (by decide) (fun c14 => ?_) (fun c14 => ?_)
    · refine ex_aload_n (pc := 19) dX6_meets_19 rfl ?_
      refine ex_callVR (as := []) (pc := 20) dX6_meets_20 (tX6_wholeSearch hS0) lk_X6_141 ykX6_wholeSearch vkX6_wholeSearch H.o rfl rfl rfl (Nat.le_of_ble_eq_true rfl) ⟨by decide, by decide⟩ ⟨Nat.le_refl _, Nat.le_refl _⟩ (fun i20 w1 p20 => ?_)
      obtain ⟨e_r, s1, hS1, f1⟩ := p20
      subst e_r
      have hS9 := hS1
      obtain ⟨hv1, wk1, bk1, bc1, bg1, H1, hc1⟩ := hS1
      have h1_o := H1.o
      have h1_p := H1.p
      have h1_u := H1.u
      have h1_k := H1.k
      have h1_h := s1.q
      refine ex_iload_n (pc := 23) dX6_meets_23 rfl ?_
      refine ex_iload_n (pc := 24) dX6_meets_24 rfl ?_
      refine ex_iload_n (pc := 25) dX6_meets_25 rfl ?_
      have hsh : shC s.2.1 d e := p11.mp (by omega)
      have hde : -19 ≤ d ∧ d ≤ 19 ∧ -11 ≤ e ∧ e ≤ 11 := by have h9 := hsh; unfold shC at h9; split at h9 <;> omega
      obtain ⟨j, hj⟩ : ∃ j : Nat, a = j := ⟨a.toNat, by omega⟩
      subst hj
      have hkj : ((j : Int)).toNat = j := by omega
      obtain ⟨tf, pf, nu, lb, wi, ss, sp, sv, k1, k2, k3, k4, k5, k6, k7, k8, k9, hlb, hb, htf, hnu, hlg, hshh⟩ := s1
      refine ex_callVI (as := [_, _, _]) (pc := 26) dX6_meets_26 (tX5_met k1 k2 k3 k4 (a := j) (by omega) (fun k hk => by have := hb k hk; omega) (by omega)) lk_X6_148 ykX5_met vkX5_met h1_h rfl rfl rfl (Nat.le_of_ble_eq_true rfl) ⟨by decide, by decide⟩ ⟨Nat.le_refl _, Nat.le_refl _⟩ (fun i26 w2 r26 p26 => ?_)
      obtain ⟨e26, p26⟩ := p26
      rw [e26]
      exact ex_iret (pc := 29) dX6_meets_29 ⟨by unfold opMeets; rw [if_pos ⟨by omega, hsh⟩, p26, hkj]; exact metF_congr hnu (htf j (by omega)).1 (htf j (by omega)).2, hS9, f1⟩ rfl (Nat.le_refl _)
    · refine ex_iconst (pc := 17) dX6_meets_17 (by decide) ?_
      exact ex_iret (pc := 18) dX6_meets_18 ⟨by unfold opMeets; rw [if_neg (by intro z; have := p11.mpr z.2; omega)], hS0, fun _ _ => rfl⟩ rfl (Nat.le_refl _)

abbrev mX6_shape : xC := mkC yX6_shape cX6_shape 4 (some .int) 7 700 0 0
set_option maxHeartbeats 4000000 in
set_option maxRecDepth 100000 in
theorem tX6_shape {n : Nat} {w : xW} {s : St} (hS : ClsS w s) {k a : Int} : Ctr mX6_shape [xr 0, xi k, xi a] n w (pI (fun v w2 => v = opShape s k a ∧ ClsS w2 s ∧ FrO w w2)) := by
  refine Ctr.of ykX6_shape rfl (Nat.le_of_ble_eq_true rfl) okI (fun hin hW => ?_)
  have hS0 := hS
  obtain ⟨hv, wk, bk, bc, bg, H, hc⟩ := hS
  have hlen := H.P.len
  show Ex _ _ 0 0 n w 0 [some (xr 0), some (xi k), some (xi a), none] []
  refine ex_aload_n (pc := 0) dX6_shape_0 rfl ?_
  refine ex_callVR (as := []) (pc := 1) dX6_shape_1 (tX6_wholeSearch hS0) lk_X6_141 ykX6_wholeSearch vkX6_wholeSearch H.o rfl rfl rfl (Nat.le_of_ble_eq_true rfl) ⟨by decide, by decide⟩ ⟨Nat.le_refl _, Nat.le_refl _⟩ (fun i1 w1 p1 => ?_)
  obtain ⟨e_r, s1, hS1, f1⟩ := p1
  subst e_r
  have hS9 := hS1
  obtain ⟨hv1, wk1, bk1, bc1, bg1, H1, hc1⟩ := hS1
  have h1_o := H1.o
  have h1_p := H1.p
  have h1_u := H1.u
  have h1_k := H1.k
  have h1_h := s1.q
  obtain ⟨tf, pf, nu, lb, wi, ss, sp, sv, k1, k2, k3, k4, k5, k6, k7, k8, k9, hlb, hb, htf, hnu, hlg, hshh⟩ := id s1
  have h448 := sh448 s.1 s.2.1 (Al s.1)
  have h1_hS := k7
  have h1_hU := k8
  have h1_hV := k9
  refine ex_astore_n (L2 := [_, _, _, _]) (pc := 4) dX6_shape_4 rfl (Nat.le_of_ble_eq_true rfl) rfl ?_
  refine ex_iload_n (pc := 5) dX6_shape_5 rfl ?_
  refine ex_if_lt (pc := 6) dX6_shape_6 (tgt := 17) (by decide) (fun c6 => ?_) (fun c6 => ?_)
  · refine ex_iconst (pc := 17) dX6_shape_17 (by decide) ?_
    exact ex_iret (pc := 18) dX6_shape_18 ⟨by unfold opShape; rw [if_neg (by omega)], hS9, f1⟩ rfl (Nat.le_refl _)
  · refine ex_iload_n (pc := 9) dX6_shape_9 rfl ?_
    refine ex_aload_n (pc := 10) dX6_shape_10 rfl ?_
    refine ex_getfield (pc := 11) dX6_shape_11 fk_X6_152 h1_h (by rfl) ?_
    refine ex_icmp_lt (pc := 14) dX6_shape_14 (tgt := 19) (by decide) (fun c14 => ?_) (fun c14 => ?_)
    · refine ex_iload_n (pc := 19) dX6_shape_19 rfl ?_
      by_cases q20_0 : a = 0
      · refine ex_tableIn (pc := 20) dX6_shape_20 (by omega) (by omega) (off := 32) (tgt := 52) (by rw [q20_0]; rfl) (by decide) ?_
        refine ex_aload_n (pc := 52) dX6_shape_52 rfl ?_
        refine ex_getfield (pc := 53) dX6_shape_53 fk_X6_155 h1_h (by rfl) ?_
        refine ex_iload_n (pc := 56) dX6_shape_56 rfl ?_
        refine ex_iaload (pc := 57) dX6_shape_57 h1_hS (by omega) (by omega) ?_
        have h9 := hshh k.toNat (by omega)
        rw [h9.1]
        exact ex_iret (pc := 58) dX6_shape_58 ⟨by unfold opShape; rw [if_pos (by omega)]; rw [if_pos q20_0], hS9, f1⟩ rfl (Nat.le_refl _)
      by_cases q20_1 : a = 1
      · refine ex_tableIn (pc := 20) dX6_shape_20 (by omega) (by omega) (off := 39) (tgt := 59) (by rw [q20_1]; rfl) (by decide) ?_
        refine ex_aload_n (pc := 59) dX6_shape_59 rfl ?_
        refine ex_getfield (pc := 60) dX6_shape_60 fk_X6_158 h1_h (by rfl) ?_
        refine ex_iload_n (pc := 63) dX6_shape_63 rfl ?_
        refine ex_iaload (pc := 64) dX6_shape_64 h1_hU (by omega) (by omega) ?_
        have h9 := hshh k.toNat (by omega)
        rw [h9.2.1]
        exact ex_iret (pc := 65) dX6_shape_65 ⟨by unfold opShape; rw [if_pos (by omega)]; rw [if_neg q20_0, if_pos q20_1], hS9, f1⟩ rfl (Nat.le_refl _)
      by_cases q20_2 : a = 2
      · refine ex_tableIn (pc := 20) dX6_shape_20 (by omega) (by omega) (off := 46) (tgt := 66) (by rw [q20_2]; rfl) (by decide) ?_
        refine ex_aload_n (pc := 66) dX6_shape_66 rfl ?_
        refine ex_getfield (pc := 67) dX6_shape_67 fk_X6_161 h1_h (by rfl) ?_
        refine ex_iload_n (pc := 70) dX6_shape_70 rfl ?_
        refine ex_iaload (pc := 71) dX6_shape_71 h1_hV (by omega) (by omega) ?_
        have h9 := hshh k.toNat (by omega)
        rw [h9.2.2]
        exact ex_iret (pc := 72) dX6_shape_72 ⟨by unfold opShape; rw [if_pos (by omega)]; rw [if_neg q20_0, if_neg q20_1, if_pos q20_2], hS9, f1⟩ rfl (Nat.le_refl _)
      by_cases q20_3 : a = 3
      · refine ex_tableIn (pc := 20) dX6_shape_20 (by omega) (by omega) (off := 53) (tgt := 73) (by rw [q20_3]; rfl) (by decide) ?_
        refine ex_aload_n (pc := 73) dX6_shape_73 rfl ?_
        refine ex_iload_n (pc := 74) dX6_shape_74 rfl ?_
        refine ex_callVI (as := [_]) (pc := 75) dX6_shape_75 (tX5_gainOf s1 H1.P.len) lk_X6_164 ykX5_gainOf vkX5_gainOf h1_h rfl rfl rfl (Nat.le_of_ble_eq_true rfl) ⟨by decide, by decide⟩ ⟨Nat.le_refl _, Nat.le_refl _⟩ (fun i75 w2 r75 p75 => ?_)
        obtain ⟨e75, p75⟩ := p75
        rw [e75]
        rw [if_pos (by omega)] at p75
        have hgr := gnS_rng (mo := s.2.1) (pr := Al s.1) hlen ((shL s.1 s.2.1 (Al s.1)).getD k.toNat 0)
        refine ex_bipush (pc := 78) dX6_shape_78 (by decide) ?_
        refine ex_iadd (pc := 80) dX6_shape_80 (by unfold inI; omega) ?_
        exact ex_iret (pc := 81) dX6_shape_81 ⟨by unfold opShape; rw [if_pos (by omega)]; rw [if_neg q20_0, if_neg q20_1, if_neg q20_2, if_pos q20_3, p75], hS9, f1⟩ rfl (Nat.le_refl _)
      refine ex_tableOut (pc := 20) dX6_shape_20 (by omega) (tgt := 82) (by decide) ?_
      refine ex_iconst (pc := 82) dX6_shape_82 (by decide) ?_
      exact ex_iret (pc := 83) dX6_shape_83 ⟨by unfold opShape; rw [if_pos (by omega)]; rw [if_neg q20_0, if_neg q20_1, if_neg q20_2, if_neg q20_3], hS9, f1⟩ rfl (Nat.le_refl _)
    · refine ex_iconst (pc := 17) dX6_shape_17 (by decide) ?_
      exact ex_iret (pc := 18) dX6_shape_18 ⟨by unfold opShape; rw [if_neg (by omega)], hS9, f1⟩ rfl (Nat.le_refl _)

abbrev mX6_place : xC := mkC yX6_place cX6_place 3 (some .int) 7 700 0 0
set_option maxHeartbeats 4000000 in
set_option maxRecDepth 100000 in
theorem tX6_place {n : Nat} {w : xW} {s : St} (hS : ClsS w s) {a j : Int} : Ctr mX6_place [xr 0, xi a, xi j] n w (pI (fun v w2 => v = opPlace s a j ∧ ClsS w2 s ∧ FrO w w2)) := by
  refine Ctr.of ykX6_place rfl (Nat.le_of_ble_eq_true rfl) okI (fun hin hW => ?_)
  have hS0 := hS
  obtain ⟨hv, wk, bk, bc, bg, H, hc⟩ := hS
  have hlen := H.P.len
  show Ex _ _ 0 0 n w 0 [some (xr 0), some (xi a), some (xi j)] []
  refine ex_iload_n (pc := 0) dX6_place_0 rfl ?_
  refine ex_iconst (pc := 1) dX6_place_1 (by decide) ?_
  refine ex_icmp_lt (pc := 2) dX6_place_2 (tgt := 21) (by decide) (fun c2 => ?_) (fun c2 => ?_)
  · refine ex_iconst (pc := 21) dX6_place_21 (by decide) ?_
    exact ex_iret (pc := 22) dX6_place_22 ⟨by unfold opPlace; rw [if_pos (by omega)], hS0, fun _ _ => rfl⟩ rfl (Nat.le_refl _)
  · refine ex_iload_n (pc := 5) dX6_place_5 rfl ?_
    refine ex_aload_n (pc := 6) dX6_place_6 rfl ?_
    refine ex_getfield (pc := 7) dX6_place_7 fk_X6_19 H.o (by rfl) ?_
    refine ex_callVI (as := []) (pc := 10) dX6_place_10 (lX2_allNotes H.P) lk_X6_167 ykX2_allNotes vkX2_allNotes H.p rfl rfl rfl (Nat.le_of_ble_eq_true rfl) ⟨by decide, by decide⟩ ⟨Nat.le_refl _, Nat.le_refl _⟩ (fun i10 w1 r10 p10 => ?_)
    obtain ⟨e10, p10⟩ := p10
    rw [e10]
    have p10 : i10 = (Al s.1 : Int) := p10
    refine ex_icmp_gt (pc := 13) dX6_place_13 (tgt := 21) (by decide) (fun c13 => ?_) (fun c13 => ?_)
    · refine ex_iconst (pc := 21) dX6_place_21 (by decide) ?_
      exact ex_iret (pc := 22) dX6_place_22 ⟨by unfold opPlace; rw [if_pos (by omega)], hS0, fun _ _ => rfl⟩ rfl (Nat.le_refl _)
    · refine ex_iload_n (pc := 16) dX6_place_16 rfl ?_
      refine ex_iconst (pc := 17) dX6_place_17 (by decide) ?_
      refine ex_icmp_ge (pc := 18) dX6_place_18 (tgt := 23) (by decide) (fun c18 => ?_) (fun c18 => ?_)
      · refine ex_iload_n (pc := 23) dX6_place_23 rfl ?_
        refine ex_iconst (pc := 24) dX6_place_24 (by decide) ?_
        refine ex_icmp_ne (pc := 25) dX6_place_25 (tgt := 39) (by decide) (fun c25 => ?_) (fun c25 => ?_)
        · refine ex_aload_n (pc := 39) dX6_place_39 rfl ?_
          refine ex_callVR (as := []) (pc := 40) dX6_place_40 (tX6_wholeSearch hS0) lk_X6_141 ykX6_wholeSearch vkX6_wholeSearch H.o rfl rfl rfl (Nat.le_of_ble_eq_true rfl) ⟨by decide, by decide⟩ ⟨Nat.le_refl _, Nat.le_refl _⟩ (fun i40 w1 p40 => ?_)
          obtain ⟨e_r, s1, hS1, f1⟩ := p40
          subst e_r
          have hS9 := hS1
          obtain ⟨hv1, wk1, bk1, bc1, bg1, H1, hc1⟩ := hS1
          have h1_o := H1.o
          have h1_p := H1.p
          have h1_u := H1.u
          have h1_k := H1.k
          have h1_h := s1.q
          refine ex_iload_n (pc := 43) dX6_place_43 rfl ?_
          refine ex_iload_n (pc := 44) dX6_place_44 rfl ?_
          obtain ⟨m, hm⟩ : ∃ m : Nat, a = m := ⟨a.toNat, by omega⟩
          subst hm
          have hkm : ((m : Int)).toNat = m := by omega
          obtain ⟨l, hl⟩ : ∃ l : Nat, j = l := ⟨j.toNat, by omega⟩
          subst hl
          have hkl : ((l : Int)).toNat = l := by omega
          refine ex_callVI (as := [_, _]) (pc := 45) dX6_place_45 (tX5_placeOf s1 (set := m) (j := l)) lk_X6_174 ykX5_placeOf vkX5_placeOf h1_h rfl rfl rfl (Nat.le_of_ble_eq_true rfl) ⟨by decide, by decide⟩ ⟨Nat.le_refl _, Nat.le_refl _⟩ (fun i45 w2 r45 p45 => ?_)
          obtain ⟨e45, p45⟩ := p45
          rw [e45]
          exact ex_iret (pc := 48) dX6_place_48 ⟨by unfold opPlace; rw [if_neg (by omega), if_neg (by omega), p45, hkm, hkl], hS9, f1⟩ rfl (Nat.le_refl _)
        · refine ex_aload_n (pc := 28) dX6_place_28 rfl ?_
          refine ex_callVR (as := []) (pc := 29) dX6_place_29 (tX6_wholeSearch hS0) lk_X6_141 ykX6_wholeSearch vkX6_wholeSearch H.o rfl rfl rfl (Nat.le_of_ble_eq_true rfl) ⟨by decide, by decide⟩ ⟨Nat.le_refl _, Nat.le_refl _⟩ (fun i29 w1 p29 => ?_)
          obtain ⟨e_r, s1, hS1, f1⟩ := p29
          subst e_r
          have hS9 := hS1
          obtain ⟨hv1, wk1, bk1, bc1, bg1, H1, hc1⟩ := hS1
          have h1_o := H1.o
          have h1_p := H1.p
          have h1_u := H1.u
          have h1_k := H1.k
          have h1_h := s1.q
          refine ex_iload_n (pc := 32) dX6_place_32 rfl ?_
          obtain ⟨m, hm⟩ : ∃ m : Nat, a = m := ⟨a.toNat, by omega⟩
          subst hm
          have hkm : ((m : Int)).toNat = m := by omega
          refine ex_callVI (as := [_]) (pc := 33) dX6_place_33 (tX5_placesOf s1 (set := m)) lk_X6_171 ykX5_placesOf vkX5_placesOf h1_h rfl rfl rfl (Nat.le_of_ble_eq_true rfl) ⟨by decide, by decide⟩ ⟨Nat.le_refl _, Nat.le_refl _⟩ (fun i33 w2 r33 p33 => ?_)
          obtain ⟨e33, p33⟩ := p33
          rw [e33]
          refine ex_goto (pc := 36) dX6_place_36 (tgt := 48) (by decide) ?_
          exact ex_iret (pc := 48) dX6_place_48 ⟨by unfold opPlace; rw [if_neg (by omega), if_pos (by omega), p33, hkm], hS9, f1⟩ rfl (Nat.le_refl _)
      · refine ex_iconst (pc := 21) dX6_place_21 (by decide) ?_
        exact ex_iret (pc := 22) dX6_place_22 ⟨by unfold opPlace; rw [if_pos (by omega)], hS0, fun _ _ => rfl⟩ rfl (Nat.le_refl _)

abbrev mX6_best : xC := mkC yX6_best cX6_best 3 (some .int) 8 800 0 0
set_option maxHeartbeats 4000000 in
set_option maxRecDepth 100000 in
theorem tX6_best {n : Nat} {w : xW} {s : St} (hS : ClsS w s) {a : Int} : Ctr mX6_best [xr 0, xi a] n w (pI (fun v w2 => v = opBest s a ∧ ClsS w2 s ∧ FrO w w2)) := by
  refine Ctr.of ykX6_best rfl (Nat.le_of_ble_eq_true rfl) okI (fun hin hW => ?_)
  have hS0 := hS
  obtain ⟨hv, wk, bk, bc, bg, H, hc⟩ := hS
  have hlen := H.P.len
  show Ex _ _ 0 0 n w 0 [some (xr 0), some (xi a), none] []
  refine ex_iload_n (pc := 0) dX6_best_0 rfl ?_
  refine ex_if_lt (pc := 1) dX6_best_1 (tgt := 9) (by decide) (fun c1 => ?_) (fun c1 => ?_)
  · refine ex_iconst (pc := 9) dX6_best_9 (by decide) ?_
    exact ex_iret (pc := 10) dX6_best_10 ⟨by unfold opBest; rw [if_pos (by omega)], hS0, fun _ _ => rfl⟩ rfl (Nat.le_refl _)
  · refine ex_iload_n (pc := 4) dX6_best_4 rfl ?_
    refine ex_iconst (pc := 5) dX6_best_5 (by decide) ?_
    refine ex_icmp_le (pc := 6) dX6_best_6 (tgt := 11) (by decide) (fun c6 => ?_) (fun c6 => ?_)
    · refine ex_aload_n (pc := 11) dX6_best_11 rfl ?_
      refine ex_callVR (as := []) (pc := 12) dX6_best_12 (tX6_wholeSearch hS0) lk_X6_141 ykX6_wholeSearch vkX6_wholeSearch H.o rfl rfl rfl (Nat.le_of_ble_eq_true rfl) ⟨by decide, by decide⟩ ⟨Nat.le_refl _, Nat.le_refl _⟩ (fun i12 w1 p12 => ?_)
      obtain ⟨e_r, s1, hS1, f1⟩ := p12
      subst e_r
      have hS9 := hS1
      obtain ⟨hv1, wk1, bk1, bc1, bg1, H1, hc1⟩ := hS1
      have h1_o := H1.o
      have h1_p := H1.p
      have h1_u := H1.u
      have h1_k := H1.k
      have h1_h := s1.q
      refine ex_callVI (as := []) (pc := 15) dX6_best_15 (tX5_bestShape s1 H1.P.len) lk_X6_177 ykX5_bestShape vkX5_bestShape h1_h rfl rfl rfl (Nat.le_of_ble_eq_true rfl) ⟨by decide, by decide⟩ ⟨Nat.le_refl _, Nat.le_refl _⟩ (fun i15 w2 r15 p15 => ?_)
      obtain ⟨e15, p15⟩ := p15
      rw [e15]
      have hbr := bestS_rng s.1 s.2.1 (Al s.1)
      refine ex_istore_n (L2 := [_, _, _]) (pc := 18) dX6_best_18 rfl (Nat.le_of_ble_eq_true rfl) rfl ?_
      refine ex_iload_n (pc := 19) dX6_best_19 rfl ?_
      refine ex_if_ge (pc := 20) dX6_best_20 (tgt := 26) (by decide) (fun c20 => ?_) (fun c20 => ?_)
      · refine ex_iload_n (pc := 26) dX6_best_26 rfl ?_
        refine ex_if_ne (pc := 27) dX6_best_27 (tgt := 34) (by decide) (fun c27 => ?_) (fun c27 => ?_)
        · refine ex_aload_n (pc := 34) dX6_best_34 rfl ?_
          refine ex_callVR (as := []) (pc := 35) dX6_best_35 (tX6_wholeSearch hS9) lk_X6_141 ykX6_wholeSearch vkX6_wholeSearch h1_o rfl rfl rfl (Nat.le_of_ble_eq_true rfl) ⟨by decide, by decide⟩ ⟨Nat.le_refl _, Nat.le_refl _⟩ (fun i35 w2 p35 => ?_)
          obtain ⟨e_r2, s2, hS2, f2⟩ := p35
          subst e_r2
          have hS8 := hS2
          obtain ⟨hv2, wk2, bk2, bc2, bg2, H2, hc2⟩ := hS2
          have h2_o := H2.o
          have h2_p := H2.p
          have h2_u := H2.u
          have h2_k := H2.k
          have h2_h := s2.q
          refine ex_iload_n (pc := 38) dX6_best_38 rfl ?_
          refine ex_callVI (as := [_]) (pc := 39) dX6_best_39 (tX5_gainOf s2 hlen) lk_X6_164 ykX5_gainOf vkX5_gainOf h2_h rfl rfl rfl (Nat.le_of_ble_eq_true rfl) ⟨by decide, by decide⟩ ⟨Nat.le_refl _, Nat.le_refl _⟩ (fun i39 w3 r39 p39 => ?_)
          obtain ⟨e39, p39⟩ := p39
          rw [e39]
          rw [if_pos (by omega)] at p39
          have hgr := gnS_rng (mo := s.2.1) (pr := Al s.1) hlen ((shL s.1 s.2.1 (Al s.1)).getD i15.toNat 0)
          refine ex_bipush (pc := 42) dX6_best_42 (by decide) ?_
          refine ex_iadd (pc := 44) dX6_best_44 (by unfold inI; omega) ?_
          exact ex_iret (pc := 45) dX6_best_45 ⟨by unfold opBest; rw [if_neg (by omega), if_neg (by omega), if_neg (by omega), p39, p15]; rfl, hS8, fun z hz => (f2 z hz).trans (f1 z hz)⟩ rfl (Nat.le_refl _)
        · refine ex_iload_n (pc := 30) dX6_best_30 rfl ?_
          refine ex_goto (pc := 31) dX6_best_31 (tgt := 45) (by decide) ?_
          exact ex_iret (pc := 45) dX6_best_45 ⟨by unfold opBest; rw [if_neg (by omega), if_neg (by omega), if_pos (by omega)]; exact p15, hS9, f1⟩ rfl (Nat.le_refl _)
      · refine ex_bipush (pc := 23) dX6_best_23 (by decide) ?_
        exact ex_iret (pc := 25) dX6_best_25 ⟨by unfold opBest; rw [if_neg (by omega), if_pos (by omega)], hS9, f1⟩ rfl (Nat.le_refl _)
    · refine ex_iconst (pc := 9) dX6_best_9 (by decide) ?_
      exact ex_iret (pc := 10) dX6_best_10 ⟨by unfold opBest; rw [if_pos (by omega)], hS0, fun _ _ => rfl⟩ rfl (Nat.le_refl _)

