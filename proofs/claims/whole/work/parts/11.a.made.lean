abbrev dfX0 : List xV := [xn, xi 0]
theorem dfI_X0 : ∀ v ∈ dfX0, inV v := List.forall_mem_cons.mpr ⟨trivial, List.forall_mem_cons.mpr ⟨by show inI 0; unfold inI; omega, fun _ h => absurd h List.not_mem_nil⟩⟩
theorem dfV_X0 : ∀ q, q < 2 → defaultValue (tyX0 q) = vp_V (dfX0.map (rv 0)) q := by
  intro q hq
  match q, hq with
  | 0, _ => rfl
  | 1, _ => rfl
abbrev dfX1 : List xV := [xn, xn, xn, xi 0, xi 0, xi 0]
theorem dfI_X1 : ∀ v ∈ dfX1, inV v := List.forall_mem_cons.mpr ⟨trivial, List.forall_mem_cons.mpr ⟨trivial, List.forall_mem_cons.mpr ⟨trivial, List.forall_mem_cons.mpr ⟨by show inI 0; unfold inI; omega, List.forall_mem_cons.mpr ⟨by show inI 0; unfold inI; omega, List.forall_mem_cons.mpr ⟨by show inI 0; unfold inI; omega, fun _ h => absurd h List.not_mem_nil⟩⟩⟩⟩⟩⟩
theorem dfV_X1 : ∀ q, q < 6 → defaultValue (tyX1 q) = vp_V (dfX1.map (rv 0)) q := by
  intro q hq
  match q, hq with
  | 0, _ => rfl
  | 1, _ => rfl
  | 2, _ => rfl
  | 3, _ => rfl
  | 4, _ => rfl
  | 5, _ => rfl
abbrev dfX2 : List xV := [xn, xi 0, xi 0]
theorem dfI_X2 : ∀ v ∈ dfX2, inV v := List.forall_mem_cons.mpr ⟨trivial, List.forall_mem_cons.mpr ⟨by show inI 0; unfold inI; omega, List.forall_mem_cons.mpr ⟨by show inI 0; unfold inI; omega, fun _ h => absurd h List.not_mem_nil⟩⟩⟩
theorem dfV_X2 : ∀ q, q < 3 → defaultValue (tyX2 q) = vp_V (dfX2.map (rv 0)) q := by
  intro q hq
  match q, hq with
  | 0, _ => rfl
  | 1, _ => rfl
  | 2, _ => rfl
abbrev dfX3 : List xV := [xn, xi 0]
theorem dfI_X3 : ∀ v ∈ dfX3, inV v := List.forall_mem_cons.mpr ⟨trivial, List.forall_mem_cons.mpr ⟨by show inI 0; unfold inI; omega, fun _ h => absurd h List.not_mem_nil⟩⟩
theorem dfV_X3 : ∀ q, q < 2 → defaultValue (tyX3 q) = vp_V (dfX3.map (rv 0)) q := by
  intro q hq
  match q, hq with
  | 0, _ => rfl
  | 1, _ => rfl
abbrev dfX4 : List xV := [xn, xi 0, xi 0]
theorem dfI_X4 : ∀ v ∈ dfX4, inV v := List.forall_mem_cons.mpr ⟨trivial, List.forall_mem_cons.mpr ⟨by show inI 0; unfold inI; omega, List.forall_mem_cons.mpr ⟨by show inI 0; unfold inI; omega, fun _ h => absurd h List.not_mem_nil⟩⟩⟩
theorem dfV_X4 : ∀ q, q < 3 → defaultValue (tyX4 q) = vp_V (dfX4.map (rv 0)) q := by
  intro q hq
  match q, hq with
  | 0, _ => rfl
  | 1, _ => rfl
  | 2, _ => rfl
abbrev dfX5 : List xV := [xn, xn, xn, xn, xn, xi 0, xi 0, xi 0, xn, xn, xn, xi 0]
theorem dfI_X5 : ∀ v ∈ dfX5, inV v := List.forall_mem_cons.mpr ⟨trivial, List.forall_mem_cons.mpr ⟨trivial, List.forall_mem_cons.mpr ⟨trivial, List.forall_mem_cons.mpr ⟨trivial, List.forall_mem_cons.mpr ⟨trivial, List.forall_mem_cons.mpr ⟨by show inI 0; unfold inI; omega, List.forall_mem_cons.mpr ⟨by show inI 0; unfold inI; omega, List.forall_mem_cons.mpr ⟨by show inI 0; unfold inI; omega, List.forall_mem_cons.mpr ⟨trivial, List.forall_mem_cons.mpr ⟨trivial, List.forall_mem_cons.mpr ⟨trivial, List.forall_mem_cons.mpr ⟨by show inI 0; unfold inI; omega, fun _ h => absurd h List.not_mem_nil⟩⟩⟩⟩⟩⟩⟩⟩⟩⟩⟩⟩
theorem dfV_X5 : ∀ q, q < 12 → defaultValue (tyX5 q) = vp_V (dfX5.map (rv 0)) q := by
  intro q hq
  match q, hq with
  | 0, _ => rfl
  | 1, _ => rfl
  | 2, _ => rfl
  | 3, _ => rfl
  | 4, _ => rfl
  | 5, _ => rfl
  | 6, _ => rfl
  | 7, _ => rfl
  | 8, _ => rfl
  | 9, _ => rfl
  | 10, _ => rfl
  | 11, _ => rfl
abbrev dfX6 : List xV := [xn, xn, xn, xn, xn, xn, xn, xn, xn, xi 0, xi 0, xi 0, xi 0]
theorem dfI_X6 : ∀ v ∈ dfX6, inV v := List.forall_mem_cons.mpr ⟨trivial, List.forall_mem_cons.mpr ⟨trivial, List.forall_mem_cons.mpr ⟨trivial, List.forall_mem_cons.mpr ⟨trivial, List.forall_mem_cons.mpr ⟨trivial, List.forall_mem_cons.mpr ⟨trivial, List.forall_mem_cons.mpr ⟨trivial, List.forall_mem_cons.mpr ⟨trivial, List.forall_mem_cons.mpr ⟨trivial, List.forall_mem_cons.mpr ⟨by show inI 0; unfold inI; omega, List.forall_mem_cons.mpr ⟨by show inI 0; unfold inI; omega, List.forall_mem_cons.mpr ⟨by show inI 0; unfold inI; omega, List.forall_mem_cons.mpr ⟨by show inI 0; unfold inI; omega, fun _ h => absurd h List.not_mem_nil⟩⟩⟩⟩⟩⟩⟩⟩⟩⟩⟩⟩⟩
theorem dfV_X6 : ∀ q, q < 13 → defaultValue (tyX6 q) = vp_V (dfX6.map (rv 0)) q := by
  intro q hq
  match q, hq with
  | 0, _ => rfl
  | 1, _ => rfl
  | 2, _ => rfl
  | 3, _ => rfl
  | 4, _ => rfl
  | 5, _ => rfl
  | 6, _ => rfl
  | 7, _ => rfl
  | 8, _ => rfl
  | 9, _ => rfl
  | 10, _ => rfl
  | 11, _ => rfl
  | 12, _ => rfl
abbrev dfX7 : List xV := [xn, xn, xn, xn, xi 0, xn, xi 0, xn, xi 0, xi 0, xn, xn, xi 0, xi 0, xi 0, xi 0, xn, xi 0, xi 0, xi 0, xi 0, xi 0, xn, xi 0, xi 0, xn, xn]
theorem dfI_X7 : ∀ v ∈ dfX7, inV v := List.forall_mem_cons.mpr ⟨trivial, List.forall_mem_cons.mpr ⟨trivial, List.forall_mem_cons.mpr ⟨trivial, List.forall_mem_cons.mpr ⟨trivial, List.forall_mem_cons.mpr ⟨by show inI 0; unfold inI; omega, List.forall_mem_cons.mpr ⟨trivial, List.forall_mem_cons.mpr ⟨by show inI 0; unfold inI; omega, List.forall_mem_cons.mpr ⟨trivial, List.forall_mem_cons.mpr ⟨by show inI 0; unfold inI; omega, List.forall_mem_cons.mpr ⟨by show inI 0; unfold inI; omega, List.forall_mem_cons.mpr ⟨trivial, List.forall_mem_cons.mpr ⟨trivial, List.forall_mem_cons.mpr ⟨by show inI 0; unfold inI; omega, List.forall_mem_cons.mpr ⟨by show inI 0; unfold inI; omega, List.forall_mem_cons.mpr ⟨by show inI 0; unfold inI; omega, List.forall_mem_cons.mpr ⟨by show inI 0; unfold inI; omega, List.forall_mem_cons.mpr ⟨trivial, List.forall_mem_cons.mpr ⟨by show inI 0; unfold inI; omega, List.forall_mem_cons.mpr ⟨by show inI 0; unfold inI; omega, List.forall_mem_cons.mpr ⟨by show inI 0; unfold inI; omega, List.forall_mem_cons.mpr ⟨by show inI 0; unfold inI; omega, List.forall_mem_cons.mpr ⟨by show inI 0; unfold inI; omega, List.forall_mem_cons.mpr ⟨trivial, List.forall_mem_cons.mpr ⟨by show inI 0; unfold inI; omega, List.forall_mem_cons.mpr ⟨by show inI 0; unfold inI; omega, List.forall_mem_cons.mpr ⟨trivial, List.forall_mem_cons.mpr ⟨trivial, fun _ h => absurd h List.not_mem_nil⟩⟩⟩⟩⟩⟩⟩⟩⟩⟩⟩⟩⟩⟩⟩⟩⟩⟩⟩⟩⟩⟩⟩⟩⟩⟩⟩
theorem dfV_X7 : ∀ q, q < 27 → defaultValue (tyX7 q) = vp_V (dfX7.map (rv 0)) q := by
  intro q hq
  match q, hq with
  | 0, _ => rfl
  | 1, _ => rfl
  | 2, _ => rfl
  | 3, _ => rfl
  | 4, _ => rfl
  | 5, _ => rfl
  | 6, _ => rfl
  | 7, _ => rfl
  | 8, _ => rfl
  | 9, _ => rfl
  | 10, _ => rfl
  | 11, _ => rfl
  | 12, _ => rfl
  | 13, _ => rfl
  | 14, _ => rfl
  | 15, _ => rfl
  | 16, _ => rfl
  | 17, _ => rfl
  | 18, _ => rfl
  | 19, _ => rfl
  | 20, _ => rfl
  | 21, _ => rfl
  | 22, _ => rfl
  | 23, _ => rfl
  | 24, _ => rfl
  | 25, _ => rfl
  | 26, _ => rfl
  | q + 27, h => exact absurd h (by omega)
section RULES
variable {X : xC} {Post : xP} {k j n : Nat} {w : xW} {pc : Nat} {L : List (Option xV)} {st : List xV}
theorem ex_num {k2 j2 n2 : Nat} (h1 : k = k2) (h2 : j = j2) (h3 : n = n2) (kk : Ex X Post k2 j2 n2 w pc L st) : Ex X Post k j n w pc L st := by
  subst h1; subst h2; subst h3; exact kk
/-- of an array of references only what is within counts -/
theorem ex_extQ {r N : Nat} {g g2 : Nat → Option Nat} (hw : w r = xQ N g) (hg : ∀ i, i < N → g i = g2 i) (kk : Ex X Post k j n (va_up w r (xQ N g2)) pc L st) : Ex X Post k j n w pc L st := by
  intro p l e R s m args below meth c H locs Q B D ls hC hR hk hS hL hst
  have hr : r < n := hR.lt (by rw [hw]; intro q; cases q)
  obtain ⟨hz2, ka, hP, h4⟩ := id hR
  refine kk p l e R s m args below meth c H locs Q B D ls hC (Rel.set (ka := ka) hr hz2 ?_ h4 ?_) hk hS hL hst
  · rw [wsOf_set hr]
    intro i q hq
    obtain ⟨hi, rfl⟩ := wsOf_at hq
    by_cases e9 : i = r
    · subst e9
      have h5 := hP i _ (wsOf_get hi)
      rw [hw] at h5
      rw [up_s]
      have h6 : H[B + i]? = some (arrV (ka i) N (fun j => va_rf ((g j).map (fun k => B + k)))) := h5
      show H[B + i]? = some (arrV (ka i) N (fun j => va_rf ((g2 j).map (fun k => B + k))))
      rw [h6]
      have e8 : (fun j : Fin N => va_rf ((g j.val).map (fun k => B + k))) = (fun j : Fin N => va_rf ((g2 j.val).map (fun k => B + k))) := by
        funext j
        rw [hg j.val j.isLt]
      unfold arrV
      rw [e8]
    · rw [up_n e9]; exact hP i _ (wsOf_get hi)
  · have h6 := h4 r hr
    rw [hw] at h6
    exact h6
end RULES
abbrev mX0_init : xC := mkC yX0_init cX0_init 1 none 1 100 1 448
set_option maxHeartbeats 4000000 in
set_option maxRecDepth 100000 in
theorem tX0_init {w : xW} {q : Nat} (h_q : w q = xO 0 dfX0) : Ctr mX0_init [xr q] (q + 1) w (pV (fun w2 => w2 q = xO 0 [xr (q + 1), xi 0] ∧ w2 (q + 1) = xA 448 (fun _ => 0) ∧ ∀ z, z < q → w2 z = w z)) := by
  refine Ctr.of ykX0_init rfl (Nat.le_of_ble_eq_true rfl) okV (fun hin hW => ?_)
  show Ex _ _ 0 0 (q + 1) w 0 [some (xr q)] []
  refine ex_aload_n (pc := 0) dX0_init_0 rfl ?_
  refine ex_obj (pc := 1) dX0_init_1 wl_X0_3 (by decide) (Nat.le_of_ble_eq_true rfl) ?_
  refine ex_aload_n (pc := 4) dX0_init_4 rfl ?_
  refine ex_sipush (pc := 5) dX0_init_5 (by decide) ?_
  refine ex_newarr (pc := 8) dX0_init_8 (N := 448) rfl (by decide) (Nat.le_of_ble_eq_true rfl) (Nat.le_of_ble_eq_true rfl) ?_
  refine ex_up (fun w1 e_w1 => ?_)
  have h1_q := ((congrFun e_w1 q).trans (up_n (by first | assumption | decide | omega))).trans h_q
  have h1_a := (congrFun e_w1 (q + 1)).trans up_s
  refine ex_putF (pc := 10) dX0_init_10 fk_X0_9 (ty := tyX0 0) (fun _ _ _ h9 => by cases h9; exact ⟨tyX0_ok 0 (by decide), rfl, rfl⟩) (fun _ _ _ h9 h8 => by cases h9; exact wk_X0_9) h1_q (Nat.le_of_ble_eq_true rfl) (fun _ => rfl) (fun _ => rfl) rfl ?_
  refine ex_up (fun w2 e_w2 => ?_)
  have h2_q := (congrFun e_w2 q).trans up_s
  have h2_a := ((congrFun e_w2 (q + 1)).trans (up_n (by first | assumption | decide | omega))).trans h1_a
  exact ex_vret (pc := 13) dX0_init_13 ⟨h2_q, h2_a, fun z hz => by rw [e_w2, up_n (by omega)]; rw [e_w1, up_n (by omega)]⟩ rfl (Nat.le_refl _)

abbrev mX4_init : xC := mkC yX4_init cX4_init 1 none 1 100 1 200
set_option maxHeartbeats 4000000 in
set_option maxRecDepth 100000 in
theorem tX4_init {w : xW} {q : Nat} (h_q : w q = xO 4 dfX4) : Ctr mX4_init [xr q] (q + 1) w (pV (fun w2 => ScAt w2 q (q + 1) [] 0 ∧ ∀ z, z < q → w2 z = w z)) := by
  refine Ctr.of ykX4_init rfl (Nat.le_of_ble_eq_true rfl) okV (fun hin hW => ?_)
  show Ex _ _ 0 0 (q + 1) w 0 [some (xr q)] []
  refine ex_aload_n (pc := 0) dX4_init_0 rfl ?_
  refine ex_obj (pc := 1) dX4_init_1 wl_X4_3 (by decide) (Nat.le_of_ble_eq_true rfl) ?_
  refine ex_aload_n (pc := 4) dX4_init_4 rfl ?_
  refine ex_sipush (pc := 5) dX4_init_5 (by decide) ?_
  refine ex_newarr (pc := 8) dX4_init_8 (N := 200) rfl (by decide) (Nat.le_of_ble_eq_true rfl) (Nat.le_of_ble_eq_true rfl) ?_
  refine ex_up (fun w1 e_w1 => ?_)
  have h1_q := ((congrFun e_w1 q).trans (up_n (by first | assumption | decide | omega))).trans h_q
  have h1_a := (congrFun e_w1 (q + 1)).trans up_s
  refine ex_putF (pc := 10) dX4_init_10 fk_X4_9 (ty := tyX4 0) (fun _ _ _ h9 => by cases h9; exact ⟨tyX4_ok 0 (by decide), rfl, rfl⟩) (fun _ _ _ h9 h8 => by cases h9; exact wk_X4_9) h1_q (Nat.le_of_ble_eq_true rfl) (fun _ => rfl) (fun _ => rfl) rfl ?_
  refine ex_up (fun w2 e_w2 => ?_)
  have h2_q := (congrFun e_w2 q).trans up_s
  have h2_a := ((congrFun e_w2 (q + 1)).trans (up_n (by first | assumption | decide | omega))).trans h1_a
  exact ex_vret (pc := 13) dX4_init_13 ⟨⟨_, h2_q, h2_a, fun i hi => absurd hi (Nat.not_lt_zero _), Nat.zero_le _⟩, fun z hz => by rw [e_w2, up_n (by omega)]; rw [e_w1, up_n (by omega)]⟩ rfl (Nat.le_refl _)

abbrev mX1_init : xC := mkC yX1_init cX1_init 1 none 1 100 3 42
set_option maxHeartbeats 4000000 in
set_option maxRecDepth 100000 in
theorem tX1_init {w : xW} {q : Nat} (h_q : w q = xO 1 dfX1) : Ctr mX1_init [xr q] (q + 1) w (pV (fun w2 => PtX w2 q ∧ ∀ z, z < q → w2 z = w z)) := by
  refine Ctr.of ykX1_init rfl (Nat.le_of_ble_eq_true rfl) okV (fun hin hW => ?_)
  show Ex _ _ 0 0 (q + 1) w 0 [some (xr q)] []
  refine ex_aload_n (pc := 0) dX1_init_0 rfl ?_
  refine ex_obj (pc := 1) dX1_init_1 wl_X1_3 (by decide) (Nat.le_of_ble_eq_true rfl) ?_
  refine ex_aload_n (pc := 4) dX1_init_4 rfl ?_
  refine ex_bipush (pc := 5) dX1_init_5 (by decide) ?_
  refine ex_newarr (pc := 7) dX1_init_7 (N := 14) rfl (by decide) (Nat.le_of_ble_eq_true rfl) (Nat.le_of_ble_eq_true rfl) ?_
  refine ex_up (fun w1 e_w1 => ?_)
  have h1_q := ((congrFun e_w1 q).trans (up_n (by first | assumption | decide | omega))).trans h_q
  have h1_a := (congrFun e_w1 (q + 1)).trans up_s
  refine ex_putF (pc := 9) dX1_init_9 fk_X1_9 (ty := tyX1 0) (fun _ _ _ h9 => by cases h9; exact ⟨tyX1_ok 0 (by decide), rfl, rfl⟩) (fun _ _ _ h9 h8 => by cases h9; exact wk_X1_9) h1_q (Nat.le_of_ble_eq_true rfl) (fun _ => rfl) (fun _ => rfl) rfl ?_
  refine ex_up (fun w2 e_w2 => ?_)
  have h2_q := (congrFun e_w2 q).trans up_s
  have h2_a := ((congrFun e_w2 (q + 1)).trans (up_n (by first | assumption | decide | omega))).trans h1_a
  refine ex_aload_n (pc := 12) dX1_init_12 rfl ?_
  refine ex_bipush (pc := 13) dX1_init_13 (by decide) ?_
  refine ex_newarr (pc := 15) dX1_init_15 (N := 14) rfl (by decide) (Nat.le_of_ble_eq_true rfl) (Nat.le_of_ble_eq_true rfl) ?_
  refine ex_up (fun w3 e_w3 => ?_)
  have h3_q := ((congrFun e_w3 q).trans (up_n (by first | assumption | decide | omega))).trans h2_q
  have h3_a := ((congrFun e_w3 (q + 1)).trans (up_n (by first | assumption | decide | omega))).trans h2_a
  have h3_b := (congrFun e_w3 (q + 2)).trans up_s
  refine ex_putF (pc := 17) dX1_init_17 fk_X1_15 (ty := tyX1 1) (fun _ _ _ h9 => by cases h9; exact ⟨tyX1_ok 1 (by decide), rfl, rfl⟩) (fun _ _ _ h9 h8 => by cases h9; exact wk_X1_15) h3_q (Nat.le_of_ble_eq_true rfl) (fun _ => rfl) (fun _ => rfl) rfl ?_
  refine ex_up (fun w4 e_w4 => ?_)
  have h4_q := (congrFun e_w4 q).trans up_s
  have h4_a := ((congrFun e_w4 (q + 1)).trans (up_n (by first | assumption | decide | omega))).trans h3_a
  have h4_b := ((congrFun e_w4 (q + 2)).trans (up_n (by first | assumption | decide | omega))).trans h3_b
  refine ex_aload_n (pc := 20) dX1_init_20 rfl ?_
  refine ex_bipush (pc := 21) dX1_init_21 (by decide) ?_
  refine ex_newarr (pc := 23) dX1_init_23 (N := 14) rfl (by decide) (Nat.le_of_ble_eq_true rfl) (Nat.le_of_ble_eq_true rfl) ?_
  refine ex_up (fun w5 e_w5 => ?_)
  have h5_q := ((congrFun e_w5 q).trans (up_n (by first | assumption | decide | omega))).trans h4_q
  have h5_a := ((congrFun e_w5 (q + 1)).trans (up_n (by first | assumption | decide | omega))).trans h4_a
  have h5_b := ((congrFun e_w5 (q + 2)).trans (up_n (by first | assumption | decide | omega))).trans h4_b
  have h5_c := (congrFun e_w5 (q + 3)).trans up_s
  refine ex_putF (pc := 25) dX1_init_25 fk_X1_18 (ty := tyX1 2) (fun _ _ _ h9 => by cases h9; exact ⟨tyX1_ok 2 (by decide), rfl, rfl⟩) (fun _ _ _ h9 h8 => by cases h9; exact wk_X1_18) h5_q (Nat.le_of_ble_eq_true rfl) (fun _ => rfl) (fun _ => rfl) rfl ?_
  refine ex_up (fun w6 e_w6 => ?_)
  have h6_q := (congrFun e_w6 q).trans up_s
  have h6_a := ((congrFun e_w6 (q + 1)).trans (up_n (by first | assumption | decide | omega))).trans h5_a
  have h6_b := ((congrFun e_w6 (q + 2)).trans (up_n (by first | assumption | decide | omega))).trans h5_b
  have h6_c := ((congrFun e_w6 (q + 3)).trans (up_n (by first | assumption | decide | omega))).trans h5_c
  exact ex_vret (pc := 28) dX1_init_28 ⟨⟨0, 0, 0, _, _, _, h6_q, h6_a, h6_b, h6_c⟩, fun z hz => by rw [e_w6, up_n (by omega)]; rw [e_w5, up_n (by omega)]; rw [e_w4, up_n (by omega)]; rw [e_w3, up_n (by omega)]; rw [e_w2, up_n (by omega)]; rw [e_w1, up_n (by omega)]⟩ rfl (Nat.le_refl _)

abbrev mX5_init : xC := mkC yX5_init cX5_init 1 none 1 100 8 3406
set_option maxHeartbeats 4000000 in
set_option maxRecDepth 100000 in
theorem tX5_init {w : xW} {q : Nat} (h_q : w q = xO 5 dfX5) : Ctr mX5_init [xr q] (q + 1) w (pV (fun w2 => SeX w2 q ∧ ∀ z, z < q → w2 z = w z)) := by
  refine Ctr.of ykX5_init rfl (Nat.le_of_ble_eq_true rfl) okV (fun hin hW => ?_)
  show Ex _ _ 0 0 (q + 1) w 0 [some (xr q)] []
  refine ex_aload_n (pc := 0) dX5_init_0 rfl ?_
  refine ex_obj (pc := 1) dX5_init_1 wl_X5_3 (by decide) (Nat.le_of_ble_eq_true rfl) ?_
  refine ex_aload_n (pc := 4) dX5_init_4 rfl ?_
  refine ex_bipush (pc := 5) dX5_init_5 (by decide) ?_
  refine ex_newarr (pc := 7) dX5_init_7 (N := 14) rfl (by decide) (Nat.le_of_ble_eq_true rfl) (Nat.le_of_ble_eq_true rfl) ?_
  refine ex_up (fun w1 e_w1 => ?_)
  have h1_q := ((congrFun e_w1 q).trans (up_n (by first | assumption | decide | omega))).trans h_q
  have h1_a := (congrFun e_w1 (q + 1)).trans up_s
  refine ex_putF (pc := 9) dX5_init_9 fk_X5_9 (ty := tyX5 0) (fun _ _ _ h9 => by cases h9; exact ⟨tyX5_ok 0 (by decide), rfl, rfl⟩) (fun _ _ _ h9 h8 => by cases h9; exact wk_X5_9) h1_q (Nat.le_of_ble_eq_true rfl) (fun _ => rfl) (fun _ => rfl) rfl ?_
  refine ex_up (fun w2 e_w2 => ?_)
  have h2_q := (congrFun e_w2 q).trans up_s
  have h2_a := ((congrFun e_w2 (q + 1)).trans (up_n (by first | assumption | decide | omega))).trans h1_a
  refine ex_aload_n (pc := 12) dX5_init_12 rfl ?_
  refine ex_bipush (pc := 13) dX5_init_13 (by decide) ?_
  refine ex_newarr (pc := 15) dX5_init_15 (N := 14) rfl (by decide) (Nat.le_of_ble_eq_true rfl) (Nat.le_of_ble_eq_true rfl) ?_
  refine ex_up (fun w3 e_w3 => ?_)
  have h3_q := ((congrFun e_w3 q).trans (up_n (by first | assumption | decide | omega))).trans h2_q
  have h3_a := ((congrFun e_w3 (q + 1)).trans (up_n (by first | assumption | decide | omega))).trans h2_a
  have h3_b := (congrFun e_w3 (q + 2)).trans up_s
  refine ex_putF (pc := 17) dX5_init_17 fk_X5_15 (ty := tyX5 1) (fun _ _ _ h9 => by cases h9; exact ⟨tyX5_ok 1 (by decide), rfl, rfl⟩) (fun _ _ _ h9 h8 => by cases h9; exact wk_X5_15) h3_q (Nat.le_of_ble_eq_true rfl) (fun _ => rfl) (fun _ => rfl) rfl ?_
  refine ex_up (fun w4 e_w4 => ?_)
  have h4_q := (congrFun e_w4 q).trans up_s
  have h4_a := ((congrFun e_w4 (q + 1)).trans (up_n (by first | assumption | decide | omega))).trans h3_a
  have h4_b := ((congrFun e_w4 (q + 2)).trans (up_n (by first | assumption | decide | omega))).trans h3_b
  refine ex_aload_n (pc := 20) dX5_init_20 rfl ?_
  refine ex_sipush (pc := 21) dX5_init_21 (by decide) ?_
  refine ex_newarr (pc := 24) dX5_init_24 (N := 240) rfl (by decide) (Nat.le_of_ble_eq_true rfl) (Nat.le_of_ble_eq_true rfl) ?_
  refine ex_up (fun w5 e_w5 => ?_)
  have h5_q := ((congrFun e_w5 q).trans (up_n (by first | assumption | decide | omega))).trans h4_q
  have h5_a := ((congrFun e_w5 (q + 1)).trans (up_n (by first | assumption | decide | omega))).trans h4_a
  have h5_b := ((congrFun e_w5 (q + 2)).trans (up_n (by first | assumption | decide | omega))).trans h4_b
  have h5_c := (congrFun e_w5 (q + 3)).trans up_s
  refine ex_putF (pc := 26) dX5_init_26 fk_X5_18 (ty := tyX5 2) (fun _ _ _ h9 => by cases h9; exact ⟨tyX5_ok 2 (by decide), rfl, rfl⟩) (fun _ _ _ h9 h8 => by cases h9; exact wk_X5_18) h5_q (Nat.le_of_ble_eq_true rfl) (fun _ => rfl) (fun _ => rfl) rfl ?_
  refine ex_up (fun w6 e_w6 => ?_)
  have h6_q := (congrFun e_w6 q).trans up_s
  have h6_a := ((congrFun e_w6 (q + 1)).trans (up_n (by first | assumption | decide | omega))).trans h5_a
  have h6_b := ((congrFun e_w6 (q + 2)).trans (up_n (by first | assumption | decide | omega))).trans h5_b
  have h6_c := ((congrFun e_w6 (q + 3)).trans (up_n (by first | assumption | decide | omega))).trans h5_c
  refine ex_aload_n (pc := 29) dX5_init_29 rfl ?_
  refine ex_sipush (pc := 30) dX5_init_30 (by decide) ?_
  refine ex_newarr (pc := 33) dX5_init_33 (N := 897) rfl (by decide) (Nat.le_of_ble_eq_true rfl) (Nat.le_of_ble_eq_true rfl) ?_
  refine ex_up (fun w7 e_w7 => ?_)
  have h7_q := ((congrFun e_w7 q).trans (up_n (by first | assumption | decide | omega))).trans h6_q
  have h7_a := ((congrFun e_w7 (q + 1)).trans (up_n (by first | assumption | decide | omega))).trans h6_a
  have h7_b := ((congrFun e_w7 (q + 2)).trans (up_n (by first | assumption | decide | omega))).trans h6_b
  have h7_c := ((congrFun e_w7 (q + 3)).trans (up_n (by first | assumption | decide | omega))).trans h6_c
  have h7_d := (congrFun e_w7 (q + 4)).trans up_s
  refine ex_putF (pc := 35) dX5_init_35 fk_X5_21 (ty := tyX5 3) (fun _ _ _ h9 => by cases h9; exact ⟨tyX5_ok 3 (by decide), rfl, rfl⟩) (fun _ _ _ h9 h8 => by cases h9; exact wk_X5_21) h7_q (Nat.le_of_ble_eq_true rfl) (fun _ => rfl) (fun _ => rfl) rfl ?_
  refine ex_up (fun w8 e_w8 => ?_)
  have h8_q := (congrFun e_w8 q).trans up_s
  have h8_a := ((congrFun e_w8 (q + 1)).trans (up_n (by first | assumption | decide | omega))).trans h7_a
  have h8_b := ((congrFun e_w8 (q + 2)).trans (up_n (by first | assumption | decide | omega))).trans h7_b
  have h8_c := ((congrFun e_w8 (q + 3)).trans (up_n (by first | assumption | decide | omega))).trans h7_c
  have h8_d := ((congrFun e_w8 (q + 4)).trans (up_n (by first | assumption | decide | omega))).trans h7_d
  refine ex_aload_n (pc := 38) dX5_init_38 rfl ?_
  refine ex_sipush (pc := 39) dX5_init_39 (by decide) ?_
  refine ex_newarr (pc := 42) dX5_init_42 (N := 897) rfl (by decide) (Nat.le_of_ble_eq_true rfl) (Nat.le_of_ble_eq_true rfl) ?_
  refine ex_up (fun w9 e_w9 => ?_)
  have h9_q := ((congrFun e_w9 q).trans (up_n (by first | assumption | decide | omega))).trans h8_q
  have h9_a := ((congrFun e_w9 (q + 1)).trans (up_n (by first | assumption | decide | omega))).trans h8_a
  have h9_b := ((congrFun e_w9 (q + 2)).trans (up_n (by first | assumption | decide | omega))).trans h8_b
  have h9_c := ((congrFun e_w9 (q + 3)).trans (up_n (by first | assumption | decide | omega))).trans h8_c
  have h9_d := ((congrFun e_w9 (q + 4)).trans (up_n (by first | assumption | decide | omega))).trans h8_d
  have h9_e := (congrFun e_w9 (q + 5)).trans up_s
  refine ex_putF (pc := 44) dX5_init_44 fk_X5_24 (ty := tyX5 4) (fun _ _ _ h9 => by cases h9; exact ⟨tyX5_ok 4 (by decide), rfl, rfl⟩) (fun _ _ _ h9 h8 => by cases h9; exact wk_X5_24) h9_q (Nat.le_of_ble_eq_true rfl) (fun _ => rfl) (fun _ => rfl) rfl ?_
  refine ex_up (fun w10 e_w10 => ?_)
  have h10_q := (congrFun e_w10 q).trans up_s
  have h10_a := ((congrFun e_w10 (q + 1)).trans (up_n (by first | assumption | decide | omega))).trans h9_a
  have h10_b := ((congrFun e_w10 (q + 2)).trans (up_n (by first | assumption | decide | omega))).trans h9_b
  have h10_c := ((congrFun e_w10 (q + 3)).trans (up_n (by first | assumption | decide | omega))).trans h9_c
  have h10_d := ((congrFun e_w10 (q + 4)).trans (up_n (by first | assumption | decide | omega))).trans h9_d
  have h10_e := ((congrFun e_w10 (q + 5)).trans (up_n (by first | assumption | decide | omega))).trans h9_e
  refine ex_aload_n (pc := 47) dX5_init_47 rfl ?_
  refine ex_sipush (pc := 48) dX5_init_48 (by decide) ?_
  refine ex_newarr (pc := 51) dX5_init_51 (N := 448) rfl (by decide) (Nat.le_of_ble_eq_true rfl) (Nat.le_of_ble_eq_true rfl) ?_
  refine ex_up (fun w11 e_w11 => ?_)
  have h11_q := ((congrFun e_w11 q).trans (up_n (by first | assumption | decide | omega))).trans h10_q
  have h11_a := ((congrFun e_w11 (q + 1)).trans (up_n (by first | assumption | decide | omega))).trans h10_a
  have h11_b := ((congrFun e_w11 (q + 2)).trans (up_n (by first | assumption | decide | omega))).trans h10_b
  have h11_c := ((congrFun e_w11 (q + 3)).trans (up_n (by first | assumption | decide | omega))).trans h10_c
  have h11_d := ((congrFun e_w11 (q + 4)).trans (up_n (by first | assumption | decide | omega))).trans h10_d
  have h11_e := ((congrFun e_w11 (q + 5)).trans (up_n (by first | assumption | decide | omega))).trans h10_e
  have h11_f := (congrFun e_w11 (q + 6)).trans up_s
  refine ex_putF (pc := 53) dX5_init_53 fk_X5_27 (ty := tyX5 8) (fun _ _ _ h9 => by cases h9; exact ⟨tyX5_ok 8 (by decide), rfl, rfl⟩) (fun _ _ _ h9 h8 => by cases h9; exact wk_X5_27) h11_q (Nat.le_of_ble_eq_true rfl) (fun _ => rfl) (fun _ => rfl) rfl ?_
  refine ex_up (fun w12 e_w12 => ?_)
  have h12_q := (congrFun e_w12 q).trans up_s
  have h12_a := ((congrFun e_w12 (q + 1)).trans (up_n (by first | assumption | decide | omega))).trans h11_a
  have h12_b := ((congrFun e_w12 (q + 2)).trans (up_n (by first | assumption | decide | omega))).trans h11_b
  have h12_c := ((congrFun e_w12 (q + 3)).trans (up_n (by first | assumption | decide | omega))).trans h11_c
  have h12_d := ((congrFun e_w12 (q + 4)).trans (up_n (by first | assumption | decide | omega))).trans h11_d
  have h12_e := ((congrFun e_w12 (q + 5)).trans (up_n (by first | assumption | decide | omega))).trans h11_e
  have h12_f := ((congrFun e_w12 (q + 6)).trans (up_n (by first | assumption | decide | omega))).trans h11_f
  refine ex_aload_n (pc := 56) dX5_init_56 rfl ?_
  refine ex_sipush (pc := 57) dX5_init_57 (by decide) ?_
  refine ex_newarr (pc := 60) dX5_init_60 (N := 448) rfl (by decide) (Nat.le_of_ble_eq_true rfl) (Nat.le_of_ble_eq_true rfl) ?_
  refine ex_up (fun w13 e_w13 => ?_)
  have h13_q := ((congrFun e_w13 q).trans (up_n (by first | assumption | decide | omega))).trans h12_q
  have h13_a := ((congrFun e_w13 (q + 1)).trans (up_n (by first | assumption | decide | omega))).trans h12_a
  have h13_b := ((congrFun e_w13 (q + 2)).trans (up_n (by first | assumption | decide | omega))).trans h12_b
  have h13_c := ((congrFun e_w13 (q + 3)).trans (up_n (by first | assumption | decide | omega))).trans h12_c
  have h13_d := ((congrFun e_w13 (q + 4)).trans (up_n (by first | assumption | decide | omega))).trans h12_d
  have h13_e := ((congrFun e_w13 (q + 5)).trans (up_n (by first | assumption | decide | omega))).trans h12_e
  have h13_f := ((congrFun e_w13 (q + 6)).trans (up_n (by first | assumption | decide | omega))).trans h12_f
  have h13_g := (congrFun e_w13 (q + 7)).trans up_s
  refine ex_putF (pc := 62) dX5_init_62 fk_X5_30 (ty := tyX5 9) (fun _ _ _ h9 => by cases h9; exact ⟨tyX5_ok 9 (by decide), rfl, rfl⟩) (fun _ _ _ h9 h8 => by cases h9; exact wk_X5_30) h13_q (Nat.le_of_ble_eq_true rfl) (fun _ => rfl) (fun _ => rfl) rfl ?_
  refine ex_up (fun w14 e_w14 => ?_)
  have h14_q := (congrFun e_w14 q).trans up_s
  have h14_a := ((congrFun e_w14 (q + 1)).trans (up_n (by first | assumption | decide | omega))).trans h13_a
  have h14_b := ((congrFun e_w14 (q + 2)).trans (up_n (by first | assumption | decide | omega))).trans h13_b
  have h14_c := ((congrFun e_w14 (q + 3)).trans (up_n (by first | assumption | decide | omega))).trans h13_c
  have h14_d := ((congrFun e_w14 (q + 4)).trans (up_n (by first | assumption | decide | omega))).trans h13_d
  have h14_e := ((congrFun e_w14 (q + 5)).trans (up_n (by first | assumption | decide | omega))).trans h13_e
  have h14_f := ((congrFun e_w14 (q + 6)).trans (up_n (by first | assumption | decide | omega))).trans h13_f
  have h14_g := ((congrFun e_w14 (q + 7)).trans (up_n (by first | assumption | decide | omega))).trans h13_g
  refine ex_aload_n (pc := 65) dX5_init_65 rfl ?_
  refine ex_sipush (pc := 66) dX5_init_66 (by decide) ?_
  refine ex_newarr (pc := 69) dX5_init_69 (N := 448) rfl (by decide) (Nat.le_of_ble_eq_true rfl) (Nat.le_of_ble_eq_true rfl) ?_
  refine ex_up (fun w15 e_w15 => ?_)
  have h15_q := ((congrFun e_w15 q).trans (up_n (by first | assumption | decide | omega))).trans h14_q
  have h15_a := ((congrFun e_w15 (q + 1)).trans (up_n (by first | assumption | decide | omega))).trans h14_a
  have h15_b := ((congrFun e_w15 (q + 2)).trans (up_n (by first | assumption | decide | omega))).trans h14_b
  have h15_c := ((congrFun e_w15 (q + 3)).trans (up_n (by first | assumption | decide | omega))).trans h14_c
  have h15_d := ((congrFun e_w15 (q + 4)).trans (up_n (by first | assumption | decide | omega))).trans h14_d
  have h15_e := ((congrFun e_w15 (q + 5)).trans (up_n (by first | assumption | decide | omega))).trans h14_e
  have h15_f := ((congrFun e_w15 (q + 6)).trans (up_n (by first | assumption | decide | omega))).trans h14_f
  have h15_g := ((congrFun e_w15 (q + 7)).trans (up_n (by first | assumption | decide | omega))).trans h14_g
  have h15_h := (congrFun e_w15 (q + 8)).trans up_s
  refine ex_putF (pc := 71) dX5_init_71 fk_X5_33 (ty := tyX5 10) (fun _ _ _ h9 => by cases h9; exact ⟨tyX5_ok 10 (by decide), rfl, rfl⟩) (fun _ _ _ h9 h8 => by cases h9; exact wk_X5_33) h15_q (Nat.le_of_ble_eq_true rfl) (fun _ => rfl) (fun _ => rfl) rfl ?_
  refine ex_up (fun w16 e_w16 => ?_)
  have h16_q := (congrFun e_w16 q).trans up_s
  have h16_a := ((congrFun e_w16 (q + 1)).trans (up_n (by first | assumption | decide | omega))).trans h15_a
  have h16_b := ((congrFun e_w16 (q + 2)).trans (up_n (by first | assumption | decide | omega))).trans h15_b
  have h16_c := ((congrFun e_w16 (q + 3)).trans (up_n (by first | assumption | decide | omega))).trans h15_c
  have h16_d := ((congrFun e_w16 (q + 4)).trans (up_n (by first | assumption | decide | omega))).trans h15_d
  have h16_e := ((congrFun e_w16 (q + 5)).trans (up_n (by first | assumption | decide | omega))).trans h15_e
  have h16_f := ((congrFun e_w16 (q + 6)).trans (up_n (by first | assumption | decide | omega))).trans h15_f
  have h16_g := ((congrFun e_w16 (q + 7)).trans (up_n (by first | assumption | decide | omega))).trans h15_g
  have h16_h := ((congrFun e_w16 (q + 8)).trans (up_n (by first | assumption | decide | omega))).trans h15_h
  exact ex_vret (pc := 74) dX5_init_74 ⟨⟨0, 0, 0, 0, _, _, _, fun _ => 0, _, _, _, _, h16_q, h16_a, h16_b, h16_c, h16_d, h16_e, h16_f, h16_g, h16_h, (fun _ => show 0 < 16384 by decide), (fun _ _ => ⟨show (-100 : Int) ≤ 0 by decide, show (0 : Int) ≤ 100 by decide, show (-100 : Int) ≤ 0 by decide, show (0 : Int) ≤ 100 by decide⟩)⟩, fun z hz => by rw [e_w16, up_n (by omega)]; rw [e_w15, up_n (by omega)]; rw [e_w14, up_n (by omega)]; rw [e_w13, up_n (by omega)]; rw [e_w12, up_n (by omega)]; rw [e_w11, up_n (by omega)]; rw [e_w10, up_n (by omega)]; rw [e_w9, up_n (by omega)]; rw [e_w8, up_n (by omega)]; rw [e_w7, up_n (by omega)]; rw [e_w6, up_n (by omega)]; rw [e_w5, up_n (by omega)]; rw [e_w4, up_n (by omega)]; rw [e_w3, up_n (by omega)]; rw [e_w2, up_n (by omega)]; rw [e_w1, up_n (by omega)]⟩ rfl (Nat.le_refl _)

abbrev mX3_init (M : Nat) : xC := mkC yX3_init cX3_init 3 none 2 200 (1 + 2 * M) (18 * M)
set_option maxHeartbeats 4000000 in
set_option maxRecDepth 100000 in
theorem tX3_init {W : xW} {b M : Nat} {M9 : Int} (hm : M9 = (M : Int)) (hM1 : 1 ≤ M) (hM8 : M ≤ 8) (h_b : W b = xO 3 dfX3) : Ctr (mX3_init M) [xr b, xi M9] (b + 1) W (pV (fun w2 => PiX w2 b M 0 (fun i => i) ∧ ∀ z, z < b → w2 z = W z)) := by
  refine Ctr.of ykX3_init rfl (Nat.le_of_ble_eq_true rfl) okV (fun hin hW => ?_)
  show Ex _ _ 0 0 (b + 1) W 0 [some (xr b), some (xi M9), none] []
  have loop : ∀ (d k : Nat), k ≤ M → M + 1 ≤ k + d → ∀ (w : xW) (g : Nat → Option Nat), w b = xO 3 [xr (b + 1), xi 0] → w (b + 1) = xQ M g → (∀ i, i < k → g i = some (b + 2 + 2 * i)) → (∀ i, i < k → w (b + 2 + 2 * i) = xO 2 [xr (b + 3 + 2 * i), xi 0, xi 0] ∧ w (b + 3 + 2 * i) = xA 14 (fun _ => 0)) → (∀ z, z < b → w z = W z) → Ex (mX3_init M) (pV (fun w2 => PiX w2 b M 0 (fun i => i) ∧ ∀ z, z < b → w2 z = W z)) (1 + 2 * k) (M + 17 * k) (b + 2 + 2 * k) w 18 [some (xr b), some (xi M9), some (xi k)] [] := by
    intro d
    induction d with
    | zero => intro k h1 h2; omega
    | succ d ih =>
      intro k h1 h2 w g h_b h_g hg hpc hfr
      refine ex_iload_n (pc := 18) dX3_init_18 rfl ?_
      refine ex_aload_n (pc := 19) dX3_init_19 rfl ?_
      refine ex_getfield (pc := 20) dX3_init_20 fk_X3_15 h_b (by rfl) ?_
      refine ex_alenQ (pc := 23) dX3_init_23 h_g (by omega) ?_
      refine ex_icmp_ge (pc := 24) dX3_init_24 (tgt := 46) (by decide) (fun c24 => ?_) (fun c24 => ?_)
      · have hkM : k = M := by omega
        refine ex_extQ (g2 := fun i => some (b + 2 + 2 * i)) h_g (fun i hi => hg i (by omega)) ?_
        exact ex_vret (pc := 46) dX3_init_46 ⟨⟨(up_n (by omega)).trans h_b, up_s, fun i hi => hi, fun i j _ _ q => q, fun i hi => ⟨0, 0, _, (up_n (by omega)).trans (hpc i (by omega)).1, (up_n (by omega)).trans (hpc i (by omega)).2⟩, Nat.zero_le _⟩, fun z hz => (up_n (by omega)).trans (hfr z hz)⟩ (show 1 + 2 * k = 1 + 2 * M by omega) (show M + 17 * k ≤ 18 * M by omega)
      · refine ex_aload_n (pc := 27) dX3_init_27 rfl ?_
        refine ex_getfield (pc := 28) dX3_init_28 fk_X3_15 h_b (by rfl) ?_
        refine ex_iload_n (pc := 31) dX3_init_31 rfl ?_
        refine ex_new (T0 := TX2) (ci := 2) (N := 3) (fs := dfX2) tyX2 (pc := 32) dX3_init_32 ck_X3_13 nw_X2 ini_X2 rfl tyX2_ok rfl dfI_X2 dfV_X2 (show 1 + 2 * k + 1 ≤ 1 + 2 * M by omega) (show M + 17 * k + 3 ≤ 18 * M by omega) ?_
        refine ex_up (fun w1 e_w1 => ?_)
        have h1_b := ((congrFun e_w1 b).trans (up_n (by first | assumption | decide | omega))).trans h_b
        have h1_g := ((congrFun e_w1 (b + 1)).trans (up_n (by first | assumption | decide | omega))).trans h_g
        have h1_v := (congrFun e_w1 (b + 2 + 2 * k)).trans up_s
        refine ex_dup (pc := 35) dX3_init_35 rfl ?_
        refine ex_callIV (as := []) (pc := 36) dX3_init_36 (tX2_init h1_v (by omega)) lk_X3_21 ykX2_init nkX2_init rfl rfl (Nat.le_of_ble_eq_true rfl) ⟨Nat.le_of_ble_eq_true rfl, Nat.le_of_ble_eq_true rfl⟩ ⟨show 1 + 2 * k + 1 + 1 ≤ 1 + 2 * M by omega, show M + 17 * k + 3 + 14 ≤ 18 * M by omega⟩ (fun w2 p36 => ?_)
        have h2_b := ((congrFun p36 b).trans (up_n (by omega))).trans ((up_n (by omega)).trans h1_b)
        have h2_g := ((congrFun p36 (b + 1)).trans (up_n (by omega))).trans ((up_n (by omega)).trans h1_g)
        have h2_v := (congrFun p36 (b + 2 + 2 * k)).trans up_s
        have h2_u : w2 (b + 3 + 2 * k) = xA 14 (fun _ => 0) := ((congrFun p36 (b + 3 + 2 * k)).trans (up_n (by omega))).trans (by rw [show b + 3 + 2 * k = b + 2 + 2 * k + 1 by omega]; exact up_s)
        rw [show b + 2 + 2 * k + 1 = b + 3 + 2 * k by omega] at h2_v
        refine ex_aastore (pc := 39) dX3_init_39 h2_g h2_v (by omega) (by omega) ?_
        refine ex_up (fun w3 e_w3 => ?_)
        have h3_b := ((congrFun e_w3 b).trans (up_n (by first | assumption | decide | omega))).trans h2_b
        have h3_g := (congrFun e_w3 (b + 1)).trans up_s
        have h3_v := ((congrFun e_w3 (b + 2 + 2 * k)).trans (up_n (by first | assumption | decide | omega))).trans h2_v
        have h3_u := ((congrFun e_w3 (b + 3 + 2 * k)).trans (up_n (by first | assumption | decide | omega))).trans h2_u
        refine ex_iinc (L2 := [_, _, _]) (pc := 40) dX3_init_40 rfl rfl (Nat.le_of_ble_eq_true rfl) (by unfold inI; omega) rfl ?_
        refine ex_goto (pc := 43) dX3_init_43 (tgt := 18) (by decide) ?_
        have hkk : ((k : Int)).toNat = k := by omega
        rw [hkk] at h3_g
        refine ex_num (k2 := 1 + 2 * (k + 1)) (j2 := M + 17 * (k + 1)) (n2 := b + 2 + 2 * (k + 1)) (by omega) (by omega) (by omega) ?_
        refine ih (k + 1) (by omega) (by omega) w3 _ h3_b h3_g (fun i hi => ?_) (fun i hi => ?_) (fun z hz => ?_)
        · by_cases q : i = k
          · rw [q, up_s]
          · rw [up_n q]; exact hg i (by omega)
        · by_cases q : i = k
          · subst q; exact ⟨h3_v, h3_u⟩
          · rw [e_w3, up_n (by omega), up_n (by omega), p36, up_n (by omega), up_n (by omega), up_n (by omega), up_n (by omega), e_w1, up_n (by omega), up_n (by omega)]
            exact hpc i (by omega)
        · rw [e_w3, up_n (by omega), p36, up_n (by omega), up_n (by omega), e_w1, up_n (by omega)]
          exact hfr z hz
  refine ex_aload_n (pc := 0) dX3_init_0 rfl ?_
  refine ex_obj (pc := 1) dX3_init_1 wl_X3_1 (Nat.le_of_ble_eq_true rfl) (Nat.le_of_ble_eq_true rfl) ?_
  refine ex_aload_n (pc := 4) dX3_init_4 rfl ?_
  refine ex_iload_n (pc := 5) dX3_init_5 rfl ?_
  refine ex_iconst (pc := 6) dX3_init_6 (by decide) ?_
  refine ex_max (pc := 7) dX3_init_7 wl_X3_7 (Nat.le_of_ble_eq_true rfl) (Nat.le_of_ble_eq_true rfl) (Nat.zero_le _) (Nat.zero_le _) ?_
  refine ex_anew (pc := 10) dX3_init_10 ck_X3_13 (N := M) (by rw [if_neg (by omega)]; exact hm) (by omega) (show 0 + 1 ≤ 1 + 2 * M by omega) (show 0 + M ≤ 18 * M by omega) ?_
  refine ex_up (fun w1 e_w1 => ?_)
  have h1_b := ((congrFun e_w1 b).trans (up_n (by first | assumption | decide | omega))).trans h_b
  have h1_g := (congrFun e_w1 (b + 1)).trans up_s
  refine ex_putF (pc := 13) dX3_init_13 fk_X3_15 (ty := tyX3 0) (fun _ _ _ h9 => by cases h9; exact ⟨tyX3_ok 0 (by decide), rfl, rfl⟩) (fun _ _ _ h9 h8 => by cases h9; exact wk_X3_15) h1_b (Nat.le_of_ble_eq_true rfl) (fun _ => rfl) (fun _ => rfl) rfl ?_
  refine ex_up (fun w2 e_w2 => ?_)
  have h2_b := (congrFun e_w2 b).trans up_s
  have h2_g := ((congrFun e_w2 (b + 1)).trans (up_n (by first | assumption | decide | omega))).trans h1_g
  refine ex_iconst (pc := 16) dX3_init_16 (by decide) ?_
  refine ex_istore_n (L2 := [_, _, _]) (pc := 17) dX3_init_17 rfl (Nat.le_of_ble_eq_true rfl) rfl ?_
  refine ex_num (k2 := 1 + 2 * 0) (j2 := M + 17 * 0) (n2 := b + 2 + 2 * 0) (by omega) (by omega) (by omega) ?_
  exact loop (M + 1) 0 (by omega) (by omega) w2 _ h2_b h2_g (fun i hi => absurd hi (Nat.not_lt_zero _)) (fun i hi => absurd hi (Nat.not_lt_zero _)) (fun z hz => by rw [e_w2, up_n (by omega), e_w1, up_n (by omega)])

