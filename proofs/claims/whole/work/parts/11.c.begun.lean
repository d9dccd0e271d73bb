/-! ===== the beginning: the first piece ===== -/
def ftm (j : Nat) : Int := ([0, 1, 2, 4, 5, 6, 8, 9, 10, 12, 13, 14, 15] : List Int).getD j 0
def fpt (j : Nat) : Int := ([2, 4, 5, 4, 6, 7, 2, 4, 6, 0, 2, 3, 11] : List Int).getD j 0
def fC (j : Nat) : Int := ftm j * 12 + fpt j
def iL : Nat → List Int
  | 0 => []
  | k + 1 => insL (fC k) (iL k)
theorem ftm_rng (j : Nat) : 0 ≤ ftm j ∧ ftm j ≤ 15 := by
  rcases Nat.lt_or_ge j 13 with h | h
  · exact (by decide : ∀ j, j < 13 → 0 ≤ ftm j ∧ ftm j ≤ 15) j h
  · have : ftm j = 0 := by
      unfold ftm
      rw [List.getD_eq_getElem?_getD, List.getElem?_eq_none h]; rfl
    omega
theorem fpt_rng (j : Nat) : 0 ≤ fpt j ∧ fpt j ≤ 11 := by
  rcases Nat.lt_or_ge j 13 with h | h
  · exact (by decide : ∀ j, j < 13 → 0 ≤ fpt j ∧ fpt j ≤ 11) j h
  · have : fpt j = 0 := by
      unfold fpt
      rw [List.getD_eq_getElem?_getD, List.getElem?_eq_none h]; rfl
    omega
theorem fC_rng (j : Nat) : 0 ≤ fC j ∧ fC j < 240 := by
  have h1 := ftm_rng j
  have h2 := fpt_rng j
  unfold fC; omega
theorem iL_len : ∀ k, (iL k).length = k := by
  intro k
  induction k with
  | zero => rfl
  | succ k ih => rw [iL, insL_len, ih]
theorem iL_cod : ∀ k, Cod (iL k) := by
  intro k
  induction k with
  | zero => intro i hi; exact absurd hi (Nat.not_lt_zero _)
  | succ k ih => exact Cod_ins ih (fC_rng k)
/-- the state at the beginning -/
def st0 : St := (iL 13, 0, [], [], [])
theorem st0_v : Vld (iL 13) 0 [] [] := ⟨⟨iL_cod 13, by rw [iL_len]; decide, by rw [iL_len]; decide, by decide, by decide⟩, fun _ h => absurd h List.not_mem_nil, fun _ h => absurd h List.not_mem_nil⟩
/-- what the statics hold -/
def AmS (t1 t2 : Nat) (B : Nat) (U : State) : Prop := (va_Z "ShiftedShapes" "FIRST_TIMES" "[I" (.ref t1) (fun q => B ≤ q) U U.heap ∧ va_T .int t1 13 (fun j => .int (Int32.ofInt (ftm j))) (fun q => B ≤ q) U U.heap) ∧ va_Z "ShiftedShapes" "FIRST_PITCHES" "[I" (.ref t2) (fun q => B ≤ q) U U.heap ∧ va_T .int t2 13 (fun j => .int (Int32.ofInt (fpt j))) (fun q => B ≤ q) U U.heap
theorem AmS.call {t1 t2 : Nat} : ∀ B U g mk a, AmS t1 t2 B U → AmS t1 t2 B (State.calling U g mk a) := fun B U g mk a h =>
  ⟨⟨h.1.1.moved (U := State.calling U g mk a) (Vm.Alike.refl U.vm), h.1.2.moved (U := State.calling U g mk a) (Vm.Alike.refl U.vm)⟩, h.2.1.moved (U := State.calling U g mk a) (Vm.Alike.refl U.vm), h.2.2.moved (U := State.calling U g mk a) (Vm.Alike.refl U.vm)⟩
theorem AmS.go {t1 t2 : Nat} : ∀ (B : Nat) (s U : State) (H : Heap) (locs : List Loc), AmS t1 t2 B s → xS B s H locs → U.heap = H → s.WarmedH U.vm → AmS t1 t2 B U := fun B s U H locs h hS hU hW => by
  have q : ∀ a : Nat, a < s.heap.size → ¬ B ≤ a → U.heap[a]? = s.heap[a]? := fun a h1 h2 => by rw [hU]; exact hS.2.1 a h1 h2
  exact ⟨⟨(h.1.1.kept q).moved hW.alike, (h.1.2.kept q).moved hW.alike⟩, (h.2.1.kept q).moved hW.alike, (h.2.2.kept q).moved hW.alike⟩
theorem AmS.z1 {t1 t2 : Nat} : ∀ B s, AmS t1 t2 B s → va_Z "ShiftedShapes" "FIRST_TIMES" "[I" (.ref t1) (fun q => B ≤ q) s s.heap := fun _ _ h => h.1.1
theorem AmS.z2 {t1 t2 : Nat} : ∀ B s, AmS t1 t2 B s → va_Z "ShiftedShapes" "FIRST_PITCHES" "[I" (.ref t2) (fun q => B ≤ q) s s.heap := fun _ _ h => h.2.1
theorem AmS.t1 {t1 t2 : Nat} : (∀ B s, AmS t1 t2 B s → va_T .int t1 13 (fun j => .int (Int32.ofInt (ftm j))) (fun q => B ≤ q) s s.heap) ∧ ∀ j, inI (ftm j) := ⟨fun _ _ h => h.1.2, fun j => by have := ftm_rng j; unfold inI; omega⟩
theorem AmS.t2 {t1 t2 : Nat} : (∀ B s, AmS t1 t2 B s → va_T .int t2 13 (fun j => .int (Int32.ofInt (fpt j))) (fun q => B ≤ q) s s.heap) ∧ ∀ j, inI (fpt j) := ⟨fun _ _ h => h.2.2, fun j => by have := fpt_rng j; unfold inI; omega⟩

abbrev mX6_init : xC := mkC yX6_init cX6_init 2 none 3 300 54 7755
set_option maxHeartbeats 4000000 in
set_option maxRecDepth 100000 in
theorem tX6_init {w : xW} {t1 t2 : Nat} (h_o : w 0 = xO 6 dfX6) : CtrZ (AmS t1 t2) mX6_init [xr 0] 1 w (pV (fun w2 => ClsS w2 st0)) := by
  refine CtrZ.of ykX6_init rfl (Nat.le_of_ble_eq_true rfl) okV (fun hin hW => ?_)
  show Ez _ _ _ 0 0 1 w 0 [some (xr 0), none] []
  have loop : ∀ (wS : xW), ScAt wS 1 2 [] 0 → TrX wS → PiX wS 7 8 0 (fun i => i) → PiX wS 25 2 0 (fun i => i) → SeX wS 31 → SeX wS 40 → PtX wS 49 → CvX wS → ∀ (d i : Nat), i ≤ 13 → 14 ≤ i + d → ∀ (w : xW), w 0 = cO 0 0 0 0 → PcAt w 3 4 (iL i) 0 → (∀ z, z ≠ 3 → z ≠ 4 → w z = wS z) → Ez (AmS t1 t2) mX6_init (pV (fun w2 => ClsS w2 st0)) 54 7755 55 w 108 [some (xr 0), some (xi i)] [] := by
    intro wS hSc hTr h8 h2 h31 h40 h49 hCv d
    induction d with
    | zero => intro i q1 q2; omega
    | succ d ih =>
      intro i q1 q2 w h_o hP hfr
      obtain ⟨f9, h_p, -, -, -⟩ := id hP
      refine ez_iload_n (pc := 108) dX6_init_108 rfl ?_
      refine ez_gets (pc := 109) dX6_init_109 sk_X6_62 AmS.z1 ?_
      refine ez_alen_out (pc := 112) dX6_init_112 AmS.t1 (by decide) ?_
      refine ez_icmp_ge (pc := 113) dX6_init_113 (tgt := 151) (by decide) (fun c113 => ?_) (fun c113 => ?_)
      · have hi13 : i = 13 := by omega
        rw [hi13] at hP
        exact ez_vret (pc := 151) dX6_init_151 (ClsS.mk st0_v ⟨h_o, ⟨0, hSc.fr (hfr 1 (by decide) (by decide)) (hfr 2 (by decide) (by decide))⟩, hP, hTr.fr (hfr 5 (by decide) (by decide)) (hfr 6 (by decide) (by decide)), ⟨_, h8.fr (fun z z1 z2 => hfr z (by omega) (by omega)) (by decide), fun i hi => absurd hi (Nat.not_lt_zero _)⟩, ⟨_, h2.fr (fun z z1 z2 => hfr z (by omega) (by omega)) (by decide), fun i hi => absurd hi (Nat.not_lt_zero _)⟩, h31.fr (fun z z1 z2 => hfr z (by omega) (by omega)), h40.fr (fun z z1 z2 => hfr z (by omega) (by omega)), h49.fr (fun z z1 z2 => hfr z (by omega) (by omega)), hCv.fr (hfr 53 (by decide) (by decide)) (hfr 54 (by decide) (by decide))⟩ Csh0) rfl (Nat.le_refl _)
      · have hki : ((i : Int)).toNat = i := by omega
        have hr1 := ftm_rng i
        have hr2 := fpt_rng i
        have hll := iL_len i
        refine ez_iload_n (pc := 116) dX6_init_116 rfl ?_
        refine ez_gets (pc := 117) dX6_init_117 sk_X6_66 AmS.z2 ?_
        refine ez_alen_out (pc := 120) dX6_init_120 AmS.t2 (by decide) ?_
        refine ez_icmp_ge (pc := 121) dX6_init_121 (tgt := 151) (by decide) (fun c121 => by exfalso; omega) (fun c121 => ?_)
        refine ez_aload_n (pc := 124) dX6_init_124 rfl ?_
        refine ez_getfield (pc := 125) dX6_init_125 fk_X6_19 h_o (by rfl) ?_
        refine ez_gets (pc := 128) dX6_init_128 sk_X6_62 AmS.z1 ?_
        refine ez_iload_n (pc := 131) dX6_init_131 rfl ?_
        refine ez_iald_out (pc := 132) dX6_init_132 AmS.t1 (by omega) (by omega) ?_
        rw [hki]
        refine ez_gets (pc := 133) dX6_init_133 sk_X6_66 AmS.z2 ?_
        refine ez_iload_n (pc := 136) dX6_init_136 rfl ?_
        refine ez_iald_out (pc := 137) dX6_init_137 AmS.t2 (by omega) (by omega) ?_
        rw [hki]
        refine ez_callSI (as := [_, _]) (pc := 138) dX6_init_138 (tX6_codeOf (by omega)) lk_X6_69 ykX6_codeOf zkX6_codeOf rfl rfl (Nat.le_of_ble_eq_true rfl) ⟨by decide, by decide⟩ ⟨Nat.le_refl _, Nat.le_refl _⟩ (fun i138 w1 r138 p138 => ?_)
        obtain ⟨e138, p138⟩ := p138
        rw [e138, p138]
        refine ez_callVI (as := [_]) (pc := 141) dX6_init_141 (lX2_insert hP (by omega)) lk_X6_73 ykX2_insert vkX2_insert h_p rfl rfl rfl (Nat.le_of_ble_eq_true rfl) ⟨by decide, by decide⟩ ⟨Nat.le_refl _, Nat.le_refl _⟩ (fun i141 w1 r141 p141 => ?_)
        obtain ⟨-, hP1, hfP⟩ := p141
        have h1_o := (hfP 0 (by decide) (by decide)).trans h_o
        have h1_p := h1_o
        refine ez_pop (pc := 144) dX6_init_144 rfl ?_
        refine ez_iinc (L2 := [_, _]) (pc := 145) dX6_init_145 rfl rfl (Nat.le_of_ble_eq_true rfl) (by unfold inI; omega) rfl ?_
        refine ez_goto (pc := 148) dX6_init_148 (tgt := 108) (by decide) ?_
        exact ih (i + 1) (by omega) (by omega) w1 ((hfP 0 (by decide) (by decide)).trans h_o) hP1 (fun z z1 z2 => (hfP z z1 z2).trans (hfr z z1 z2))
  refine ez_aload_n (pc := 0) dX6_init_0 rfl ?_
  refine ez_obj (pc := 1) dX6_init_1 wl_X6_3 (by decide) (Nat.le_of_ble_eq_true rfl) ?_
  refine ez_aload_n (pc := 4) dX6_init_4 rfl ?_
  refine ez_new (T0 := TX4) (ci := 4) (N := 3) (fs := dfX4) tyX4 (pc := 5) dX6_init_5 ck_X6_9 nw_X4 ini_X4 rfl tyX4_ok rfl dfI_X4 dfV_X4 (Nat.le_of_ble_eq_true rfl) (Nat.le_of_ble_eq_true rfl) ?_
  refine ez_up (fun w1 e_w1 => ?_)
  refine ez_num (k2 := 1) (j2 := 3) (n2 := 2) rfl rfl rfl ?_
  have h1_o := ((congrFun e_w1 0).trans (up_n (by decide))).trans h_o
  have h1_v := (congrFun e_w1 1).trans up_s
  refine ez_dup (pc := 8) dX6_init_8 rfl ?_
  refine ez_callIV (as := []) (pc := 9) dX6_init_9 (tX4_init h1_v) lk_X6_11 ykX4_init nkX4_init rfl rfl (Nat.le_of_ble_eq_true rfl) ⟨by decide, by decide⟩ ⟨Nat.le_of_ble_eq_true rfl, Nat.le_of_ble_eq_true rfl⟩ (fun w2 p2 => ?_)
  refine ez_num (k2 := 2) (j2 := 203) (n2 := 3) rfl rfl rfl ?_
  have h2_o := (p2.2 0 (by decide)).trans h1_o
  have g1 := p2
  refine ez_putF (pc := 12) dX6_init_12 fk_X6_12 (ty := tyX6 0) (fun _ _ _ h9 => by cases h9; exact ⟨tyX6_ok 0 (by decide), rfl, rfl⟩) (fun _ _ _ h9 h8 => by cases h9; exact wk_X6_12) h2_o (Nat.le_of_ble_eq_true rfl) (fun _ => rfl) (fun _ => rfl) rfl ?_
  refine ez_up (fun w3 e_w3 => ?_)
  have h3_o : w3 0 = xO 6 [xr 1, xn, xn, xn, xn, xn, xn, xn, xn, xi 0, xi 0, xi 0, xi 0] := (congrFun e_w3 0).trans up_s
  refine ez_aload_n (pc := 15) dX6_init_15 rfl ?_
  refine ez_new (T0 := TX2) (ci := 2) (N := 3) (fs := dfX2) tyX2 (pc := 16) dX6_init_16 ck_X6_16 nw_X2 ini_X2 rfl tyX2_ok rfl dfI_X2 dfV_X2 (Nat.le_of_ble_eq_true rfl) (Nat.le_of_ble_eq_true rfl) ?_
  refine ez_up (fun w4 e_w4 => ?_)
  refine ez_num (k2 := 3) (j2 := 206) (n2 := 4) rfl rfl rfl ?_
  have h4_o := ((congrFun e_w4 0).trans (up_n (by decide))).trans h3_o
  have h4_v := (congrFun e_w4 3).trans up_s
  refine ez_dup (pc := 19) dX6_init_19 rfl ?_
  refine ez_callIV (as := []) (pc := 20) dX6_init_20 (tX2_init h4_v (by decide)) lk_X6_18 ykX2_init nkX2_init rfl rfl (Nat.le_of_ble_eq_true rfl) ⟨by decide, by decide⟩ ⟨Nat.le_of_ble_eq_true rfl, Nat.le_of_ble_eq_true rfl⟩ (fun w5 p5 => ?_)
  refine ez_num (k2 := 4) (j2 := 220) (n2 := 5) rfl rfl rfl ?_
  have h5_o := ((congrFun p5 0).trans (up_n (by decide))).trans ((up_n (by decide)).trans h4_o)
  have g3 : w5 3 = xO 2 [xr 4, xi 0, xi 0] ∧ w5 4 = xA 14 (fun _ => 0) := ⟨(congrFun p5 3).trans up_s, ((congrFun p5 4).trans (up_n (by decide))).trans up_s⟩
  refine ez_putF (pc := 23) dX6_init_23 fk_X6_19 (ty := tyX6 1) (fun _ _ _ h9 => by cases h9; exact ⟨tyX6_ok 1 (by decide), rfl, rfl⟩) (fun _ _ _ h9 h8 => by cases h9; exact wk_X6_19) h5_o (Nat.le_of_ble_eq_true rfl) (fun _ => rfl) (fun _ => rfl) rfl ?_
  refine ez_up (fun w6 e_w6 => ?_)
  have h6_o : w6 0 = xO 6 [xr 1, xr 3, xn, xn, xn, xn, xn, xn, xn, xi 0, xi 0, xi 0, xi 0] := (congrFun e_w6 0).trans up_s
  refine ez_aload_n (pc := 26) dX6_init_26 rfl ?_
  refine ez_new (T0 := TX2) (ci := 2) (N := 3) (fs := dfX2) tyX2 (pc := 27) dX6_init_27 ck_X6_16 nw_X2 ini_X2 rfl tyX2_ok rfl dfI_X2 dfV_X2 (Nat.le_of_ble_eq_true rfl) (Nat.le_of_ble_eq_true rfl) ?_
  refine ez_up (fun w7 e_w7 => ?_)
  refine ez_num (k2 := 5) (j2 := 223) (n2 := 6) rfl rfl rfl ?_
  have h7_o := ((congrFun e_w7 0).trans (up_n (by decide))).trans h6_o
  have h7_v := (congrFun e_w7 5).trans up_s
  refine ez_dup (pc := 30) dX6_init_30 rfl ?_
  refine ez_callIV (as := []) (pc := 31) dX6_init_31 (tX2_init h7_v (by decide)) lk_X6_18 ykX2_init nkX2_init rfl rfl (Nat.le_of_ble_eq_true rfl) ⟨by decide, by decide⟩ ⟨Nat.le_of_ble_eq_true rfl, Nat.le_of_ble_eq_true rfl⟩ (fun w8 p8 => ?_)
  refine ez_num (k2 := 6) (j2 := 237) (n2 := 7) rfl rfl rfl ?_
  have h8_o := ((congrFun p8 0).trans (up_n (by decide))).trans ((up_n (by decide)).trans h7_o)
  have g5 : w8 5 = xO 2 [xr 6, xi 0, xi 0] ∧ w8 6 = xA 14 (fun _ => 0) := ⟨(congrFun p8 5).trans up_s, ((congrFun p8 6).trans (up_n (by decide))).trans up_s⟩
  refine ez_putF (pc := 34) dX6_init_34 fk_X6_23 (ty := tyX6 2) (fun _ _ _ h9 => by cases h9; exact ⟨tyX6_ok 2 (by decide), rfl, rfl⟩) (fun _ _ _ h9 h8 => by cases h9; exact wk_X6_23) h8_o (Nat.le_of_ble_eq_true rfl) (fun _ => rfl) (fun _ => rfl) rfl ?_
  refine ez_up (fun w9 e_w9 => ?_)
  have h9_o : w9 0 = xO 6 [xr 1, xr 3, xr 5, xn, xn, xn, xn, xn, xn, xi 0, xi 0, xi 0, xi 0] := (congrFun e_w9 0).trans up_s
  refine ez_aload_n (pc := 37) dX6_init_37 rfl ?_
  refine ez_new (T0 := TX3) (ci := 3) (N := 2) (fs := dfX3) tyX3 (pc := 38) dX6_init_38 ck_X6_26 nw_X3 ini_X3 rfl tyX3_ok rfl dfI_X3 dfV_X3 (Nat.le_of_ble_eq_true rfl) (Nat.le_of_ble_eq_true rfl) ?_
  refine ez_up (fun w10 e_w10 => ?_)
  refine ez_num (k2 := 7) (j2 := 239) (n2 := 8) rfl rfl rfl ?_
  have h10_o := ((congrFun e_w10 0).trans (up_n (by decide))).trans h9_o
  have h10_v := (congrFun e_w10 7).trans up_s
  refine ez_dup (pc := 41) dX6_init_41 rfl ?_
  refine ez_bipush (pc := 42) dX6_init_42 (by decide) ?_
  refine ez_callIV (as := [_]) (pc := 44) dX6_init_44 (tX3_init (M := 8) rfl (by decide) (by decide) h10_v) lk_X6_28 ykX3_init nkX3_init rfl rfl (Nat.le_of_ble_eq_true rfl) ⟨by decide, by decide⟩ ⟨Nat.le_of_ble_eq_true rfl, Nat.le_of_ble_eq_true rfl⟩ (fun w11 p11 => ?_)
  refine ez_num (k2 := 24) (j2 := 383) (n2 := 25) rfl rfl rfl ?_
  have h11_o := (p11.2 0 (by decide)).trans h10_o
  have g7 := p11
  refine ez_putF (pc := 47) dX6_init_47 fk_X6_31 (ty := tyX6 3) (fun _ _ _ h9 => by cases h9; exact ⟨tyX6_ok 3 (by decide), rfl, rfl⟩) (fun _ _ _ h9 h8 => by cases h9; exact wk_X6_31) h11_o (Nat.le_of_ble_eq_true rfl) (fun _ => rfl) (fun _ => rfl) rfl ?_
  refine ez_up (fun w12 e_w12 => ?_)
  have h12_o : w12 0 = xO 6 [xr 1, xr 3, xr 5, xr 7, xn, xn, xn, xn, xn, xi 0, xi 0, xi 0, xi 0] := (congrFun e_w12 0).trans up_s
  refine ez_aload_n (pc := 50) dX6_init_50 rfl ?_
  refine ez_new (T0 := TX3) (ci := 3) (N := 2) (fs := dfX3) tyX3 (pc := 51) dX6_init_51 ck_X6_26 nw_X3 ini_X3 rfl tyX3_ok rfl dfI_X3 dfV_X3 (Nat.le_of_ble_eq_true rfl) (Nat.le_of_ble_eq_true rfl) ?_
  refine ez_up (fun w13 e_w13 => ?_)
  refine ez_num (k2 := 25) (j2 := 385) (n2 := 26) rfl rfl rfl ?_
  have h13_o := ((congrFun e_w13 0).trans (up_n (by decide))).trans h12_o
  have h13_v := (congrFun e_w13 25).trans up_s
  refine ez_dup (pc := 54) dX6_init_54 rfl ?_
  refine ez_iconst (pc := 55) dX6_init_55 (by decide) ?_
  refine ez_callIV (as := [_]) (pc := 56) dX6_init_56 (tX3_init (M := 2) rfl (by decide) (by decide) h13_v) lk_X6_28 ykX3_init nkX3_init rfl rfl (Nat.le_of_ble_eq_true rfl) ⟨by decide, by decide⟩ ⟨Nat.le_of_ble_eq_true rfl, Nat.le_of_ble_eq_true rfl⟩ (fun w14 p14 => ?_)
  refine ez_num (k2 := 30) (j2 := 421) (n2 := 31) rfl rfl rfl ?_
  have h14_o := (p14.2 0 (by decide)).trans h13_o
  have g25 := p14
  refine ez_putF (pc := 59) dX6_init_59 fk_X6_35 (ty := tyX6 4) (fun _ _ _ h9 => by cases h9; exact ⟨tyX6_ok 4 (by decide), rfl, rfl⟩) (fun _ _ _ h9 h8 => by cases h9; exact wk_X6_35) h14_o (Nat.le_of_ble_eq_true rfl) (fun _ => rfl) (fun _ => rfl) rfl ?_
  refine ez_up (fun w15 e_w15 => ?_)
  have h15_o : w15 0 = xO 6 [xr 1, xr 3, xr 5, xr 7, xr 25, xn, xn, xn, xn, xi 0, xi 0, xi 0, xi 0] := (congrFun e_w15 0).trans up_s
  refine ez_aload_n (pc := 62) dX6_init_62 rfl ?_
  refine ez_new (T0 := TX5) (ci := 5) (N := 12) (fs := dfX5) tyX5 (pc := 63) dX6_init_63 ck_X6_38 nw_X5 ini_X5 rfl tyX5_ok rfl dfI_X5 dfV_X5 (Nat.le_of_ble_eq_true rfl) (Nat.le_of_ble_eq_true rfl) ?_
  refine ez_up (fun w16 e_w16 => ?_)
  refine ez_num (k2 := 31) (j2 := 433) (n2 := 32) rfl rfl rfl ?_
  have h16_o := ((congrFun e_w16 0).trans (up_n (by decide))).trans h15_o
  have h16_v := (congrFun e_w16 31).trans up_s
  refine ez_dup (pc := 66) dX6_init_66 rfl ?_
  refine ez_callIV (as := []) (pc := 67) dX6_init_67 (tX5_init h16_v) lk_X6_40 ykX5_init nkX5_init rfl rfl (Nat.le_of_ble_eq_true rfl) ⟨by decide, by decide⟩ ⟨Nat.le_of_ble_eq_true rfl, Nat.le_of_ble_eq_true rfl⟩ (fun w17 p17 => ?_)
  refine ez_num (k2 := 39) (j2 := 3839) (n2 := 40) rfl rfl rfl ?_
  have h17_o := (p17.2 0 (by decide)).trans h16_o
  have g31 := p17
  refine ez_putF (pc := 70) dX6_init_70 fk_X6_41 (ty := tyX6 5) (fun _ _ _ h9 => by cases h9; exact ⟨tyX6_ok 5 (by decide), rfl, rfl⟩) (fun _ _ _ h9 h8 => by cases h9; exact wk_X6_41) h17_o (Nat.le_of_ble_eq_true rfl) (fun _ => rfl) (fun _ => rfl) rfl ?_
  refine ez_up (fun w18 e_w18 => ?_)
  have h18_o : w18 0 = xO 6 [xr 1, xr 3, xr 5, xr 7, xr 25, xr 31, xn, xn, xn, xi 0, xi 0, xi 0, xi 0] := (congrFun e_w18 0).trans up_s
  refine ez_aload_n (pc := 73) dX6_init_73 rfl ?_
  refine ez_new (T0 := TX5) (ci := 5) (N := 12) (fs := dfX5) tyX5 (pc := 74) dX6_init_74 ck_X6_38 nw_X5 ini_X5 rfl tyX5_ok rfl dfI_X5 dfV_X5 (Nat.le_of_ble_eq_true rfl) (Nat.le_of_ble_eq_true rfl) ?_
  refine ez_up (fun w19 e_w19 => ?_)
  refine ez_num (k2 := 40) (j2 := 3851) (n2 := 41) rfl rfl rfl ?_
  have h19_o := ((congrFun e_w19 0).trans (up_n (by decide))).trans h18_o
  have h19_v := (congrFun e_w19 40).trans up_s
  refine ez_dup (pc := 77) dX6_init_77 rfl ?_
  refine ez_callIV (as := []) (pc := 78) dX6_init_78 (tX5_init h19_v) lk_X6_40 ykX5_init nkX5_init rfl rfl (Nat.le_of_ble_eq_true rfl) ⟨by decide, by decide⟩ ⟨Nat.le_of_ble_eq_true rfl, Nat.le_of_ble_eq_true rfl⟩ (fun w20 p20 => ?_)
  refine ez_num (k2 := 48) (j2 := 7257) (n2 := 49) rfl rfl rfl ?_
  have h20_o := (p20.2 0 (by decide)).trans h19_o
  have g40 := p20
  refine ez_putF (pc := 81) dX6_init_81 fk_X6_45 (ty := tyX6 6) (fun _ _ _ h9 => by cases h9; exact ⟨tyX6_ok 6 (by decide), rfl, rfl⟩) (fun _ _ _ h9 h8 => by cases h9; exact wk_X6_45) h20_o (Nat.le_of_ble_eq_true rfl) (fun _ => rfl) (fun _ => rfl) rfl ?_
  refine ez_up (fun w21 e_w21 => ?_)
  have h21_o : w21 0 = xO 6 [xr 1, xr 3, xr 5, xr 7, xr 25, xr 31, xr 40, xn, xn, xi 0, xi 0, xi 0, xi 0] := (congrFun e_w21 0).trans up_s
  refine ez_aload_n (pc := 84) dX6_init_84 rfl ?_
  refine ez_new (T0 := TX1) (ci := 1) (N := 6) (fs := dfX1) tyX1 (pc := 85) dX6_init_85 ck_X6_48 nw_X1 ini_X1 rfl tyX1_ok rfl dfI_X1 dfV_X1 (Nat.le_of_ble_eq_true rfl) (Nat.le_of_ble_eq_true rfl) ?_
  refine ez_up (fun w22 e_w22 => ?_)
  refine ez_num (k2 := 49) (j2 := 7263) (n2 := 50) rfl rfl rfl ?_
  have h22_o := ((congrFun e_w22 0).trans (up_n (by decide))).trans h21_o
  have h22_v := (congrFun e_w22 49).trans up_s
  refine ez_dup (pc := 88) dX6_init_88 rfl ?_
  refine ez_callIV (as := []) (pc := 89) dX6_init_89 (tX1_init h22_v) lk_X6_50 ykX1_init nkX1_init rfl rfl (Nat.le_of_ble_eq_true rfl) ⟨by decide, by decide⟩ ⟨Nat.le_of_ble_eq_true rfl, Nat.le_of_ble_eq_true rfl⟩ (fun w23 p23 => ?_)
  refine ez_num (k2 := 52) (j2 := 7305) (n2 := 53) rfl rfl rfl ?_
  have h23_o := (p23.2 0 (by decide)).trans h22_o
  have g49 := p23
  refine ez_putF (pc := 92) dX6_init_92 fk_X6_51 (ty := tyX6 7) (fun _ _ _ h9 => by cases h9; exact ⟨tyX6_ok 7 (by decide), rfl, rfl⟩) (fun _ _ _ h9 h8 => by cases h9; exact wk_X6_51) h23_o (Nat.le_of_ble_eq_true rfl) (fun _ => rfl) (fun _ => rfl) rfl ?_
  refine ez_up (fun w24 e_w24 => ?_)
  have h24_o : w24 0 = xO 6 [xr 1, xr 3, xr 5, xr 7, xr 25, xr 31, xr 40, xr 49, xn, xi 0, xi 0, xi 0, xi 0] := (congrFun e_w24 0).trans up_s
  refine ez_aload_n (pc := 95) dX6_init_95 rfl ?_
  refine ez_new (T0 := TX0) (ci := 0) (N := 2) (fs := dfX0) tyX0 (pc := 96) dX6_init_96 ck_X6_55 nw_X0 ini_X0 rfl tyX0_ok rfl dfI_X0 dfV_X0 (Nat.le_of_ble_eq_true rfl) (Nat.le_of_ble_eq_true rfl) ?_
  refine ez_up (fun w25 e_w25 => ?_)
  refine ez_num (k2 := 53) (j2 := 7307) (n2 := 54) rfl rfl rfl ?_
  have h25_o := ((congrFun e_w25 0).trans (up_n (by decide))).trans h24_o
  have h25_v := (congrFun e_w25 53).trans up_s
  refine ez_dup (pc := 99) dX6_init_99 rfl ?_
  refine ez_callIV (as := []) (pc := 100) dX6_init_100 (tX0_init h25_v) lk_X6_57 ykX0_init nkX0_init rfl rfl (Nat.le_of_ble_eq_true rfl) ⟨by decide, by decide⟩ ⟨Nat.le_of_ble_eq_true rfl, Nat.le_of_ble_eq_true rfl⟩ (fun w26 p26 => ?_)
  refine ez_num (k2 := 54) (j2 := 7755) (n2 := 55) rfl rfl rfl ?_
  have h26_o := (p26.2.2 0 (by decide)).trans h25_o
  have g53 := p26
  refine ez_putF (pc := 103) dX6_init_103 fk_X6_58 (ty := tyX6 8) (fun _ _ _ h9 => by cases h9; exact ⟨tyX6_ok 8 (by decide), rfl, rfl⟩) (fun _ _ _ h9 h8 => by cases h9; exact wk_X6_58) h26_o (Nat.le_of_ble_eq_true rfl) (fun _ => rfl) (fun _ => rfl) rfl ?_
  refine ez_up (fun w27 e_w27 => ?_)
  have h27_o : w27 0 = xO 6 [xr 1, xr 3, xr 5, xr 7, xr 25, xr 31, xr 40, xr 49, xr 53, xi 0, xi 0, xi 0, xi 0] := (congrFun e_w27 0).trans up_s
  have f1 : ∀ z, 1 ≤ z → z ≤ 2 → w27 z = w2 z := by intro z z1 z2; rw [e_w27, up_n (by omega)]; rw [p26.2.2 z (by omega)]; rw [e_w25, up_n (by omega)]; rw [e_w24, up_n (by omega)]; rw [p23.2 z (by omega)]; rw [e_w22, up_n (by omega)]; rw [e_w21, up_n (by omega)]; rw [p20.2 z (by omega)]; rw [e_w19, up_n (by omega)]; rw [e_w18, up_n (by omega)]; rw [p17.2 z (by omega)]; rw [e_w16, up_n (by omega)]; rw [e_w15, up_n (by omega)]; rw [p14.2 z (by omega)]; rw [e_w13, up_n (by omega)]; rw [e_w12, up_n (by omega)]; rw [p11.2 z (by omega)]; rw [e_w10, up_n (by omega)]; rw [e_w9, up_n (by omega)]; rw [p8, up_n (by omega), up_n (by omega)]; rw [e_w7, up_n (by omega)]; rw [e_w6, up_n (by omega)]; rw [p5, up_n (by omega), up_n (by omega)]; rw [e_w4, up_n (by omega)]; rw [e_w3, up_n (by omega)]
  have f3 : ∀ z, 3 ≤ z → z ≤ 4 → w27 z = w5 z := by intro z z1 z2; rw [e_w27, up_n (by omega)]; rw [p26.2.2 z (by omega)]; rw [e_w25, up_n (by omega)]; rw [e_w24, up_n (by omega)]; rw [p23.2 z (by omega)]; rw [e_w22, up_n (by omega)]; rw [e_w21, up_n (by omega)]; rw [p20.2 z (by omega)]; rw [e_w19, up_n (by omega)]; rw [e_w18, up_n (by omega)]; rw [p17.2 z (by omega)]; rw [e_w16, up_n (by omega)]; rw [e_w15, up_n (by omega)]; rw [p14.2 z (by omega)]; rw [e_w13, up_n (by omega)]; rw [e_w12, up_n (by omega)]; rw [p11.2 z (by omega)]; rw [e_w10, up_n (by omega)]; rw [e_w9, up_n (by omega)]; rw [p8, up_n (by omega), up_n (by omega)]; rw [e_w7, up_n (by omega)]; rw [e_w6, up_n (by omega)]
  have f5 : ∀ z, 5 ≤ z → z ≤ 6 → w27 z = w8 z := by intro z z1 z2; rw [e_w27, up_n (by omega)]; rw [p26.2.2 z (by omega)]; rw [e_w25, up_n (by omega)]; rw [e_w24, up_n (by omega)]; rw [p23.2 z (by omega)]; rw [e_w22, up_n (by omega)]; rw [e_w21, up_n (by omega)]; rw [p20.2 z (by omega)]; rw [e_w19, up_n (by omega)]; rw [e_w18, up_n (by omega)]; rw [p17.2 z (by omega)]; rw [e_w16, up_n (by omega)]; rw [e_w15, up_n (by omega)]; rw [p14.2 z (by omega)]; rw [e_w13, up_n (by omega)]; rw [e_w12, up_n (by omega)]; rw [p11.2 z (by omega)]; rw [e_w10, up_n (by omega)]; rw [e_w9, up_n (by omega)]
  have f7 : ∀ z, 7 ≤ z → z ≤ 24 → w27 z = w11 z := by intro z z1 z2; rw [e_w27, up_n (by omega)]; rw [p26.2.2 z (by omega)]; rw [e_w25, up_n (by omega)]; rw [e_w24, up_n (by omega)]; rw [p23.2 z (by omega)]; rw [e_w22, up_n (by omega)]; rw [e_w21, up_n (by omega)]; rw [p20.2 z (by omega)]; rw [e_w19, up_n (by omega)]; rw [e_w18, up_n (by omega)]; rw [p17.2 z (by omega)]; rw [e_w16, up_n (by omega)]; rw [e_w15, up_n (by omega)]; rw [p14.2 z (by omega)]; rw [e_w13, up_n (by omega)]; rw [e_w12, up_n (by omega)]
  have f25 : ∀ z, 25 ≤ z → z ≤ 30 → w27 z = w14 z := by intro z z1 z2; rw [e_w27, up_n (by omega)]; rw [p26.2.2 z (by omega)]; rw [e_w25, up_n (by omega)]; rw [e_w24, up_n (by omega)]; rw [p23.2 z (by omega)]; rw [e_w22, up_n (by omega)]; rw [e_w21, up_n (by omega)]; rw [p20.2 z (by omega)]; rw [e_w19, up_n (by omega)]; rw [e_w18, up_n (by omega)]; rw [p17.2 z (by omega)]; rw [e_w16, up_n (by omega)]; rw [e_w15, up_n (by omega)]
  have f31 : ∀ z, 31 ≤ z → z ≤ 39 → w27 z = w17 z := by intro z z1 z2; rw [e_w27, up_n (by omega)]; rw [p26.2.2 z (by omega)]; rw [e_w25, up_n (by omega)]; rw [e_w24, up_n (by omega)]; rw [p23.2 z (by omega)]; rw [e_w22, up_n (by omega)]; rw [e_w21, up_n (by omega)]; rw [p20.2 z (by omega)]; rw [e_w19, up_n (by omega)]; rw [e_w18, up_n (by omega)]
  have f40 : ∀ z, 40 ≤ z → z ≤ 48 → w27 z = w20 z := by intro z z1 z2; rw [e_w27, up_n (by omega)]; rw [p26.2.2 z (by omega)]; rw [e_w25, up_n (by omega)]; rw [e_w24, up_n (by omega)]; rw [p23.2 z (by omega)]; rw [e_w22, up_n (by omega)]; rw [e_w21, up_n (by omega)]
  have f49 : ∀ z, 49 ≤ z → z ≤ 52 → w27 z = w23 z := by intro z z1 z2; rw [e_w27, up_n (by omega)]; rw [p26.2.2 z (by omega)]; rw [e_w25, up_n (by omega)]; rw [e_w24, up_n (by omega)]
  have f53 : ∀ z, 53 ≤ z → z ≤ 54 → w27 z = w26 z := by intro z z1 z2; rw [e_w27, up_n (by omega)]
  refine ez_iconst (pc := 106) dX6_init_106 (by decide) ?_
  refine ez_istore_n (L2 := [_, _]) (pc := 107) dX6_init_107 rfl (Nat.le_of_ble_eq_true rfl) rfl ?_
  exact loop w27 (g1.1.fr (f1 _ (by decide) (by decide)) (f1 _ (by decide) (by decide))) (TrX.fr ⟨0, 0, _, g5.1, g5.2⟩ (f5 _ (by decide) (by decide)) (f5 _ (by decide) (by decide))) (g7.1.fr (fun z z1 z2 => f7 z z1 (by omega)) (by decide)) (g25.1.fr (fun z z1 z2 => f25 z z1 (by omega)) (by decide)) (g31.1.fr (fun z z1 z2 => f31 z z1 (by omega))) (g40.1.fr (fun z z1 z2 => f40 z z1 (by omega))) (g49.1.fr (fun z z1 z2 => f49 z z1 (by omega))) (CvX.fr ⟨0, _, g53.1, g53.2.1⟩ (f53 _ (by decide) (by decide)) (f53 _ (by decide) (by decide))) 14 0 (by decide) (by decide) w27 h27_o (PcAt.fr ⟨_, g3.1, g3.2, (fun i hi => absurd hi (Nat.not_lt_zero _)), Nat.zero_le _⟩ (f3 _ (by decide) (by decide)) (f3 _ (by decide) (by decide))) (fun _ _ _ => rfl)

abbrev mX7_begins : xC := mkC yX7_begins cX7_begins 1 none 2 200 0 0
set_option maxHeartbeats 4000000 in
set_option maxRecDepth 100000 in
theorem tX7_begins {n : Nat} {w : xW} {uu kk ln pl mn pq cv sh be bg bc bp pa re px : Int} {f : Nat → Int} (h_o : w 55 = rO uu kk ln pl mn pq cv sh be bg bc bp pa re px) (h_r : w 57 = xA 30 f) (hR0 : RowL f 0 (iL 0) 0) : Ctr mX7_begins [xr 55] n w (pV (fun w2 => ∃ f2, w2 57 = xA 30 f2 ∧ RowL f2 0 (iL 13) 0 ∧ ∀ z, z ≠ 57 → w2 z = w z)) := by
  refine Ctr.of ykX7_begins rfl (Nat.le_of_ble_eq_true rfl) okV (fun hin hW => ?_)
  show Ex _ _ 0 0 n w 0 [some (xr 55)] []
  refine ex_aload_n (pc := 0) dX7_begins_0 rfl ?_
  refine ex_getfield (pc := 1) dX7_begins_1 fk_X7_13 h_o (by rfl) ?_
  refine ex_iconst (pc := 4) dX7_begins_4 (by decide) ?_
  refine ex_iconst (pc := 5) dX7_begins_5 (by decide) ?_
  refine ex_callSI (as := [_, _, _]) (pc := 6) dX7_begins_6 (tX7_puts h_r hR0 (by rw [iL_len]; decide) (iL_cod 0) (by decide)) lk_X7_53 ykX7_puts zkX7_puts rfl rfl (Nat.le_of_ble_eq_true rfl) ⟨by decide, by decide⟩ ⟨Nat.le_refl _, Nat.le_refl _⟩ (fun i6 w1 r6 p6 => ?_)
  obtain ⟨-, e6⟩ := p6
  have h1_o := ((congrFun e6 55).trans (up_n (by decide))).trans h_o
  have h1_r := (congrFun e6 57).trans up_s
  have hR1 := putF_row (t := 0) (b := 2) hR0 (by decide) (by rw [iL_len]; decide)
  have hR1 : RowL _ 0 (iL 1) 0 := hR1
  refine ex_pop (pc := 9) dX7_begins_9 rfl ?_
  refine ex_aload_n (pc := 10) dX7_begins_10 rfl ?_
  refine ex_getfield (pc := 11) dX7_begins_11 fk_X7_13 h1_o (by rfl) ?_
  refine ex_iconst (pc := 14) dX7_begins_14 (by decide) ?_
  refine ex_iconst (pc := 15) dX7_begins_15 (by decide) ?_
  refine ex_callSI (as := [_, _, _]) (pc := 16) dX7_begins_16 (tX7_puts h1_r hR1 (by rw [iL_len]; decide) (iL_cod 1) (by decide)) lk_X7_53 ykX7_puts zkX7_puts rfl rfl (Nat.le_of_ble_eq_true rfl) ⟨by decide, by decide⟩ ⟨Nat.le_refl _, Nat.le_refl _⟩ (fun i16 w2 r16 p16 => ?_)
  obtain ⟨-, e16⟩ := p16
  have h2_o := ((congrFun e16 55).trans (up_n (by decide))).trans h1_o
  have h2_r := (congrFun e16 57).trans up_s
  have hR2 := putF_row (t := 1) (b := 4) hR1 (by decide) (by rw [iL_len]; decide)
  have hR2 : RowL _ 0 (iL 2) 0 := hR2
  refine ex_pop (pc := 19) dX7_begins_19 rfl ?_
  refine ex_aload_n (pc := 20) dX7_begins_20 rfl ?_
  refine ex_getfield (pc := 21) dX7_begins_21 fk_X7_13 h2_o (by rfl) ?_
  refine ex_iconst (pc := 24) dX7_begins_24 (by decide) ?_
  refine ex_iconst (pc := 25) dX7_begins_25 (by decide) ?_
  refine ex_callSI (as := [_, _, _]) (pc := 26) dX7_begins_26 (tX7_puts h2_r hR2 (by rw [iL_len]; decide) (iL_cod 2) (by decide)) lk_X7_53 ykX7_puts zkX7_puts rfl rfl (Nat.le_of_ble_eq_true rfl) ⟨by decide, by decide⟩ ⟨Nat.le_refl _, Nat.le_refl _⟩ (fun i26 w3 r26 p26 => ?_)
  obtain ⟨-, e26⟩ := p26
  have h3_o := ((congrFun e26 55).trans (up_n (by decide))).trans h2_o
  have h3_r := (congrFun e26 57).trans up_s
  have hR3 := putF_row (t := 2) (b := 5) hR2 (by decide) (by rw [iL_len]; decide)
  have hR3 : RowL _ 0 (iL 3) 0 := hR3
  refine ex_pop (pc := 29) dX7_begins_29 rfl ?_
  refine ex_aload_n (pc := 30) dX7_begins_30 rfl ?_
  refine ex_getfield (pc := 31) dX7_begins_31 fk_X7_13 h3_o (by rfl) ?_
  refine ex_iconst (pc := 34) dX7_begins_34 (by decide) ?_
  refine ex_iconst (pc := 35) dX7_begins_35 (by decide) ?_
  refine ex_callSI (as := [_, _, _]) (pc := 36) dX7_begins_36 (tX7_puts h3_r hR3 (by rw [iL_len]; decide) (iL_cod 3) (by decide)) lk_X7_53 ykX7_puts zkX7_puts rfl rfl (Nat.le_of_ble_eq_true rfl) ⟨by decide, by decide⟩ ⟨Nat.le_refl _, Nat.le_refl _⟩ (fun i36 w4 r36 p36 => ?_)
  obtain ⟨-, e36⟩ := p36
  have h4_o := ((congrFun e36 55).trans (up_n (by decide))).trans h3_o
  have h4_r := (congrFun e36 57).trans up_s
  have hR4 := putF_row (t := 4) (b := 4) hR3 (by decide) (by rw [iL_len]; decide)
  have hR4 : RowL _ 0 (iL 4) 0 := hR4
  refine ex_pop (pc := 39) dX7_begins_39 rfl ?_
  refine ex_aload_n (pc := 40) dX7_begins_40 rfl ?_
  refine ex_getfield (pc := 41) dX7_begins_41 fk_X7_13 h4_o (by rfl) ?_
  refine ex_iconst (pc := 44) dX7_begins_44 (by decide) ?_
  refine ex_bipush (pc := 45) dX7_begins_45 (by decide) ?_
  refine ex_callSI (as := [_, _, _]) (pc := 47) dX7_begins_47 (tX7_puts h4_r hR4 (by rw [iL_len]; decide) (iL_cod 4) (by decide)) lk_X7_53 ykX7_puts zkX7_puts rfl rfl (Nat.le_of_ble_eq_true rfl) ⟨by decide, by decide⟩ ⟨Nat.le_refl _, Nat.le_refl _⟩ (fun i47 w5 r47 p47 => ?_)
  obtain ⟨-, e47⟩ := p47
  have h5_o := ((congrFun e47 55).trans (up_n (by decide))).trans h4_o
  have h5_r := (congrFun e47 57).trans up_s
  have hR5 := putF_row (t := 5) (b := 6) hR4 (by decide) (by rw [iL_len]; decide)
  have hR5 : RowL _ 0 (iL 5) 0 := hR5
  refine ex_pop (pc := 50) dX7_begins_50 rfl ?_
  refine ex_aload_n (pc := 51) dX7_begins_51 rfl ?_
  refine ex_getfield (pc := 52) dX7_begins_52 fk_X7_13 h5_o (by rfl) ?_
  refine ex_bipush (pc := 55) dX7_begins_55 (by decide) ?_
  refine ex_bipush (pc := 57) dX7_begins_57 (by decide) ?_
  refine ex_callSI (as := [_, _, _]) (pc := 59) dX7_begins_59 (tX7_puts h5_r hR5 (by rw [iL_len]; decide) (iL_cod 5) (by decide)) lk_X7_53 ykX7_puts zkX7_puts rfl rfl (Nat.le_of_ble_eq_true rfl) ⟨by decide, by decide⟩ ⟨Nat.le_refl _, Nat.le_refl _⟩ (fun i59 w6 r59 p59 => ?_)
  obtain ⟨-, e59⟩ := p59
  have h6_o := ((congrFun e59 55).trans (up_n (by decide))).trans h5_o
  have h6_r := (congrFun e59 57).trans up_s
  have hR6 := putF_row (t := 6) (b := 7) hR5 (by decide) (by rw [iL_len]; decide)
  have hR6 : RowL _ 0 (iL 6) 0 := hR6
  refine ex_pop (pc := 62) dX7_begins_62 rfl ?_
  refine ex_aload_n (pc := 63) dX7_begins_63 rfl ?_
  refine ex_getfield (pc := 64) dX7_begins_64 fk_X7_13 h6_o (by rfl) ?_
  refine ex_bipush (pc := 67) dX7_begins_67 (by decide) ?_
  refine ex_iconst (pc := 69) dX7_begins_69 (by decide) ?_
  refine ex_callSI (as := [_, _, _]) (pc := 70) dX7_begins_70 (tX7_puts h6_r hR6 (by rw [iL_len]; decide) (iL_cod 6) (by decide)) lk_X7_53 ykX7_puts zkX7_puts rfl rfl (Nat.le_of_ble_eq_true rfl) ⟨by decide, by decide⟩ ⟨Nat.le_refl _, Nat.le_refl _⟩ (fun i70 w7 r70 p70 => ?_)
  obtain ⟨-, e70⟩ := p70
  have h7_o := ((congrFun e70 55).trans (up_n (by decide))).trans h6_o
  have h7_r := (congrFun e70 57).trans up_s
  have hR7 := putF_row (t := 8) (b := 2) hR6 (by decide) (by rw [iL_len]; decide)
  have hR7 : RowL _ 0 (iL 7) 0 := hR7
  refine ex_pop (pc := 73) dX7_begins_73 rfl ?_
  refine ex_aload_n (pc := 74) dX7_begins_74 rfl ?_
  refine ex_getfield (pc := 75) dX7_begins_75 fk_X7_13 h7_o (by rfl) ?_
  refine ex_bipush (pc := 78) dX7_begins_78 (by decide) ?_
  refine ex_iconst (pc := 80) dX7_begins_80 (by decide) ?_
  refine ex_callSI (as := [_, _, _]) (pc := 81) dX7_begins_81 (tX7_puts h7_r hR7 (by rw [iL_len]; decide) (iL_cod 7) (by decide)) lk_X7_53 ykX7_puts zkX7_puts rfl rfl (Nat.le_of_ble_eq_true rfl) ⟨by decide, by decide⟩ ⟨Nat.le_refl _, Nat.le_refl _⟩ (fun i81 w8 r81 p81 => ?_)
  obtain ⟨-, e81⟩ := p81
  have h8_o := ((congrFun e81 55).trans (up_n (by decide))).trans h7_o
  have h8_r := (congrFun e81 57).trans up_s
  have hR8 := putF_row (t := 9) (b := 4) hR7 (by decide) (by rw [iL_len]; decide)
  have hR8 : RowL _ 0 (iL 8) 0 := hR8
  refine ex_pop (pc := 84) dX7_begins_84 rfl ?_
  refine ex_aload_n (pc := 85) dX7_begins_85 rfl ?_
  refine ex_getfield (pc := 86) dX7_begins_86 fk_X7_13 h8_o (by rfl) ?_
  refine ex_bipush (pc := 89) dX7_begins_89 (by decide) ?_
  refine ex_bipush (pc := 91) dX7_begins_91 (by decide) ?_
  refine ex_callSI (as := [_, _, _]) (pc := 93) dX7_begins_93 (tX7_puts h8_r hR8 (by rw [iL_len]; decide) (iL_cod 8) (by decide)) lk_X7_53 ykX7_puts zkX7_puts rfl rfl (Nat.le_of_ble_eq_true rfl) ⟨by decide, by decide⟩ ⟨Nat.le_refl _, Nat.le_refl _⟩ (fun i93 w9 r93 p93 => ?_)
  obtain ⟨-, e93⟩ := p93
  have h9_o := ((congrFun e93 55).trans (up_n (by decide))).trans h8_o
  have h9_r := (congrFun e93 57).trans up_s
  have hR9 := putF_row (t := 10) (b := 6) hR8 (by decide) (by rw [iL_len]; decide)
  have hR9 : RowL _ 0 (iL 9) 0 := hR9
  refine ex_pop (pc := 96) dX7_begins_96 rfl ?_
  refine ex_aload_n (pc := 97) dX7_begins_97 rfl ?_
  refine ex_getfield (pc := 98) dX7_begins_98 fk_X7_13 h9_o (by rfl) ?_
  refine ex_bipush (pc := 101) dX7_begins_101 (by decide) ?_
  refine ex_iconst (pc := 103) dX7_begins_103 (by decide) ?_
  refine ex_callSI (as := [_, _, _]) (pc := 104) dX7_begins_104 (tX7_puts h9_r hR9 (by rw [iL_len]; decide) (iL_cod 9) (by decide)) lk_X7_53 ykX7_puts zkX7_puts rfl rfl (Nat.le_of_ble_eq_true rfl) ⟨by decide, by decide⟩ ⟨Nat.le_refl _, Nat.le_refl _⟩ (fun i104 w10 r104 p104 => ?_)
  obtain ⟨-, e104⟩ := p104
  have h10_o := ((congrFun e104 55).trans (up_n (by decide))).trans h9_o
  have h10_r := (congrFun e104 57).trans up_s
  have hR10 := putF_row (t := 12) (b := 0) hR9 (by decide) (by rw [iL_len]; decide)
  have hR10 : RowL _ 0 (iL 10) 0 := hR10
  refine ex_pop (pc := 107) dX7_begins_107 rfl ?_
  refine ex_aload_n (pc := 108) dX7_begins_108 rfl ?_
  refine ex_getfield (pc := 109) dX7_begins_109 fk_X7_13 h10_o (by rfl) ?_
  refine ex_bipush (pc := 112) dX7_begins_112 (by decide) ?_
  refine ex_iconst (pc := 114) dX7_begins_114 (by decide) ?_
  refine ex_callSI (as := [_, _, _]) (pc := 115) dX7_begins_115 (tX7_puts h10_r hR10 (by rw [iL_len]; decide) (iL_cod 10) (by decide)) lk_X7_53 ykX7_puts zkX7_puts rfl rfl (Nat.le_of_ble_eq_true rfl) ⟨by decide, by decide⟩ ⟨Nat.le_refl _, Nat.le_refl _⟩ (fun i115 w11 r115 p115 => ?_)
  obtain ⟨-, e115⟩ := p115
  have h11_o := ((congrFun e115 55).trans (up_n (by decide))).trans h10_o
  have h11_r := (congrFun e115 57).trans up_s
  have hR11 := putF_row (t := 13) (b := 2) hR10 (by decide) (by rw [iL_len]; decide)
  have hR11 : RowL _ 0 (iL 11) 0 := hR11
  refine ex_pop (pc := 118) dX7_begins_118 rfl ?_
  refine ex_aload_n (pc := 119) dX7_begins_119 rfl ?_
  refine ex_getfield (pc := 120) dX7_begins_120 fk_X7_13 h11_o (by rfl) ?_
  refine ex_bipush (pc := 123) dX7_begins_123 (by decide) ?_
  refine ex_iconst (pc := 125) dX7_begins_125 (by decide) ?_
  refine ex_callSI (as := [_, _, _]) (pc := 126) dX7_begins_126 (tX7_puts h11_r hR11 (by rw [iL_len]; decide) (iL_cod 11) (by decide)) lk_X7_53 ykX7_puts zkX7_puts rfl rfl (Nat.le_of_ble_eq_true rfl) ⟨by decide, by decide⟩ ⟨Nat.le_refl _, Nat.le_refl _⟩ (fun i126 w12 r126 p126 => ?_)
  obtain ⟨-, e126⟩ := p126
  have h12_o := ((congrFun e126 55).trans (up_n (by decide))).trans h11_o
  have h12_r := (congrFun e126 57).trans up_s
  have hR12 := putF_row (t := 14) (b := 3) hR11 (by decide) (by rw [iL_len]; decide)
  have hR12 : RowL _ 0 (iL 12) 0 := hR12
  refine ex_pop (pc := 129) dX7_begins_129 rfl ?_
  refine ex_aload_n (pc := 130) dX7_begins_130 rfl ?_
  refine ex_getfield (pc := 131) dX7_begins_131 fk_X7_13 h12_o (by rfl) ?_
  refine ex_bipush (pc := 134) dX7_begins_134 (by decide) ?_
  refine ex_bipush (pc := 136) dX7_begins_136 (by decide) ?_
  refine ex_callSI (as := [_, _, _]) (pc := 138) dX7_begins_138 (tX7_puts h12_r hR12 (by rw [iL_len]; decide) (iL_cod 12) (by decide)) lk_X7_53 ykX7_puts zkX7_puts rfl rfl (Nat.le_of_ble_eq_true rfl) ⟨by decide, by decide⟩ ⟨Nat.le_refl _, Nat.le_refl _⟩ (fun i138 w13 r138 p138 => ?_)
  obtain ⟨-, e138⟩ := p138
  have h13_o := ((congrFun e138 55).trans (up_n (by decide))).trans h12_o
  have h13_r := (congrFun e138 57).trans up_s
  have hR13 := putF_row (t := 15) (b := 11) hR12 (by decide) (by rw [iL_len]; decide)
  have hR13 : RowL _ 0 (iL 13) 0 := hR13
  refine ex_pop (pc := 141) dX7_begins_141 rfl ?_
  exact ex_vret (pc := 142) dX7_begins_142 ⟨_, h13_r, hR13, fun z z1 => by rw [e138, up_n z1]; rw [e126, up_n z1]; rw [e115, up_n z1]; rw [e104, up_n z1]; rw [e93, up_n z1]; rw [e81, up_n z1]; rw [e70, up_n z1]; rw [e59, up_n z1]; rw [e47, up_n z1]; rw [e36, up_n z1]; rw [e26, up_n z1]; rw [e16, up_n z1]; rw [e6, up_n z1]⟩ rfl (Nat.le_refl _)

abbrev mX7_init : xC := mkC yX7_init cX7_init 1 none 3 300 12 19028
set_option maxHeartbeats 4000000 in
set_option maxRecDepth 100000 in
theorem tX7_init {w : xW} (h_o : w 55 = xO 7 dfX7) : Ctr mX7_init [xr 55] 56 w (pV (fun w2 => RefS w2 st0 ∧ FrR w w2)) := by
  refine Ctr.of ykX7_init rfl (Nat.le_of_ble_eq_true rfl) okV (fun hin hW => ?_)
  show Ex _ _ 0 0 56 w 0 [some (xr 55)] []
  refine ex_aload_n (pc := 0) dX7_init_0 rfl ?_
  refine ex_obj (pc := 1) dX7_init_1 wl_X7_1 (by decide) (Nat.le_of_ble_eq_true rfl) ?_
  refine ex_aload_n (pc := 4) dX7_init_4 rfl ?_
  refine ex_bipush (pc := 5) dX7_init_5 (by decide) ?_
  refine ex_newarr (pc := 7) dX7_init_7 (N := 30) rfl (by decide) (Nat.le_of_ble_eq_true rfl) (Nat.le_of_ble_eq_true rfl) ?_
  refine ex_up (fun w1 e_w1 => ?_)
  have h1_o := ((congrFun e_w1 55).trans (up_n (by first | assumption | decide | omega))).trans h_o
  have h1_n := (congrFun e_w1 56).trans up_s
  refine ex_putF (pc := 9) dX7_init_9 fk_X7_7 (ty := tyX7 0) (fun _ _ _ h9 => by cases h9; exact ⟨tyX7_ok 0 (by decide), rfl, rfl⟩) (fun _ _ _ h9 h8 => by cases h9; exact wk_X7_7) h1_o (Nat.le_of_ble_eq_true rfl) (fun _ => rfl) (fun _ => rfl) rfl ?_
  refine ex_up (fun w2 e_w2 => ?_)
  have h2_o := (congrFun e_w2 55).trans up_s
  have h2_n := ((congrFun e_w2 56).trans (up_n (by first | assumption | decide | omega))).trans h1_n
  refine ex_aload_n (pc := 12) dX7_init_12 rfl ?_
  refine ex_bipush (pc := 13) dX7_init_13 (by decide) ?_
  refine ex_newarr (pc := 15) dX7_init_15 (N := 30) rfl (by decide) (Nat.le_of_ble_eq_true rfl) (Nat.le_of_ble_eq_true rfl) ?_
  refine ex_up (fun w3 e_w3 => ?_)
  have h3_o := ((congrFun e_w3 55).trans (up_n (by first | assumption | decide | omega))).trans h2_o
  have h3_n := ((congrFun e_w3 56).trans (up_n (by first | assumption | decide | omega))).trans h2_n
  have h3_r := (congrFun e_w3 57).trans up_s
  refine ex_putF (pc := 17) dX7_init_17 fk_X7_13 (ty := tyX7 1) (fun _ _ _ h9 => by cases h9; exact ⟨tyX7_ok 1 (by decide), rfl, rfl⟩) (fun _ _ _ h9 h8 => by cases h9; exact wk_X7_13) h3_o (Nat.le_of_ble_eq_true rfl) (fun _ => rfl) (fun _ => rfl) rfl ?_
  refine ex_up (fun w4 e_w4 => ?_)
  have h4_o := (congrFun e_w4 55).trans up_s
  have h4_n := ((congrFun e_w4 56).trans (up_n (by first | assumption | decide | omega))).trans h3_n
  have h4_r := ((congrFun e_w4 57).trans (up_n (by first | assumption | decide | omega))).trans h3_r
  refine ex_aload_n (pc := 20) dX7_init_20 rfl ?_
  refine ex_bipush (pc := 21) dX7_init_21 (by decide) ?_
  refine ex_newarr (pc := 23) dX7_init_23 (N := 30) rfl (by decide) (Nat.le_of_ble_eq_true rfl) (Nat.le_of_ble_eq_true rfl) ?_
  refine ex_up (fun w5 e_w5 => ?_)
  have h5_o := ((congrFun e_w5 55).trans (up_n (by first | assumption | decide | omega))).trans h4_o
  have h5_n := ((congrFun e_w5 56).trans (up_n (by first | assumption | decide | omega))).trans h4_n
  have h5_r := ((congrFun e_w5 57).trans (up_n (by first | assumption | decide | omega))).trans h4_r
  have h5_a := (congrFun e_w5 58).trans up_s
  refine ex_putF (pc := 25) dX7_init_25 fk_X7_16 (ty := tyX7 2) (fun _ _ _ h9 => by cases h9; exact ⟨tyX7_ok 2 (by decide), rfl, rfl⟩) (fun _ _ _ h9 h8 => by cases h9; exact wk_X7_16) h5_o (Nat.le_of_ble_eq_true rfl) (fun _ => rfl) (fun _ => rfl) rfl ?_
  refine ex_up (fun w6 e_w6 => ?_)
  have h6_o := (congrFun e_w6 55).trans up_s
  have h6_n := ((congrFun e_w6 56).trans (up_n (by first | assumption | decide | omega))).trans h5_n
  have h6_r := ((congrFun e_w6 57).trans (up_n (by first | assumption | decide | omega))).trans h5_r
  have h6_a := ((congrFun e_w6 58).trans (up_n (by first | assumption | decide | omega))).trans h5_a
  refine ex_aload_n (pc := 28) dX7_init_28 rfl ?_
  refine ex_sipush (pc := 29) dX7_init_29 (by decide) ?_
  refine ex_newarr (pc := 32) dX7_init_32 (N := 240) rfl (by decide) (Nat.le_of_ble_eq_true rfl) (Nat.le_of_ble_eq_true rfl) ?_
  refine ex_up (fun w7 e_w7 => ?_)
  have h7_o := ((congrFun e_w7 55).trans (up_n (by first | assumption | decide | omega))).trans h6_o
  have h7_n := ((congrFun e_w7 56).trans (up_n (by first | assumption | decide | omega))).trans h6_n
  have h7_r := ((congrFun e_w7 57).trans (up_n (by first | assumption | decide | omega))).trans h6_r
  have h7_a := ((congrFun e_w7 58).trans (up_n (by first | assumption | decide | omega))).trans h6_a
  have h7_p := (congrFun e_w7 59).trans up_s
  refine ex_putF (pc := 34) dX7_init_34 fk_X7_19 (ty := tyX7 3) (fun _ _ _ h9 => by cases h9; exact ⟨tyX7_ok 3 (by decide), rfl, rfl⟩) (fun _ _ _ h9 h8 => by cases h9; exact wk_X7_19) h7_o (Nat.le_of_ble_eq_true rfl) (fun _ => rfl) (fun _ => rfl) rfl ?_
  refine ex_up (fun w8 e_w8 => ?_)
  have h8_o := (congrFun e_w8 55).trans up_s
  have h8_n := ((congrFun e_w8 56).trans (up_n (by first | assumption | decide | omega))).trans h7_n
  have h8_r := ((congrFun e_w8 57).trans (up_n (by first | assumption | decide | omega))).trans h7_r
  have h8_a := ((congrFun e_w8 58).trans (up_n (by first | assumption | decide | omega))).trans h7_a
  have h8_p := ((congrFun e_w8 59).trans (up_n (by first | assumption | decide | omega))).trans h7_p
  refine ex_aload_n (pc := 37) dX7_init_37 rfl ?_
  refine ex_bipush (pc := 38) dX7_init_38 (by decide) ?_
  refine ex_newarr (pc := 40) dX7_init_40 (N := 60) rfl (by decide) (Nat.le_of_ble_eq_true rfl) (Nat.le_of_ble_eq_true rfl) ?_
  refine ex_up (fun w9 e_w9 => ?_)
  have h9_o := ((congrFun e_w9 55).trans (up_n (by first | assumption | decide | omega))).trans h8_o
  have h9_n := ((congrFun e_w9 56).trans (up_n (by first | assumption | decide | omega))).trans h8_n
  have h9_r := ((congrFun e_w9 57).trans (up_n (by first | assumption | decide | omega))).trans h8_r
  have h9_a := ((congrFun e_w9 58).trans (up_n (by first | assumption | decide | omega))).trans h8_a
  have h9_p := ((congrFun e_w9 59).trans (up_n (by first | assumption | decide | omega))).trans h8_p
  have h9_k := (congrFun e_w9 60).trans up_s
  refine ex_putF (pc := 42) dX7_init_42 fk_X7_22 (ty := tyX7 5) (fun _ _ _ h9 => by cases h9; exact ⟨tyX7_ok 5 (by decide), rfl, rfl⟩) (fun _ _ _ h9 h8 => by cases h9; exact wk_X7_22) h9_o (Nat.le_of_ble_eq_true rfl) (fun _ => rfl) (fun _ => rfl) rfl ?_
  refine ex_up (fun w10 e_w10 => ?_)
  have h10_o := (congrFun e_w10 55).trans up_s
  have h10_n := ((congrFun e_w10 56).trans (up_n (by first | assumption | decide | omega))).trans h9_n
  have h10_r := ((congrFun e_w10 57).trans (up_n (by first | assumption | decide | omega))).trans h9_r
  have h10_a := ((congrFun e_w10 58).trans (up_n (by first | assumption | decide | omega))).trans h9_a
  have h10_p := ((congrFun e_w10 59).trans (up_n (by first | assumption | decide | omega))).trans h9_p
  have h10_k := ((congrFun e_w10 60).trans (up_n (by first | assumption | decide | omega))).trans h9_k
  refine ex_aload_n (pc := 45) dX7_init_45 rfl ?_
  refine ex_sipush (pc := 46) dX7_init_46 (by decide) ?_
  refine ex_newarr (pc := 49) dX7_init_49 (N := 200) rfl (by decide) (Nat.le_of_ble_eq_true rfl) (Nat.le_of_ble_eq_true rfl) ?_
  refine ex_up (fun w11 e_w11 => ?_)
  have h11_o := ((congrFun e_w11 55).trans (up_n (by first | assumption | decide | omega))).trans h10_o
  have h11_n := ((congrFun e_w11 56).trans (up_n (by first | assumption | decide | omega))).trans h10_n
  have h11_r := ((congrFun e_w11 57).trans (up_n (by first | assumption | decide | omega))).trans h10_r
  have h11_a := ((congrFun e_w11 58).trans (up_n (by first | assumption | decide | omega))).trans h10_a
  have h11_p := ((congrFun e_w11 59).trans (up_n (by first | assumption | decide | omega))).trans h10_p
  have h11_k := ((congrFun e_w11 60).trans (up_n (by first | assumption | decide | omega))).trans h10_k
  have h11_t := (congrFun e_w11 61).trans up_s
  refine ex_putF (pc := 51) dX7_init_51 fk_X7_25 (ty := tyX7 7) (fun _ _ _ h9 => by cases h9; exact ⟨tyX7_ok 7 (by decide), rfl, rfl⟩) (fun _ _ _ h9 h8 => by cases h9; exact wk_X7_25) h11_o (Nat.le_of_ble_eq_true rfl) (fun _ => rfl) (fun _ => rfl) rfl ?_
  refine ex_up (fun w12 e_w12 => ?_)
  have h12_o := (congrFun e_w12 55).trans up_s
  have h12_n := ((congrFun e_w12 56).trans (up_n (by first | assumption | decide | omega))).trans h11_n
  have h12_r := ((congrFun e_w12 57).trans (up_n (by first | assumption | decide | omega))).trans h11_r
  have h12_a := ((congrFun e_w12 58).trans (up_n (by first | assumption | decide | omega))).trans h11_a
  have h12_p := ((congrFun e_w12 59).trans (up_n (by first | assumption | decide | omega))).trans h11_p
  have h12_k := ((congrFun e_w12 60).trans (up_n (by first | assumption | decide | omega))).trans h11_k
  have h12_t := ((congrFun e_w12 61).trans (up_n (by first | assumption | decide | omega))).trans h11_t
  refine ex_aload_n (pc := 54) dX7_init_54 rfl ?_
  refine ex_sipush (pc := 55) dX7_init_55 (by decide) ?_
  refine ex_newarr (pc := 58) dX7_init_58 (N := 240) rfl (by decide) (Nat.le_of_ble_eq_true rfl) (Nat.le_of_ble_eq_true rfl) ?_
  refine ex_up (fun w13 e_w13 => ?_)
  have h13_o := ((congrFun e_w13 55).trans (up_n (by first | assumption | decide | omega))).trans h12_o
  have h13_n := ((congrFun e_w13 56).trans (up_n (by first | assumption | decide | omega))).trans h12_n
  have h13_r := ((congrFun e_w13 57).trans (up_n (by first | assumption | decide | omega))).trans h12_r
  have h13_a := ((congrFun e_w13 58).trans (up_n (by first | assumption | decide | omega))).trans h12_a
  have h13_p := ((congrFun e_w13 59).trans (up_n (by first | assumption | decide | omega))).trans h12_p
  have h13_k := ((congrFun e_w13 60).trans (up_n (by first | assumption | decide | omega))).trans h12_k
  have h13_t := ((congrFun e_w13 61).trans (up_n (by first | assumption | decide | omega))).trans h12_t
  have h13_A := (congrFun e_w13 62).trans up_s
  refine ex_putF (pc := 60) dX7_init_60 fk_X7_28 (ty := tyX7 10) (fun _ _ _ h9 => by cases h9; exact ⟨tyX7_ok 10 (by decide), rfl, rfl⟩) (fun _ _ _ h9 h8 => by cases h9; exact wk_X7_28) h13_o (Nat.le_of_ble_eq_true rfl) (fun _ => rfl) (fun _ => rfl) rfl ?_
  refine ex_up (fun w14 e_w14 => ?_)
  have h14_o := (congrFun e_w14 55).trans up_s
  have h14_n := ((congrFun e_w14 56).trans (up_n (by first | assumption | decide | omega))).trans h13_n
  have h14_r := ((congrFun e_w14 57).trans (up_n (by first | assumption | decide | omega))).trans h13_r
  have h14_a := ((congrFun e_w14 58).trans (up_n (by first | assumption | decide | omega))).trans h13_a
  have h14_p := ((congrFun e_w14 59).trans (up_n (by first | assumption | decide | omega))).trans h13_p
  have h14_k := ((congrFun e_w14 60).trans (up_n (by first | assumption | decide | omega))).trans h13_k
  have h14_t := ((congrFun e_w14 61).trans (up_n (by first | assumption | decide | omega))).trans h13_t
  have h14_A := ((congrFun e_w14 62).trans (up_n (by first | assumption | decide | omega))).trans h13_A
  refine ex_aload_n (pc := 63) dX7_init_63 rfl ?_
  refine ex_sipush (pc := 64) dX7_init_64 (by decide) ?_
  refine ex_newarr (pc := 67) dX7_init_67 (N := 897) rfl (by decide) (Nat.le_of_ble_eq_true rfl) (Nat.le_of_ble_eq_true rfl) ?_
  refine ex_up (fun w15 e_w15 => ?_)
  have h15_o := ((congrFun e_w15 55).trans (up_n (by first | assumption | decide | omega))).trans h14_o
  have h15_n := ((congrFun e_w15 56).trans (up_n (by first | assumption | decide | omega))).trans h14_n
  have h15_r := ((congrFun e_w15 57).trans (up_n (by first | assumption | decide | omega))).trans h14_r
  have h15_a := ((congrFun e_w15 58).trans (up_n (by first | assumption | decide | omega))).trans h14_a
  have h15_p := ((congrFun e_w15 59).trans (up_n (by first | assumption | decide | omega))).trans h14_p
  have h15_k := ((congrFun e_w15 60).trans (up_n (by first | assumption | decide | omega))).trans h14_k
  have h15_t := ((congrFun e_w15 61).trans (up_n (by first | assumption | decide | omega))).trans h14_t
  have h15_A := ((congrFun e_w15 62).trans (up_n (by first | assumption | decide | omega))).trans h14_A
  have h15_G := (congrFun e_w15 63).trans up_s
  refine ex_putF (pc := 69) dX7_init_69 fk_X7_31 (ty := tyX7 11) (fun _ _ _ h9 => by cases h9; exact ⟨tyX7_ok 11 (by decide), rfl, rfl⟩) (fun _ _ _ h9 h8 => by cases h9; exact wk_X7_31) h15_o (Nat.le_of_ble_eq_true rfl) (fun _ => rfl) (fun _ => rfl) rfl ?_
  refine ex_up (fun w16 e_w16 => ?_)
  have h16_o := (congrFun e_w16 55).trans up_s
  have h16_n := ((congrFun e_w16 56).trans (up_n (by first | assumption | decide | omega))).trans h15_n
  have h16_r := ((congrFun e_w16 57).trans (up_n (by first | assumption | decide | omega))).trans h15_r
  have h16_a := ((congrFun e_w16 58).trans (up_n (by first | assumption | decide | omega))).trans h15_a
  have h16_p := ((congrFun e_w16 59).trans (up_n (by first | assumption | decide | omega))).trans h15_p
  have h16_k := ((congrFun e_w16 60).trans (up_n (by first | assumption | decide | omega))).trans h15_k
  have h16_t := ((congrFun e_w16 61).trans (up_n (by first | assumption | decide | omega))).trans h15_t
  have h16_A := ((congrFun e_w16 62).trans (up_n (by first | assumption | decide | omega))).trans h15_A
  have h16_G := ((congrFun e_w16 63).trans (up_n (by first | assumption | decide | omega))).trans h15_G
  refine ex_aload_n (pc := 72) dX7_init_72 rfl ?_
  refine ex_sipush (pc := 73) dX7_init_73 (by decide) ?_
  refine ex_newarr (pc := 76) dX7_init_76 (N := 448) rfl (by decide) (Nat.le_of_ble_eq_true rfl) (Nat.le_of_ble_eq_true rfl) ?_
  refine ex_up (fun w17 e_w17 => ?_)
  have h17_o := ((congrFun e_w17 55).trans (up_n (by first | assumption | decide | omega))).trans h16_o
  have h17_n := ((congrFun e_w17 56).trans (up_n (by first | assumption | decide | omega))).trans h16_n
  have h17_r := ((congrFun e_w17 57).trans (up_n (by first | assumption | decide | omega))).trans h16_r
  have h17_a := ((congrFun e_w17 58).trans (up_n (by first | assumption | decide | omega))).trans h16_a
  have h17_p := ((congrFun e_w17 59).trans (up_n (by first | assumption | decide | omega))).trans h16_p
  have h17_k := ((congrFun e_w17 60).trans (up_n (by first | assumption | decide | omega))).trans h16_k
  have h17_t := ((congrFun e_w17 61).trans (up_n (by first | assumption | decide | omega))).trans h16_t
  have h17_A := ((congrFun e_w17 62).trans (up_n (by first | assumption | decide | omega))).trans h16_A
  have h17_G := ((congrFun e_w17 63).trans (up_n (by first | assumption | decide | omega))).trans h16_G
  have h17_S := (congrFun e_w17 64).trans up_s
  refine ex_putF (pc := 78) dX7_init_78 fk_X7_34 (ty := tyX7 16) (fun _ _ _ h9 => by cases h9; exact ⟨tyX7_ok 16 (by decide), rfl, rfl⟩) (fun _ _ _ h9 h8 => by cases h9; exact wk_X7_34) h17_o (Nat.le_of_ble_eq_true rfl) (fun _ => rfl) (fun _ => rfl) rfl ?_
  refine ex_up (fun w18 e_w18 => ?_)
  have h18_o := (congrFun e_w18 55).trans up_s
  have h18_n := ((congrFun e_w18 56).trans (up_n (by first | assumption | decide | omega))).trans h17_n
  have h18_r := ((congrFun e_w18 57).trans (up_n (by first | assumption | decide | omega))).trans h17_r
  have h18_a := ((congrFun e_w18 58).trans (up_n (by first | assumption | decide | omega))).trans h17_a
  have h18_p := ((congrFun e_w18 59).trans (up_n (by first | assumption | decide | omega))).trans h17_p
  have h18_k := ((congrFun e_w18 60).trans (up_n (by first | assumption | decide | omega))).trans h17_k
  have h18_t := ((congrFun e_w18 61).trans (up_n (by first | assumption | decide | omega))).trans h17_t
  have h18_A := ((congrFun e_w18 62).trans (up_n (by first | assumption | decide | omega))).trans h17_A
  have h18_G := ((congrFun e_w18 63).trans (up_n (by first | assumption | decide | omega))).trans h17_G
  have h18_S := ((congrFun e_w18 64).trans (up_n (by first | assumption | decide | omega))).trans h17_S
  refine ex_aload_n (pc := 81) dX7_init_81 rfl ?_
  refine ex_bipush (pc := 82) dX7_init_82 (by decide) ?_
  refine ex_newarr (pc := 84) dX7_init_84 (N := 21) rfl (by decide) (Nat.le_of_ble_eq_true rfl) (Nat.le_of_ble_eq_true rfl) ?_
  refine ex_up (fun w19 e_w19 => ?_)
  have h19_o := ((congrFun e_w19 55).trans (up_n (by first | assumption | decide | omega))).trans h18_o
  have h19_n := ((congrFun e_w19 56).trans (up_n (by first | assumption | decide | omega))).trans h18_n
  have h19_r := ((congrFun e_w19 57).trans (up_n (by first | assumption | decide | omega))).trans h18_r
  have h19_a := ((congrFun e_w19 58).trans (up_n (by first | assumption | decide | omega))).trans h18_a
  have h19_p := ((congrFun e_w19 59).trans (up_n (by first | assumption | decide | omega))).trans h18_p
  have h19_k := ((congrFun e_w19 60).trans (up_n (by first | assumption | decide | omega))).trans h18_k
  have h19_t := ((congrFun e_w19 61).trans (up_n (by first | assumption | decide | omega))).trans h18_t
  have h19_A := ((congrFun e_w19 62).trans (up_n (by first | assumption | decide | omega))).trans h18_A
  have h19_G := ((congrFun e_w19 63).trans (up_n (by first | assumption | decide | omega))).trans h18_G
  have h19_S := ((congrFun e_w19 64).trans (up_n (by first | assumption | decide | omega))).trans h18_S
  have h19_P := (congrFun e_w19 65).trans up_s
  refine ex_putF (pc := 86) dX7_init_86 fk_X7_37 (ty := tyX7 22) (fun _ _ _ h9 => by cases h9; exact ⟨tyX7_ok 22 (by decide), rfl, rfl⟩) (fun _ _ _ h9 h8 => by cases h9; exact wk_X7_37) h19_o (Nat.le_of_ble_eq_true rfl) (fun _ => rfl) (fun _ => rfl) rfl ?_
  refine ex_up (fun w20 e_w20 => ?_)
  have h20_o := (congrFun e_w20 55).trans up_s
  have h20_n := ((congrFun e_w20 56).trans (up_n (by first | assumption | decide | omega))).trans h19_n
  have h20_r := ((congrFun e_w20 57).trans (up_n (by first | assumption | decide | omega))).trans h19_r
  have h20_a := ((congrFun e_w20 58).trans (up_n (by first | assumption | decide | omega))).trans h19_a
  have h20_p := ((congrFun e_w20 59).trans (up_n (by first | assumption | decide | omega))).trans h19_p
  have h20_k := ((congrFun e_w20 60).trans (up_n (by first | assumption | decide | omega))).trans h19_k
  have h20_t := ((congrFun e_w20 61).trans (up_n (by first | assumption | decide | omega))).trans h19_t
  have h20_A := ((congrFun e_w20 62).trans (up_n (by first | assumption | decide | omega))).trans h19_A
  have h20_G := ((congrFun e_w20 63).trans (up_n (by first | assumption | decide | omega))).trans h19_G
  have h20_S := ((congrFun e_w20 64).trans (up_n (by first | assumption | decide | omega))).trans h19_S
  have h20_P := ((congrFun e_w20 65).trans (up_n (by first | assumption | decide | omega))).trans h19_P
  refine ex_aload_n (pc := 89) dX7_init_89 rfl ?_
  refine ex_sipush (pc := 90) dX7_init_90 (by decide) ?_
  refine ex_newarr (pc := 93) dX7_init_93 (N := 16384) rfl (by decide) (Nat.le_of_ble_eq_true rfl) (Nat.le_of_ble_eq_true rfl) ?_
  refine ex_up (fun w21 e_w21 => ?_)
  have h21_o := ((congrFun e_w21 55).trans (up_n (by first | assumption | decide | omega))).trans h20_o
  have h21_n := ((congrFun e_w21 56).trans (up_n (by first | assumption | decide | omega))).trans h20_n
  have h21_r := ((congrFun e_w21 57).trans (up_n (by first | assumption | decide | omega))).trans h20_r
  have h21_a := ((congrFun e_w21 58).trans (up_n (by first | assumption | decide | omega))).trans h20_a
  have h21_p := ((congrFun e_w21 59).trans (up_n (by first | assumption | decide | omega))).trans h20_p
  have h21_k := ((congrFun e_w21 60).trans (up_n (by first | assumption | decide | omega))).trans h20_k
  have h21_t := ((congrFun e_w21 61).trans (up_n (by first | assumption | decide | omega))).trans h20_t
  have h21_A := ((congrFun e_w21 62).trans (up_n (by first | assumption | decide | omega))).trans h20_A
  have h21_G := ((congrFun e_w21 63).trans (up_n (by first | assumption | decide | omega))).trans h20_G
  have h21_S := ((congrFun e_w21 64).trans (up_n (by first | assumption | decide | omega))).trans h20_S
  have h21_P := ((congrFun e_w21 65).trans (up_n (by first | assumption | decide | omega))).trans h20_P
  have h21_F := (congrFun e_w21 66).trans up_s
  refine ex_putF (pc := 95) dX7_init_95 fk_X7_40 (ty := tyX7 25) (fun _ _ _ h9 => by cases h9; exact ⟨tyX7_ok 25 (by decide), rfl, rfl⟩) (fun _ _ _ h9 h8 => by cases h9; exact wk_X7_40) h21_o (Nat.le_of_ble_eq_true rfl) (fun _ => rfl) (fun _ => rfl) rfl ?_
  refine ex_up (fun w22 e_w22 => ?_)
  have h22_o := (congrFun e_w22 55).trans up_s
  have h22_n := ((congrFun e_w22 56).trans (up_n (by first | assumption | decide | omega))).trans h21_n
  have h22_r := ((congrFun e_w22 57).trans (up_n (by first | assumption | decide | omega))).trans h21_r
  have h22_a := ((congrFun e_w22 58).trans (up_n (by first | assumption | decide | omega))).trans h21_a
  have h22_p := ((congrFun e_w22 59).trans (up_n (by first | assumption | decide | omega))).trans h21_p
  have h22_k := ((congrFun e_w22 60).trans (up_n (by first | assumption | decide | omega))).trans h21_k
  have h22_t := ((congrFun e_w22 61).trans (up_n (by first | assumption | decide | omega))).trans h21_t
  have h22_A := ((congrFun e_w22 62).trans (up_n (by first | assumption | decide | omega))).trans h21_A
  have h22_G := ((congrFun e_w22 63).trans (up_n (by first | assumption | decide | omega))).trans h21_G
  have h22_S := ((congrFun e_w22 64).trans (up_n (by first | assumption | decide | omega))).trans h21_S
  have h22_P := ((congrFun e_w22 65).trans (up_n (by first | assumption | decide | omega))).trans h21_P
  have h22_F := ((congrFun e_w22 66).trans (up_n (by first | assumption | decide | omega))).trans h21_F
  refine ex_aload_n (pc := 98) dX7_init_98 rfl ?_
  refine ex_sipush (pc := 99) dX7_init_99 (by decide) ?_
  refine ex_newarr (pc := 102) dX7_init_102 (N := 448) rfl (by decide) (Nat.le_of_ble_eq_true rfl) (Nat.le_of_ble_eq_true rfl) ?_
  refine ex_up (fun w23 e_w23 => ?_)
  have h23_o := ((congrFun e_w23 55).trans (up_n (by first | assumption | decide | omega))).trans h22_o
  have h23_n := ((congrFun e_w23 56).trans (up_n (by first | assumption | decide | omega))).trans h22_n
  have h23_r := ((congrFun e_w23 57).trans (up_n (by first | assumption | decide | omega))).trans h22_r
  have h23_a := ((congrFun e_w23 58).trans (up_n (by first | assumption | decide | omega))).trans h22_a
  have h23_p := ((congrFun e_w23 59).trans (up_n (by first | assumption | decide | omega))).trans h22_p
  have h23_k := ((congrFun e_w23 60).trans (up_n (by first | assumption | decide | omega))).trans h22_k
  have h23_t := ((congrFun e_w23 61).trans (up_n (by first | assumption | decide | omega))).trans h22_t
  have h23_A := ((congrFun e_w23 62).trans (up_n (by first | assumption | decide | omega))).trans h22_A
  have h23_G := ((congrFun e_w23 63).trans (up_n (by first | assumption | decide | omega))).trans h22_G
  have h23_S := ((congrFun e_w23 64).trans (up_n (by first | assumption | decide | omega))).trans h22_S
  have h23_P := ((congrFun e_w23 65).trans (up_n (by first | assumption | decide | omega))).trans h22_P
  have h23_F := ((congrFun e_w23 66).trans (up_n (by first | assumption | decide | omega))).trans h22_F
  have h23_V := (congrFun e_w23 67).trans up_s
  refine ex_putF (pc := 104) dX7_init_104 fk_X7_43 (ty := tyX7 26) (fun _ _ _ h9 => by cases h9; exact ⟨tyX7_ok 26 (by decide), rfl, rfl⟩) (fun _ _ _ h9 h8 => by cases h9; exact wk_X7_43) h23_o (Nat.le_of_ble_eq_true rfl) (fun _ => rfl) (fun _ => rfl) rfl ?_
  refine ex_up (fun w24 e_w24 => ?_)
  have h24_o := (congrFun e_w24 55).trans up_s
  have h24_n := ((congrFun e_w24 56).trans (up_n (by first | assumption | decide | omega))).trans h23_n
  have h24_r := ((congrFun e_w24 57).trans (up_n (by first | assumption | decide | omega))).trans h23_r
  have h24_a := ((congrFun e_w24 58).trans (up_n (by first | assumption | decide | omega))).trans h23_a
  have h24_p := ((congrFun e_w24 59).trans (up_n (by first | assumption | decide | omega))).trans h23_p
  have h24_k := ((congrFun e_w24 60).trans (up_n (by first | assumption | decide | omega))).trans h23_k
  have h24_t := ((congrFun e_w24 61).trans (up_n (by first | assumption | decide | omega))).trans h23_t
  have h24_A := ((congrFun e_w24 62).trans (up_n (by first | assumption | decide | omega))).trans h23_A
  have h24_G := ((congrFun e_w24 63).trans (up_n (by first | assumption | decide | omega))).trans h23_G
  have h24_S := ((congrFun e_w24 64).trans (up_n (by first | assumption | decide | omega))).trans h23_S
  have h24_P := ((congrFun e_w24 65).trans (up_n (by first | assumption | decide | omega))).trans h23_P
  have h24_F := ((congrFun e_w24 66).trans (up_n (by first | assumption | decide | omega))).trans h23_F
  have h24_V := ((congrFun e_w24 67).trans (up_n (by first | assumption | decide | omega))).trans h23_V
  refine ex_aload_n (pc := 107) dX7_init_107 rfl ?_
  refine ex_callVV (as := []) (pc := 108) dX7_init_108 (tX7_begins h24_o h24_r ⟨rfl, rfl, fun i hi => absurd hi (Nat.not_lt_zero _)⟩) lk_X7_46 ykX7_begins vkX7_begins h24_o rfl rfl rfl (Nat.le_of_ble_eq_true rfl) ⟨by decide, by decide⟩ ⟨Nat.le_refl _, Nat.le_refl _⟩ (fun w25 p108 => ?_)
  obtain ⟨f25, h25_r, hR, hfB⟩ := p108
  have h25_o := (hfB 55 (by decide)).trans h24_o
  have h25_n := (hfB 56 (by decide)).trans h24_n
  have h25_a := (hfB 58 (by decide)).trans h24_a
  have h25_p := (hfB 59 (by decide)).trans h24_p
  have h25_k := (hfB 60 (by decide)).trans h24_k
  have h25_t := (hfB 61 (by decide)).trans h24_t
  have h25_A := (hfB 62 (by decide)).trans h24_A
  have h25_G := (hfB 63 (by decide)).trans h24_G
  have h25_S := (hfB 64 (by decide)).trans h24_S
  have h25_P := (hfB 65 (by decide)).trans h24_P
  have h25_F := (hfB 66 (by decide)).trans h24_F
  have h25_V := (hfB 67 (by decide)).trans h24_V
  refine ex_aload_n (pc := 111) dX7_init_111 rfl ?_
  refine ex_getfield (pc := 112) dX7_init_112 fk_X7_13 h25_o (by rfl) ?_
  refine ex_iconst (pc := 115) dX7_init_115 (by decide) ?_
  refine ex_aload_n (pc := 116) dX7_init_116 rfl ?_
  refine ex_getfield (pc := 117) dX7_init_117 fk_X7_7 h25_o (by rfl) ?_
  refine ex_iconst (pc := 120) dX7_init_120 (by decide) ?_
  refine ex_callSV (as := [_, _, _, _]) (pc := 121) dX7_init_121 (tX7_copies (x := 0) (y := 0) h25_r h25_n (by decide) (by decide) (by decide) (by decide) (by decide)) lk_X7_49 ykX7_copies zkX7_copies rfl rfl (Nat.le_of_ble_eq_true rfl) ⟨by decide, by decide⟩ ⟨Nat.le_refl _, Nat.le_refl _⟩ (fun w26 p121 => ?_)
  have h26_o := ((congrFun p121 55).trans (up_n (by decide))).trans h25_o
  have h26_n := (congrFun p121 56).trans up_s
  have h26_r := ((congrFun p121 57).trans (up_n (by decide))).trans h25_r
  have h26_a := ((congrFun p121 58).trans (up_n (by decide))).trans h25_a
  have h26_p := ((congrFun p121 59).trans (up_n (by decide))).trans h25_p
  have h26_k := ((congrFun p121 60).trans (up_n (by decide))).trans h25_k
  have h26_t := ((congrFun p121 61).trans (up_n (by decide))).trans h25_t
  have h26_A := ((congrFun p121 62).trans (up_n (by decide))).trans h25_A
  have h26_G := ((congrFun p121 63).trans (up_n (by decide))).trans h25_G
  have h26_S := ((congrFun p121 64).trans (up_n (by decide))).trans h25_S
  have h26_P := ((congrFun p121 65).trans (up_n (by decide))).trans h25_P
  have h26_F := ((congrFun p121 66).trans (up_n (by decide))).trans h25_F
  have h26_V := ((congrFun p121 67).trans (up_n (by decide))).trans h25_V
  have hR26 := row_of (f := fun _ => 0) hR (by rw [iL_len]; decide)
  exact ex_vret (pc := 124) dX7_init_124 ⟨⟨st0_v, ⟨⟨_, h26_r⟩, ⟨_, h26_a⟩, ⟨_, h26_A⟩, ⟨_, h26_G⟩, ⟨_, h26_S⟩, ⟨_, h26_P⟩, ⟨_, h26_F⟩, ⟨_, h26_V⟩⟩, ⟨0, 0, 0, 0, 0, 0, 0, 0, 0, 0, 0, 0, h26_o⟩, ⟨_, h26_n, hR26⟩, ⟨_, h26_p, fun i x hx => by cases hx⟩, by decide, ⟨_, h26_k, fun i x hx => by cases hx⟩, by decide, ⟨_, h26_t, fun i hi => absurd hi (Nat.not_lt_zero _)⟩, by decide⟩, fun z hz => by rw [p121, up_n (by omega), hfB z (by omega)]; rw [e_w24, up_n (by omega)]; rw [e_w23, up_n (by omega)]; rw [e_w22, up_n (by omega)]; rw [e_w21, up_n (by omega)]; rw [e_w20, up_n (by omega)]; rw [e_w19, up_n (by omega)]; rw [e_w18, up_n (by omega)]; rw [e_w17, up_n (by omega)]; rw [e_w16, up_n (by omega)]; rw [e_w15, up_n (by omega)]; rw [e_w14, up_n (by omega)]; rw [e_w13, up_n (by omega)]; rw [e_w12, up_n (by omega)]; rw [e_w11, up_n (by omega)]; rw [e_w10, up_n (by omega)]; rw [e_w9, up_n (by omega)]; rw [e_w8, up_n (by omega)]; rw [e_w7, up_n (by omega)]; rw [e_w6, up_n (by omega)]; rw [e_w5, up_n (by omega)]; rw [e_w4, up_n (by omega)]; rw [e_w3, up_n (by omega)]; rw [e_w2, up_n (by omega)]; rw [e_w1, up_n (by omega)]⟩ rfl (Nat.le_refl _)

