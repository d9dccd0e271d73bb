def cvx (cs : List Int) (mo : Int) (pr i : Nat) : Nat := (pcS cs mo pr ((shL cs mo pr).getD i 0)).2
def waP (cv : Nat → Nat) (N k : Nat) : Prop := ∃ i, i < N ∧ dif (cv k) (cv i) = 0 ∧ (cv i ≠ cv k ∨ i < k)
def waB (cv : Nat → Nat) (N k : Nat) : Bool := (List.range N).any (fun i => dif (cv k) (cv i) == 0 && (cv i != cv k || decide (i < k)))
theorem waB_iff {cv : Nat → Nat} {N k : Nat} : waB cv N k = true ↔ waP cv N k := by
  unfold waB waP
  rw [List.any_eq_true]
  constructor
  · rintro ⟨i, h1, h2⟩
    simp only [Bool.and_eq_true, Bool.or_eq_true, beq_iff_eq, bne_iff_ne, decide_eq_true_eq] at h2
    exact ⟨i, List.mem_range.mp h1, h2⟩
  · rintro ⟨i, h1, h2⟩
    refine ⟨i, List.mem_range.mpr h1, ?_⟩
    simp only [Bool.and_eq_true, Bool.or_eq_true, beq_iff_eq, bne_iff_ne, decide_eq_true_eq]
    exact h2
def redL (cv : Nat → Nat) (N : Nat) : List Nat := ((List.range N).filter (fun k => !waB cv N k)).map cv
def lowN (m : Nat) : Nat := (xand m (-(m : Int))).toNat
theorem xlow_n {m : Nat} (hm : m < 2 ^ 31) : xand m (-(m : Int)) = (lowN m : Int) := by
  unfold lowN
  have h : ¬ xand m (-(m : Int)) < 0 := by
    intro h
    have h2 := (neg_bit _).mp h
    rw [b_and, ofI_n, bt_nI (by decide), bit31 hm (by decide)] at h2
    cases h2
  omega
theorem lowN_lt {m : Nat} (hm : m < 2 ^ 31) : lowN m < 2 ^ 31 := by
  have h1 := xlow_n hm
  have h2 := i32_r (Int32.ofInt m &&& Int32.ofInt (-(m : Int)))
  have h3 : (Int32.ofInt m &&& Int32.ofInt (-(m : Int))).toInt = xand m (-(m : Int)) := rfl
  rw [h3, h1] at h2
  unfold inI at h2
  omega
def rch (C : List Nat) : Nat → Nat → Bool
  | 0, m => m == 0
  | l + 1, m => m == 0 || C.any (fun c => (c &&& lowN m) != 0 && rch C l (dif m c))
def fewG (C : List Nat) (all : Nat) : Nat := ((List.range 14).find? (fun m => rch C m all)).getD 14
theorem cvx_lt {cs : List Int} {mo : Int} {pr : Nat} (hl : cs.length ≤ 14) (i : Nat) : cvx cs mo pr i < 16384 := (pcS_lt hl _).1
abbrev mX0_isWithinAnother : xC := mkC yX0_isWithinAnother cX0_isWithinAnother 6 (some .boolean) 1 100 0 0
set_option maxHeartbeats 4000000 in
set_option maxRecDepth 100000 in
theorem tX0_isWithinAnother {n : Nat} {w : xW} {q : Nat} {cs : List Int} {mo : Int} {pr : Nat} (hs : SeAt w q cs mo pr) (hl : cs.length ≤ 14) {k : Nat} (hk : k < (shL cs mo pr).length) : Ctr mX0_isWithinAnother [xr q, xi k] n w (pZ (fun v w2 => w2 = w ∧ (v = 1 ↔ waP (cvx cs mo pr) (shL cs mo pr).length k))) := by
  refine Ctr.of ykX0_isWithinAnother rfl (Nat.le_of_ble_eq_true rfl) okZ (fun hin hW => ?_)
  have hs0 := hs
  have h448 := sh448 cs mo pr
  obtain ⟨tf, pf, nu, lb, wi, ss, sp, sv, h_q, h_T, h_P, h_N, h_A, h_W, h_S, h_U, h_V, hlb, hb, htf, hnu, hlg, hsh⟩ := hs
  have hsv : ∀ i, i < (shL cs mo pr).length → sv i = (cvx cs mo pr i : Int) := fun i hi => (hsh i hi).2.2
  generalize hcv : cvx cs mo pr = cv at *
  have hcl : ∀ i, cv i < 16384 := fun i => by rw [← hcv]; exact cvx_lt hl i
  generalize hN9 : (shL cs mo pr).length = N at *
  show Ex _ _ 0 0 n w 0 [some (xr q), some (xi k), none, none, none, none] []
  have loop : ∀ (d i : Nat) (x4 x5 : Option xV), i ≤ N → N + 1 ≤ i + d → (∀ z, z < i → ¬ (dif (cv k) (cv z) = 0 ∧ (cv z ≠ cv k ∨ z < k))) → Ex mX0_isWithinAnother (pZ (fun v w2 => w2 = w ∧ (v = 1 ↔ waP cv N k))) 0 0 n w 9 [some (xr q), some (xi k), some (xi (cv k)), some (xi i), x4, x5] [] := by
    intro d
    induction d with
    | zero => intro i x4 x5 h1 h2; omega
    | succ d ih =>
      intro i x4 x5 h1 h2 hq0
      refine ex_iload_n (pc := 9) dX0_isWithinAnother_9 rfl ?_
      refine ex_aload_n (pc := 10) dX0_isWithinAnother_10 rfl ?_
      refine ex_getfield (pc := 11) dX0_isWithinAnother_11 fk_X0_33 h_q (by rfl) ?_
      refine ex_icmp_ge (pc := 14) dX0_isWithinAnother_14 (tgt := 65) (by decide) (fun c14 => ?_) (fun c14 => ?_)
      · refine ex_iconst (pc := 65) dX0_isWithinAnother_65 (by decide) ?_
        exact ex_zret (pc := 66) dX0_isWithinAnother_66 ⟨Or.inl rfl, rfl, fun z => by omega, fun ⟨z, z1, z2⟩ => absurd z2 (hq0 z (by omega))⟩ rfl (Nat.le_refl _)
      · refine ex_aload_n (pc := 17) dX0_isWithinAnother_17 rfl ?_
        refine ex_getfield (pc := 18) dX0_isWithinAnother_18 fk_X0_40 h_q (by rfl) ?_
        refine ex_iload_n (pc := 21) dX0_isWithinAnother_21 rfl ?_
        refine ex_iaload (pc := 22) dX0_isWithinAnother_22 h_V (by omega) (by omega) ?_
        have hki : ((i : Int)).toNat = i := by omega
        rw [hki, hsv i (by omega)]
        refine ex_istore (L2 := [_, _, _, _, _, _]) (pc := 23) dX0_isWithinAnother_23 rfl (Nat.le_of_ble_eq_true rfl) rfl ?_
        refine ex_iload_n (pc := 25) dX0_isWithinAnother_25 rfl ?_
        refine ex_iload (pc := 26) dX0_isWithinAnother_26 rfl ?_
        refine ex_iconst (pc := 28) dX0_isWithinAnother_28 (by decide) ?_
        refine ex_ixor (pc := 29) dX0_isWithinAnother_29 ?_
        refine ex_iand (pc := 30) dX0_isWithinAnother_30 ?_
        refine ex_eq (xdif_n (b := cv i) (by have := hcl k; omega)) ?_
        refine ex_if_ne (pc := 31) dX0_isWithinAnother_31 (tgt := 38) (by decide) (fun c31 => ?_) (fun c31 => ?_)
        · refine ex_iconst (pc := 38) dX0_isWithinAnother_38 (by decide) ?_
          refine ex_istore (L2 := [_, _, _, _, _, _]) (pc := 39) dX0_isWithinAnother_39 rfl (Nat.le_of_ble_eq_true rfl) rfl ?_
          refine ex_iload (pc := 41) dX0_isWithinAnother_41 rfl ?_
          refine ex_if_eq (pc := 43) dX0_isWithinAnother_43 (tgt := 59) (by decide) (fun c43 => ?_) (fun c43 => by exfalso; omega)
          refine ex_iinc (L2 := [_, _, _, _, _, _]) (pc := 59) dX0_isWithinAnother_59 rfl rfl (Nat.le_of_ble_eq_true rfl) (by unfold inI; omega) rfl ?_
          refine ex_goto (pc := 62) dX0_isWithinAnother_62 (tgt := 9) (by decide) ?_
          exact ih (i + 1) _ _ (by omega) (by omega) (lt_s hq0 (by intro h; omega))
        · refine ex_iconst (pc := 34) dX0_isWithinAnother_34 (by decide) ?_
          refine ex_goto (pc := 35) dX0_isWithinAnother_35 (tgt := 39) (by decide) ?_
          refine ex_istore (L2 := [_, _, _, _, _, _]) (pc := 39) dX0_isWithinAnother_39 rfl (Nat.le_of_ble_eq_true rfl) rfl ?_
          refine ex_iload (pc := 41) dX0_isWithinAnother_41 rfl ?_
          refine ex_if_eq (pc := 43) dX0_isWithinAnother_43 (tgt := 59) (by decide) (fun c43 => by exfalso; omega) (fun c43 => ?_)
          refine ex_iload (pc := 46) dX0_isWithinAnother_46 rfl ?_
          refine ex_iload_n (pc := 48) dX0_isWithinAnother_48 rfl ?_
          refine ex_icmp_ne (pc := 49) dX0_isWithinAnother_49 (tgt := 57) (by decide) (fun c49 => ?_) (fun c49 => ?_)
          · refine ex_iconst (pc := 57) dX0_isWithinAnother_57 (by decide) ?_
            exact ex_zret (pc := 58) dX0_isWithinAnother_58 ⟨Or.inr rfl, rfl, fun _ => ⟨i, by omega, by omega, by omega⟩, fun _ => rfl⟩ rfl (Nat.le_refl _)
          · refine ex_iload_n (pc := 52) dX0_isWithinAnother_52 rfl ?_
            refine ex_iload_n (pc := 53) dX0_isWithinAnother_53 rfl ?_
            refine ex_icmp_ge (pc := 54) dX0_isWithinAnother_54 (tgt := 59) (by decide) (fun c54 => ?_) (fun c54 => ?_)
            · refine ex_iinc (L2 := [_, _, _, _, _, _]) (pc := 59) dX0_isWithinAnother_59 rfl rfl (Nat.le_of_ble_eq_true rfl) (by unfold inI; omega) rfl ?_
              refine ex_goto (pc := 62) dX0_isWithinAnother_62 (tgt := 9) (by decide) ?_
              exact ih (i + 1) _ _ (by omega) (by omega) (lt_s hq0 (by intro h; omega))
            · refine ex_iconst (pc := 57) dX0_isWithinAnother_57 (by decide) ?_
              exact ex_zret (pc := 58) dX0_isWithinAnother_58 ⟨Or.inr rfl, rfl, fun _ => ⟨i, by omega, by omega, by omega⟩, fun _ => rfl⟩ rfl (Nat.le_refl _)
  refine ex_aload_n (pc := 0) dX0_isWithinAnother_0 rfl ?_
  refine ex_getfield (pc := 1) dX0_isWithinAnother_1 fk_X0_40 h_q (by rfl) ?_
  refine ex_iload_n (pc := 4) dX0_isWithinAnother_4 rfl ?_
  refine ex_iaload (pc := 5) dX0_isWithinAnother_5 h_V (by omega) (by omega) ?_
  have hkk : ((k : Int)).toNat = k := by omega
  rw [hkk, hsv k hk]
  refine ex_istore_n (L2 := [_, _, _, _, _, _]) (pc := 6) dX0_isWithinAnother_6 rfl (Nat.le_of_ble_eq_true rfl) rfl ?_
  refine ex_iconst (pc := 7) dX0_isWithinAnother_7 (by decide) ?_
  refine ex_istore_n (L2 := [_, _, _, _, _, _]) (pc := 8) dX0_isWithinAnother_8 rfl (Nat.le_of_ble_eq_true rfl) rfl ?_
  exact loop (N + 1) 0 _ _ (by omega) (by omega) (fun z hz => absurd hz (Nat.not_lt_zero _))

abbrev mX0_gather : xC := mkC yX0_gather cX0_gather 3 none 2 200 0 0
set_option maxHeartbeats 4000000 in
set_option maxRecDepth 100000 in
theorem tX0_gather {n : Nat} {W : xW} {q c : Nat} {cs : List Int} {mo : Int} {pr : Nat} {s0 : Int} {f0 : Nat → Int} (hs : SeAt W q cs mo pr) (hl : cs.length ≤ 14) (h_c : W c = xO 0 [xr (c + 1), xi s0]) (h_F : W (c + 1) = xA 448 f0) (hqc : q + 8 < c ∨ c + 1 < q) : Ctr mX0_gather [xr c, xr q] n W (pV (fun w2 => ∃ f2 : Nat → Int, w2 c = xO 0 [xr (c + 1), xi ((redL (cvx cs mo pr) (shL cs mo pr).length).length : Nat)] ∧ w2 (c + 1) = xA 448 f2 ∧ (∀ i, i < (redL (cvx cs mo pr) (shL cs mo pr).length).length → f2 i = (((redL (cvx cs mo pr) (shL cs mo pr).length).getD i 0 : Nat) : Int)) ∧ ∀ z, z ≠ c → z ≠ c + 1 → w2 z = W z)) := by
  refine Ctr.of ykX0_gather rfl (Nat.le_of_ble_eq_true rfl) okV (fun hin hW => ?_)
  have hs0 := hs
  have h448 := sh448 cs mo pr
  obtain ⟨tf, pf, nu, lb, wi, ss, sp, sv, h_q, h_T, h_P, h_N, h_A, h_W, h_S, h_U, h_V, hlb, hb, htf, hnu, hlg, hsh⟩ := hs
  have hsv : ∀ i, i < (shL cs mo pr).length → sv i = (cvx cs mo pr i : Int) := fun i hi => (hsh i hi).2.2
  generalize hcv : cvx cs mo pr = cv at *
  have hcl : ∀ i, cv i < 16384 := fun i => by rw [← hcv]; exact cvx_lt hl i
  generalize hN9 : (shL cs mo pr).length = N at *
  show Ex _ _ 0 0 n W 0 [some (xr c), some (xr q), none] []
  have loop : ∀ (d k : Nat), k ≤ N → N + 1 ≤ k + d → ∀ (w : xW) (f : Nat → Int), w c = xO 0 [xr (c + 1), xi ((((List.range k).filter (fun k => !waB cv N k)).map cv).length : Nat)] → w (c + 1) = xA 448 f → (∀ i, i < (((List.range k).filter (fun k => !waB cv N k)).map cv).length → f i = (((((List.range k).filter (fun k => !waB cv N k)).map cv).getD i 0 : Nat) : Int)) → (∀ z, z ≠ c → z ≠ c + 1 → w z = W z) → Ex mX0_gather (pV (fun w2 => ∃ f2 : Nat → Int, w2 c = xO 0 [xr (c + 1), xi ((redL cv N).length : Nat)] ∧ w2 (c + 1) = xA 448 f2 ∧ (∀ i, i < (redL cv N).length → f2 i = (((redL cv N).getD i 0 : Nat) : Int)) ∧ ∀ z, z ≠ c → z ≠ c + 1 → w2 z = W z)) 0 0 n w 7 [some (xr c), some (xr q), some (xi k)] [] := by
    intro d
    induction d with
    | zero => intro k h1 h2; omega
    | succ d ih =>
      intro k h1 h2 w f h_c h_F hf hfr
      have hsw : SeAt w q cs mo pr := hs0.fr (fun z z1 z2 => hfr z (by omega) (by omega))
      have h_q : w q = seO q (wdL cs mo pr).length mo pr N := (hfr q (by omega) (by omega)).trans h_q
      have h_V : w (q + 8) = xA 448 sv := (hfr (q + 8) (by omega) (by omega)).trans h_V
      refine ex_iload_n (pc := 7) dX0_gather_7 rfl ?_
      refine ex_aload_n (pc := 8) dX0_gather_8 rfl ?_
      refine ex_getfield (pc := 9) dX0_gather_9 fk_X0_33 h_q (by rfl) ?_
      refine ex_icmp_ge (pc := 12) dX0_gather_12 (tgt := 54) (by decide) (fun c12 => ?_) (fun c12 => ?_)
      · have hkN : k = N := by omega
        exact ex_vret (pc := 54) dX0_gather_54 ⟨f, by show _ = xO 0 [xr (c + 1), xi ((redL cv N).length : Nat)]; unfold redL; rw [h_c, hkN], h_F, by unfold redL; rw [hkN] at hf; exact hf, hfr⟩ rfl (Nat.le_refl _)
      · refine ex_aload_n (pc := 15) dX0_gather_15 rfl ?_
        refine ex_iload_n (pc := 16) dX0_gather_16 rfl ?_
        refine ex_callSZ (as := [_, _]) (pc := 17) dX0_gather_17 (tX0_isWithinAnother hsw hl (k := k) (by omega)) lk_X0_36 ykX0_isWithinAnother zkX0_isWithinAnother rfl rfl (Nat.le_of_ble_eq_true rfl) ⟨by decide, by decide⟩ ⟨Nat.le_refl _, Nat.le_refl _⟩ (fun i17 w1 r17 p17 => ?_)
        obtain ⟨e17, p17⟩ := p17
        rw [e17]
        rw [hcv, hN9] at p17
        refine ex_if_ne (pc := 20) dX0_gather_20 (tgt := 48) (by decide) (fun c20 => ?_) (fun c20 => ?_)
        · refine ex_iinc (L2 := [_, _, _]) (pc := 48) dX0_gather_48 rfl rfl (Nat.le_of_ble_eq_true rfl) (by unfold inI; omega) rfl ?_
          refine ex_goto (pc := 51) dX0_gather_51 (tgt := 7) (by decide) ?_
          have e9 : (((List.range (k + 1)).filter (fun k => !waB cv N k)).map cv) = (((List.range k).filter (fun k => !waB cv N k)).map cv) := by rw [filt_s, if_neg (by rw [waB_iff.mpr (p17.mp (by omega))]; decide), List.append_nil]
          exact ih (k + 1) (by omega) (by omega) w f (by rw [e9]; exact h_c) h_F (by rw [e9]; exact hf) hfr
        · have hacl : (((List.range k).filter (fun k => !waB cv N k)).map cv).length ≤ k := by rw [List.length_map]; exact filt_len _ k
          refine ex_aload_n (pc := 23) dX0_gather_23 rfl ?_
          refine ex_getfield (pc := 24) dX0_gather_24 fk_X0_9 h_c (by rfl) ?_
          refine ex_aload_n (pc := 27) dX0_gather_27 rfl ?_
          refine ex_getfield (pc := 28) dX0_gather_28 fk_X0_25 h_c (by rfl) ?_
          refine ex_aload_n (pc := 31) dX0_gather_31 rfl ?_
          refine ex_getfield (pc := 32) dX0_gather_32 fk_X0_40 h_q (by rfl) ?_
          refine ex_iload_n (pc := 35) dX0_gather_35 rfl ?_
          refine ex_iaload (pc := 36) dX0_gather_36 h_V (by omega) (by omega) ?_
          have hkk : ((k : Int)).toNat = k := by omega
          rw [hkk, hsv k (by omega)]
          refine ex_iastore (pc := 37) dX0_gather_37 h_F (by omega) (by omega) ?_
          refine ex_up (fun w1 e_w1 => ?_)
          have h1_q := ((congrFun e_w1 q).trans (up_n (by omega))).trans h_q
          have h1_V := ((congrFun e_w1 (q + 8)).trans (up_n (by omega))).trans h_V
          have h1_c := ((congrFun e_w1 c).trans (up_n (by omega))).trans h_c
          have h1_F := (congrFun e_w1 (c + 1)).trans up_s
          refine ex_aload_n (pc := 38) dX0_gather_38 rfl ?_
          refine ex_dup (pc := 39) dX0_gather_39 rfl ?_
          refine ex_getfield (pc := 40) dX0_gather_40 fk_X0_25 h1_c (by rfl) ?_
          refine ex_iconst (pc := 43) dX0_gather_43 (by decide) ?_
          refine ex_iadd (pc := 44) dX0_gather_44 (by unfold inI; omega) ?_
          refine ex_putA (pc := 45) dX0_gather_45 fk_X0_25 (ty := tyX0 1) (fun _ _ _ h9 => by cases h9; exact ⟨tyX0_ok 1 (by decide), rfl⟩) h1_c (Nat.le_of_ble_eq_true rfl) (fun _ => rfl) (fun _ => rfl) ?_
          refine ex_up (fun w2 e_w2 => ?_)
          have h2_q := ((congrFun e_w2 q).trans (up_n (by omega))).trans h1_q
          have h2_V := ((congrFun e_w2 (q + 8)).trans (up_n (by omega))).trans h1_V
          have h2_c := (congrFun e_w2 c).trans up_s
          have h2_F := ((congrFun e_w2 (c + 1)).trans (up_n (by omega))).trans h1_F
          refine ex_iinc (L2 := [_, _, _]) (pc := 48) dX0_gather_48 rfl rfl (Nat.le_of_ble_eq_true rfl) (by unfold inI; omega) rfl ?_
          refine ex_goto (pc := 51) dX0_gather_51 (tgt := 7) (by decide) ?_
          have hnw : waB cv N k = false := by
            cases hz : waB cv N k with
            | false => rfl
            | true => exfalso; have := p17.mpr (waB_iff.mp hz); omega
          have e9 : (((List.range (k + 1)).filter (fun k => !waB cv N k)).map cv) = (((List.range k).filter (fun k => !waB cv N k)).map cv) ++ [cv k] := by rw [filt_s, if_pos (by rw [hnw]; rfl), List.map_append]; rfl
          have e7 : (((((List.range k).filter (fun k => !waB cv N k)).map cv).length : Int)).toNat = (((List.range k).filter (fun k => !waB cv N k)).map cv).length := by omega
          have hff : ∀ i, i < (((List.range (k + 1)).filter (fun k => !waB cv N k)).map cv).length → va_up f (((List.range k).filter (fun k => !waB cv N k)).map cv).length (cv k : Int) i = (((((List.range (k + 1)).filter (fun k => !waB cv N k)).map cv).getD i 0 : Nat) : Int) := by
            intro i hi
            rw [e9] at hi ⊢
            rw [List.length_append] at hi
            by_cases y : i < (((List.range k).filter (fun k => !waB cv N k)).map cv).length
            · rw [getD_app1 y, up_n (by omega)]; exact hf i y
            · have y2 : i = (((List.range k).filter (fun k => !waB cv N k)).map cv).length := by simp at hi ⊢; simp at y; omega
              rw [y2, getD_app2, up_s]
          exact ih (k + 1) (by omega) (by omega) w2 _ (by rw [e9, List.length_append]; exact h2_c) (by rw [h2_F, e7]) hff (fun z z1 z2 => by rw [e_w2, up_n z1, e_w1, up_n z2]; exact hfr z z1 z2)
  refine ex_aload_n (pc := 0) dX0_gather_0 rfl ?_
  refine ex_iconst (pc := 1) dX0_gather_1 (by decide) ?_
  refine ex_putA (pc := 2) dX0_gather_2 fk_X0_25 (ty := tyX0 1) (fun _ _ _ h9 => by cases h9; exact ⟨tyX0_ok 1 (by decide), rfl⟩) h_c (Nat.le_of_ble_eq_true rfl) (fun _ => rfl) (fun _ => rfl) ?_
  refine ex_up (fun w1 e_w1 => ?_)
  have h1_c := (congrFun e_w1 c).trans up_s
  have h1_F := ((congrFun e_w1 (c + 1)).trans (up_n (by omega))).trans h_F
  refine ex_iconst (pc := 5) dX0_gather_5 (by decide) ?_
  refine ex_istore_n (L2 := [_, _, _]) (pc := 6) dX0_gather_6 rfl (Nat.le_of_ble_eq_true rfl) rfl ?_
  exact loop (N + 1) 0 (by omega) (by omega) w1 f0 h1_c h1_F (fun i hi => absurd hi (Nat.not_lt_zero _)) (fun z z1 _ => by rw [e_w1, up_n z1])

abbrev mX0_isReached (l : Nat) : xC := mkC yX0_isReached cX0_isReached 6 (some .boolean) (l + 2) (100 * (l + 2)) 0 0
set_option maxHeartbeats 4000000 in
set_option maxRecDepth 100000 in
theorem tX0_isReached {n : Nat} {w : xW} {a : Nat} {f : Nat → Int} {C : List Nat} (h_a : w a = xA 448 f) (hf : ∀ i, i < C.length → f i = ((C.getD i 0 : Nat) : Int)) (hCl : ∀ i, i < C.length → C.getD i 0 < 16384) (hC : C.length ≤ 448) : ∀ (l m : Nat), m < 16384 → Ctr (mX0_isReached l) [xr a, xi C.length, xi m, xi l] n w (pZ (fun v w2 => w2 = w ∧ (v = 1 ↔ rch C l m = true))) := by
  intro l
  induction l with
  | zero =>
    intro m hm
    refine Ctr.of ykX0_isReached rfl (Nat.le_of_ble_eq_true rfl) okZ (fun hin hW => ?_)
    show Ex _ _ 0 0 n w 0 [some (xr a), some (xi C.length), some (xi m), some (xi 0), none, none] []
    refine ex_iload_n (pc := 0) dX0_isReached_0 rfl ?_
    refine ex_if_ne (pc := 1) dX0_isReached_1 (tgt := 6) (by decide) (fun c1 => ?_) (fun c1 => ?_)
    · refine ex_iload_n (pc := 6) dX0_isReached_6 rfl ?_
      refine ex_if_gt (pc := 7) dX0_isReached_7 (tgt := 12) (by decide) (fun c7 => by exfalso; omega) (fun c7 => ?_)
      refine ex_iconst (pc := 10) dX0_isReached_10 (by decide) ?_
      exact ex_zret (pc := 11) dX0_isReached_11 ⟨Or.inl rfl, rfl, fun z => by omega, fun z => by unfold rch at z; simp at z; omega⟩ rfl (Nat.le_refl _)
    · refine ex_iconst (pc := 4) dX0_isReached_4 (by decide) ?_
      exact ex_zret (pc := 5) dX0_isReached_5 ⟨Or.inr rfl, rfl, fun _ => by unfold rch; have hm0 : m = 0 := (by omega); rw [hm0]; rfl, fun _ => rfl⟩ rfl (Nat.le_refl _)
  | succ l ih =>
    intro m hm
    refine Ctr.of ykX0_isReached rfl (Nat.le_of_ble_eq_true rfl) okZ (fun hin hW => ?_)
    by_cases hm0 : m = 0
    · subst hm0
      show Ex _ _ 0 0 n w 0 [some (xr a), some (xi C.length), some (xi 0), some (xi (l + 1 : Nat)), none, none] []
      refine ex_iload_n (pc := 0) dX0_isReached_0 rfl ?_
      refine ex_if_ne (pc := 1) dX0_isReached_1 (tgt := 6) (by decide) (fun c1 => by exfalso; exact c1 rfl) (fun c1 => ?_)
      refine ex_iconst (pc := 4) dX0_isReached_4 (by decide) ?_
      exact ex_zret (pc := 5) dX0_isReached_5 ⟨Or.inr rfl, rfl, fun _ => rfl, fun _ => rfl⟩ rfl (Nat.le_refl _)
    have hl32 : lowN m < 2 ^ 31 := lowN_lt (by omega)
    have hin3 : inI ((l + 1 : Nat) : Int) := hin (xi ((l + 1 : Nat) : Int)) (by simp)
    unfold inI at hin3
    have loop : ∀ (d i : Nat), i ≤ C.length → C.length + 1 ≤ i + d → (∀ z, z < i → ((C.getD z 0 &&& lowN m) != 0 && rch C l (dif m (C.getD z 0))) = false) → Ex (mX0_isReached (l + 1)) (pZ (fun v w2 => w2 = w ∧ (v = 1 ↔ rch C (l + 1) m = true))) 0 0 n w 21 [some (xr a), some (xi C.length), some (xi m), some (xi (l + 1 : Nat)), some (xi (lowN m)), some (xi i)] [] := by
      intro d
      induction d with
      | zero => intro i h1 h2; omega
      | succ d ih2 =>
        intro i h1 h2 hq0
        refine ex_iload (pc := 21) dX0_isReached_21 rfl ?_
        refine ex_iload_n (pc := 23) dX0_isReached_23 rfl ?_
        refine ex_icmp_ge (pc := 24) dX0_isReached_24 (tgt := 64) (by decide) (fun c24 => ?_) (fun c24 => ?_)
        · refine ex_iconst (pc := 64) dX0_isReached_64 (by decide) ?_
          have hno : rch C (l + 1) m = false := by
            unfold rch
            rw [Bool.or_eq_false_iff, List.any_eq_false]
            refine ⟨by simp; omega, fun x hx => ?_⟩
            obtain ⟨z, z1, z2⟩ := List.getElem_of_mem hx
            have z3 := hq0 z (by omega)
            rw [show C.getD z 0 = x by rw [← z2]; simp [List.getD, z1]] at z3
            rw [z3]; decide
          exact ex_zret (pc := 65) dX0_isReached_65 ⟨Or.inl rfl, rfl, fun z => by omega, fun z => by rw [hno] at z; cases z⟩ rfl (Nat.le_refl _)
        · refine ex_aload_n (pc := 27) dX0_isReached_27 rfl ?_
          refine ex_iload (pc := 28) dX0_isReached_28 rfl ?_
          refine ex_iaload (pc := 30) dX0_isReached_30 h_a (by omega) (by omega) ?_
          have hki : ((i : Int)).toNat = i := by omega
          have hci : C.getD i 0 = C.getD i 0 := rfl
          have hcli := hCl i (by omega)
          rw [hki, hf i (by omega)]
          refine ex_iload (pc := 31) dX0_isReached_31 rfl ?_
          refine ex_iand (pc := 33) dX0_isReached_33 ?_
          refine ex_eq (xand_n (by omega)) ?_
          refine ex_if_eq (pc := 34) dX0_isReached_34 (tgt := 58) (by decide) (fun c34 => ?_) (fun c34 => ?_)
          · refine ex_iinc (L2 := [_, _, _, _, _, _]) (pc := 58) dX0_isReached_58 rfl rfl (Nat.le_of_ble_eq_true rfl) (by unfold inI; omega) rfl ?_
            refine ex_goto (pc := 61) dX0_isReached_61 (tgt := 21) (by decide) ?_
            exact ih2 (i + 1) (by omega) (by omega) (lt_s hq0 (by rw [hci]; have h34 : C.getD i 0 &&& lowN m = 0 := (by omega); rw [h34]; rfl))
          · refine ex_aload_n (pc := 37) dX0_isReached_37 rfl ?_
            refine ex_iload_n (pc := 38) dX0_isReached_38 rfl ?_
            refine ex_iload_n (pc := 39) dX0_isReached_39 rfl ?_
            refine ex_aload_n (pc := 40) dX0_isReached_40 rfl ?_
            refine ex_iload (pc := 41) dX0_isReached_41 rfl ?_
            refine ex_iaload (pc := 43) dX0_isReached_43 h_a (by omega) (by omega) ?_
            rw [hki, hf i (by omega)]
            refine ex_iconst (pc := 44) dX0_isReached_44 (by decide) ?_
            refine ex_ixor (pc := 45) dX0_isReached_45 ?_
            refine ex_iand (pc := 46) dX0_isReached_46 ?_
            refine ex_eq (xdif_n (b := C.getD i 0) (by omega)) ?_
            refine ex_iload_n (pc := 47) dX0_isReached_47 rfl ?_
            refine ex_iconst (pc := 48) dX0_isReached_48 (by decide) ?_
            refine ex_isub (pc := 49) dX0_isReached_49 (by unfold inI; omega) ?_
            rw [show (((l + 1 : Nat) : Int) - 1) = (l : Int) by omega]
            refine ex_callSZ (as := [_, _, _, _]) (pc := 50) dX0_isReached_50 (ih (dif m (C.getD i 0)) (Nat.lt_of_le_of_lt (dif_le _ _) hm)) lk_X0_29 ykX0_isReached zkX0_isReached rfl rfl (Nat.le_of_ble_eq_true rfl) ⟨show l + 2 + 1 ≤ l + 1 + 2 by omega, show 8 + (6 + 11) + 100 * (l + 2) ≤ 100 * (l + 1 + 2) by omega⟩ ⟨Nat.le_refl _, Nat.le_refl _⟩ (fun i50 w1 r50 p50 => ?_)
            obtain ⟨e50, p50⟩ := p50
            rw [e50]
            refine ex_if_eq (pc := 53) dX0_isReached_53 (tgt := 58) (by decide) (fun c53 => ?_) (fun c53 => ?_)
            · refine ex_iinc (L2 := [_, _, _, _, _, _]) (pc := 58) dX0_isReached_58 rfl rfl (Nat.le_of_ble_eq_true rfl) (by unfold inI; omega) rfl ?_
              refine ex_goto (pc := 61) dX0_isReached_61 (tgt := 21) (by decide) ?_
              exact ih2 (i + 1) (by omega) (by omega) (lt_s hq0 (by rw [hci, Bool.and_eq_false_iff]; right; cases hz : rch C l (dif m (C.getD i 0)) with | false => rfl | true => exfalso; have := p50.mpr hz; omega))
            · refine ex_iconst (pc := 56) dX0_isReached_56 (by decide) ?_
              have hany : rch C (l + 1) m = true := by
                unfold rch
                rw [Bool.or_eq_true, List.any_eq_true]
                right
                refine ⟨C.getD i 0, ?_, ?_⟩
                · rw [show C.getD i 0 = C[i] by simp [List.getD, show i < C.length by omega]]; exact List.getElem_mem _
                · rw [Bool.and_eq_true, bne_iff_ne]; exact ⟨by omega, p50.mp (by omega)⟩
              exact ex_zret (pc := 57) dX0_isReached_57 ⟨Or.inr rfl, rfl, fun _ => hany, fun _ => rfl⟩ rfl (Nat.le_refl _)
    show Ex _ _ 0 0 n w 0 [some (xr a), some (xi C.length), some (xi m), some (xi (l + 1 : Nat)), none, none] []
    refine ex_iload_n (pc := 0) dX0_isReached_0 rfl ?_
    refine ex_if_ne (pc := 1) dX0_isReached_1 (tgt := 6) (by decide) (fun c1 => ?_) (fun c1 => ?_)
    · refine ex_iload_n (pc := 6) dX0_isReached_6 rfl ?_
      refine ex_if_gt (pc := 7) dX0_isReached_7 (tgt := 12) (by decide) (fun c7 => ?_) (fun c7 => by exfalso; omega)
      refine ex_iload_n (pc := 12) dX0_isReached_12 rfl ?_
      refine ex_iload_n (pc := 13) dX0_isReached_13 rfl ?_
      refine ex_ineg (pc := 14) dX0_isReached_14 (by unfold inI; omega) ?_
      refine ex_iand (pc := 15) dX0_isReached_15 ?_
      refine ex_eq (xlow_n (by omega)) ?_
      refine ex_istore (L2 := [_, _, _, _, _, _]) (pc := 16) dX0_isReached_16 rfl (Nat.le_of_ble_eq_true rfl) rfl ?_
      refine ex_iconst (pc := 18) dX0_isReached_18 (by decide) ?_
      refine ex_istore (L2 := [_, _, _, _, _, _]) (pc := 19) dX0_isReached_19 rfl (Nat.le_of_ble_eq_true rfl) rfl ?_
      exact loop (C.length + 1) 0 (by omega) (by omega) (fun z hz => absurd hz (Nat.not_lt_zero _))
    · refine ex_iconst (pc := 4) dX0_isReached_4 (by decide) ?_
      exact ex_zret (pc := 5) dX0_isReached_5 ⟨Or.inr rfl, rfl, fun _ => by exact absurd c1 (by omega), fun _ => rfl⟩ rfl (Nat.le_refl _)
abbrev mX0_fewestOf : xC := mkC yX0_fewestOf cX0_fewestOf 4 (some .int) 17 1700 0 0
theorem find_none {f : Nat → Bool} {k : Nat} (h : ∀ z, z < k → f z = false) : (List.range k).find? f = none := by
  rw [List.find?_eq_none]
  intro x hx
  rw [h x (List.mem_range.mp hx)]; decide
theorem fewG_at {C : List Nat} {all k : Nat} (hk : k < 14) (h : ∀ z, z < k → rch C z all = false) (h2 : rch C k all = true) : fewG C all = k := by
  unfold fewG
  have e : List.range 14 = List.range k ++ (k :: (List.range (13 - k)).map (fun x => k + 1 + x)) := by
    rw [show 14 = k + (1 + (13 - k)) by omega, List.range_add, List.range_add, List.map_append]
    simp [Nat.add_assoc]
  rw [e, List.find?_append, find_none h]
  simp [List.find?, h2]
theorem fewG_no {C : List Nat} {all : Nat} (h : ∀ z, z < 14 → rch C z all = false) : fewG C all = 14 := by
  unfold fewG
  rw [find_none h]; rfl
theorem redL_lt {cv : Nat → Nat} {N : Nat} (h : ∀ i, cv i < 16384) : (∀ i, i < (redL cv N).length → (redL cv N).getD i 0 < 16384) ∧ (redL cv N).length ≤ N := by
  refine ⟨fun i hi => ?_, ?_⟩
  · have k4 : (redL cv N).getD i 0 = (redL cv N)[i] := by simp [List.getD, hi]
    have hm : (redL cv N).getD i 0 ∈ redL cv N := by rw [k4]; exact List.getElem_mem hi
    obtain ⟨x, -, hx⟩ := List.mem_map.mp hm
    rw [← hx]; exact h x
  · unfold redL; rw [List.length_map]; exact filt_len _ _
theorem covF_lt {cs : List Int} {mo : Int} {pr : Nat} (hl : cs.length ≤ 14) (L : List Nat) : ∀ c, c < 16384 → L.foldl (fun c s => c ||| (pcS cs mo pr s).2) c < 16384 := by
  induction L with
  | nil => intro c hc; exact hc
  | cons x L ih => intro c hc; exact ih _ (Nat.or_lt_two_pow (n := 14) hc (pcS_lt hl x).1)
theorem covS_lt {cs : List Int} {mo : Int} {pr : Nat} (hl : cs.length ≤ 14) : covS cs mo pr < 16384 := covF_lt hl _ 0 (by decide)
set_option maxHeartbeats 4000000 in
set_option maxRecDepth 100000 in
theorem tX0_fewestOf {n : Nat} {W : xW} {q c : Nat} {cs : List Int} {mo : Int} {pr : Nat} {s0 : Int} {f0 : Nat → Int} (hs : SeAt W q cs mo pr) (hl : cs.length ≤ 14) (h_c : W c = xO 0 [xr (c + 1), xi s0]) (h_F : W (c + 1) = xA 448 f0) (hqc : q + 8 < c ∨ c + 1 < q) : Ctr mX0_fewestOf [xr c, xr q] n W (pI (fun v w2 => v = (fewG (redL (cvx cs mo pr) (shL cs mo pr).length) (covS cs mo pr) : Int) ∧ (∃ (s1 : Int) (f1 : Nat → Int), w2 c = xO 0 [xr (c + 1), xi s1] ∧ w2 (c + 1) = xA 448 f1) ∧ ∀ z, z ≠ c → z ≠ c + 1 → w2 z = W z)) := by
  refine Ctr.of ykX0_fewestOf rfl (Nat.le_of_ble_eq_true rfl) okI (fun hin hW => ?_)
  show Ex _ _ 0 0 n W 0 [some (xr c), some (xr q), none, none] []
  have h448 := sh448 cs mo pr
  refine ex_aload_n (pc := 0) dX0_fewestOf_0 rfl ?_
  refine ex_aload_n (pc := 1) dX0_fewestOf_1 rfl ?_
  refine ex_callVV (as := [_]) (pc := 2) dX0_fewestOf_2 (tX0_gather hs hl h_c h_F hqc) lk_X0_15 ykX0_gather vkX0_gather h_c rfl rfl rfl (Nat.le_of_ble_eq_true rfl) ⟨by decide, by decide⟩ ⟨Nat.le_refl _, Nat.le_refl _⟩ (fun w1 p2 => ?_)
  obtain ⟨f2, g_c, g_F, hf2, hfr⟩ := p2
  have hs1 : SeAt w1 q cs mo pr := hs.fr (fun z z1 z2 => hfr z (by omega) (by omega))
  have hrl := redL_lt (N := (shL cs mo pr).length) (fun i => cvx_lt (mo := mo) (pr := pr) hl i)
  have hcov := covS_lt (mo := mo) (pr := pr) hl
  generalize hRL : (redL (cvx cs mo pr) (shL cs mo pr).length) = C at *
  refine ex_aload_n (pc := 5) dX0_fewestOf_5 rfl ?_
  refine ex_callVI (as := []) (pc := 6) dX0_fewestOf_6 (tX5_covered hs1 hl) lk_X0_19 ykX5_covered vkX5_covered hs1.q rfl rfl rfl (Nat.le_of_ble_eq_true rfl) ⟨by decide, by decide⟩ ⟨Nat.le_refl _, Nat.le_refl _⟩ (fun v6 w2 r6 p6 => ?_)
  obtain ⟨e6, p6⟩ := p6
  rw [e6, p6]
  have loop : ∀ (d k : Nat), k ≤ 14 → 15 ≤ k + d → (∀ z, z < k → rch C z (covS cs mo pr) = false) → Ex mX0_fewestOf (pI (fun v w2 => v = (fewG C (covS cs mo pr) : Int) ∧ (∃ (s1 : Int) (f1 : Nat → Int), w2 c = xO 0 [xr (c + 1), xi s1] ∧ w2 (c + 1) = xA 448 f1) ∧ ∀ z, z ≠ c → z ≠ c + 1 → w2 z = W z)) 0 0 n w1 12 [some (xr c), some (xr q), some (xi (covS cs mo pr)), some (xi k)] [] := by
    intro d
    induction d with
    | zero => intro k h1 h2; omega
    | succ d ih =>
      intro k h1 h2 hq0
      refine ex_iload_n (pc := 12) dX0_fewestOf_12 rfl ?_
      refine ex_bipush (pc := 13) dX0_fewestOf_13 (by decide) ?_
      refine ex_icmp_ge (pc := 15) dX0_fewestOf_15 (tgt := 42) (by decide) (fun c15 => ?_) (fun c15 => ?_)
      · refine ex_bipush (pc := 42) dX0_fewestOf_42 (by decide) ?_
        exact ex_iret (pc := 44) dX0_fewestOf_44 ⟨by rw [fewG_no (fun z hz => hq0 z (by omega))]; rfl, ⟨_, _, g_c, g_F⟩, hfr⟩ rfl (Nat.le_refl _)
      · refine ex_aload_n (pc := 18) dX0_fewestOf_18 rfl ?_
        refine ex_getfield (pc := 19) dX0_fewestOf_19 fk_X0_9 g_c (by rfl) ?_
        refine ex_aload_n (pc := 22) dX0_fewestOf_22 rfl ?_
        refine ex_getfield (pc := 23) dX0_fewestOf_23 fk_X0_25 g_c (by rfl) ?_
        refine ex_iload_n (pc := 26) dX0_fewestOf_26 rfl ?_
        refine ex_iload_n (pc := 27) dX0_fewestOf_27 rfl ?_
        refine ex_callSZ (as := [_, _, _, _]) (pc := 28) dX0_fewestOf_28 (tX0_isReached g_F hf2 hrl.1 (by omega) k _ hcov) lk_X0_29 ykX0_isReached zkX0_isReached rfl rfl (Nat.le_of_ble_eq_true rfl) ⟨show k + 2 + 1 ≤ 17 by omega, show 8 + (6 + 11) + 100 * (k + 2) ≤ 1700 by omega⟩ ⟨Nat.le_refl _, Nat.le_refl _⟩ (fun v28 w3 r28 p28 => ?_)
        obtain ⟨e28, p28⟩ := p28
        rw [e28]
        refine ex_if_eq (pc := 31) dX0_fewestOf_31 (tgt := 36) (by decide) (fun c31 => ?_) (fun c31 => ?_)
        · refine ex_iinc (L2 := [_, _, _, _]) (pc := 36) dX0_fewestOf_36 rfl rfl (Nat.le_of_ble_eq_true rfl) (by unfold inI; omega) rfl ?_
          refine ex_goto (pc := 39) dX0_fewestOf_39 (tgt := 12) (by decide) ?_
          have hno : rch C k (covS cs mo pr) = false := by
            cases hz : rch C k (covS cs mo pr) with
            | false => rfl
            | true => exfalso; have := p28.mpr hz; omega
          exact ih (k + 1) (by omega) (by omega) (lt_s hq0 hno)
        · refine ex_iload_n (pc := 34) dX0_fewestOf_34 rfl ?_
          exact ex_iret (pc := 35) dX0_fewestOf_35 ⟨by rw [fewG_at (by omega) hq0 (p28.mp (by omega))], ⟨_, _, g_c, g_F⟩, hfr⟩ rfl (Nat.le_refl _)
  refine ex_istore_n (L2 := [_, _, _, _]) (pc := 9) dX0_fewestOf_9 rfl (Nat.le_of_ble_eq_true rfl) rfl ?_
  refine ex_iconst (pc := 10) dX0_fewestOf_10 (by decide) ?_
  refine ex_istore_n (L2 := [_, _, _, _]) (pc := 11) dX0_fewestOf_11 rfl (Nat.le_of_ble_eq_true rfl) rfl ?_
  exact loop 15 0 (by omega) (by omega) (fun z hz => absurd hz (Nat.not_lt_zero _))
