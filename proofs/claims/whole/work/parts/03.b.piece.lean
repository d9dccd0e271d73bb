theorem two14 {sz : Nat} (h : sz ≤ 14) : 2 ^ sz ≤ 16384 := Nat.le_trans (Nat.pow_le_pow_right (by decide) h) (by decide)
abbrev mX2_allNotes : xC := mkC yX2_allNotes cX2_allNotes 1 (some .int) 1 100 0 0
set_option maxHeartbeats 4000000 in
set_option maxRecDepth 100000 in
theorem tX2_allNotes {n : Nat} {w : xW} {r a sz : Nat} {mo : Int} {f : Nat → Int} (h_r : w r = xO 2 [xr a, xi sz, xi mo]) (h_a : w a = xA 14 f) (hsz : sz ≤ 14) : Ctr mX2_allNotes [xr r] n w (pI (fun v w2 => w2 = w ∧ v = ((2 ^ sz - 1 : Nat) : Int))) := by
  refine Ctr.of ykX2_allNotes rfl (Nat.le_of_ble_eq_true rfl) okI (fun hin hW => ?_)
  show Ex _ _ 0 0 n w 0 [some (xr r)] []
  refine ex_iconst (pc := 0) dX2_allNotes_0 (by decide) ?_
  refine ex_aload_n (pc := 1) dX2_allNotes_1 rfl ?_
  refine ex_getfield (pc := 2) dX2_allNotes_2 fk_X2_15 h_r (by rfl) ?_
  refine ex_ishl (pc := 5) dX2_allNotes_5 ?_
  refine ex_eq (xshl_n sz (by omega)) ?_
  have hp := two14 hsz
  have hp1 : 1 ≤ 2 ^ sz := Nat.one_le_two_pow
  generalize hz : 2 ^ sz = z at hp hp1 ⊢
  refine ex_iconst (pc := 6) dX2_allNotes_6 (by decide) ?_
  refine ex_isub (pc := 7) dX2_allNotes_7 (by unfold inI; omega) ?_
  exact ex_iret (pc := 8) dX2_allNotes_8 ⟨rfl, by omega⟩ rfl (Nat.le_refl _)

def delF (f : Nat → Int) (p sz : Nat) : Nat → Int := fun i => if i < p then f i else if i + 1 < sz then f (i + 1) else f i
abbrev mX2_remove : xC := mkC yX2_remove cX2_remove 3 none 1 100 0 0
set_option maxHeartbeats 4000000 in
set_option maxRecDepth 100000 in
theorem tX2_remove {n : Nat} {W : xW} {r a sz : Nat} {mo : Int} {f : Nat → Int} (h_r : W r = xO 2 [xr a, xi sz, xi mo]) (h_a : W a = xA 14 f) (hsz : sz ≤ 14) {j : Nat} (hj : j < sz) : Ctr mX2_remove [xr r, xi j] n W (pV (fun w2 => w2 = va_up (va_up W r (xO 2 [xr a, xi (sz - 1 : Nat), xi mo])) a (xA 14 (delF f j sz)))) := by
  refine Ctr.of ykX2_remove rfl (Nat.le_of_ble_eq_true rfl) okV (fun hin hW => ?_)
  show Ex _ _ 0 0 n W 0 [some (xr r), some (xi j), none] []
  have ne1 : a ≠ r := by rintro rfl; rw [h_a] at h_r; cases h_r
  have ne2 : r ≠ a := fun q => ne1 q.symm
  have loop : ∀ (d k : Nat), k + 1 ≤ sz → sz ≤ k + d → j ≤ k → ∀ (w : xW) (g : Nat → Int), (∀ i, g i = if i < j then f i else if i < k then f (i + 1) else f i) → w a = xA 14 g → w r = xO 2 [xr a, xi (sz - 1 : Nat), xi mo] → (∀ q, q ≠ a → w q = va_up W r (xO 2 [xr a, xi (sz - 1 : Nat), xi mo]) q) → Ex mX2_remove (pV (fun w2 => w2 = va_up (va_up W r (xO 2 [xr a, xi (sz - 1 : Nat), xi mo])) a (xA 14 (delF f j sz)))) 0 0 n w 25 [some (xr r), some (xi j), some (xi k)] [] := by
    intro d
    induction d with
    | zero => intro k h1 h2; omega
    | succ d ih =>
      intro k h1 h2 h3 w g hg h_a h_r hfr
      refine ex_iload_n (pc := 25) dX2_remove_25 rfl ?_
      refine ex_aload_n (pc := 26) dX2_remove_26 rfl ?_
      refine ex_getfield (pc := 27) dX2_remove_27 fk_X2_15 h_r (by rfl) ?_
      refine ex_icmp_ge (pc := 30) dX2_remove_30 (tgt := 53) (by decide) (fun c30 => ?_) (fun c30 => ?_)
      · exact ex_vret (pc := 53) dX2_remove_53 (by
  funext q
  by_cases q1 : q = a
  · subst q1
    rw [up_s]
    rw [h_a]
    congr 2
    funext i
    rw [hg]
    unfold delF
    by_cases h8 : i < j
    · rw [if_pos h8, if_pos h8]
    · rw [if_neg h8, if_neg h8]
      by_cases h7 : i < k
      · rw [if_pos h7, if_pos (by omega)]
      · rw [if_neg h7, if_neg (by omega)]
  · rw [up_n q1, hfr q q1]) rfl (Nat.le_refl _)
      · refine ex_aload_n (pc := 33) dX2_remove_33 rfl ?_
        refine ex_getfield (pc := 34) dX2_remove_34 fk_X2_9 h_r (by rfl) ?_
        refine ex_iload_n (pc := 37) dX2_remove_37 rfl ?_
        refine ex_aload_n (pc := 38) dX2_remove_38 rfl ?_
        refine ex_getfield (pc := 39) dX2_remove_39 fk_X2_9 h_r (by rfl) ?_
        refine ex_iload_n (pc := 42) dX2_remove_42 rfl ?_
        refine ex_iconst (pc := 43) dX2_remove_43 (by decide) ?_
        refine ex_iadd (pc := 44) dX2_remove_44 (by unfold inI; omega) ?_
        refine ex_iaload (pc := 45) dX2_remove_45 h_a (by omega) (by omega) ?_
        refine ex_iastore (pc := 46) dX2_remove_46 h_a (by omega) (by omega) ?_
        refine ex_up (fun w1 e_w1 => ?_)
        have h1_r := ((congrFun e_w1 r).trans (up_n (by first | assumption | decide | omega))).trans h_r
        have h1_a := (congrFun e_w1 a).trans up_s
        refine ex_iinc (L2 := [_, _, _]) (pc := 47) dX2_remove_47 rfl rfl (Nat.le_of_ble_eq_true rfl) (by unfold inI; omega) rfl ?_
        refine ex_goto (pc := 50) dX2_remove_50 (tgt := 25) (by decide) ?_
        exact ih (k + 1) (by omega) (by omega) (by omega) w1 (fun i => if i < j then f i else if i < k + 1 then f (i + 1) else f i) (fun i => rfl) (h1_a.trans (by
          congr 2
          funext i
          have hk1 : ((k : Int)).toNat = k := by omega
          have hk2 : ((k : Int) + 1).toNat = k + 1 := by omega
          simp only [va_up, hk1, hk2, hg]
          by_cases h9 : i = k
          · subst h9; rw [if_pos rfl, if_neg (by omega), if_neg (by omega), if_neg (by omega), if_pos (by omega)]
          · rw [if_neg h9]
            by_cases h8 : i < j
            · rw [if_pos h8, if_pos h8]
            · rw [if_neg h8, if_neg h8]
              by_cases h7 : i < k
              · rw [if_pos h7, if_pos (by omega)]
              · rw [if_neg h7, if_neg (by omega)])) h1_r (fun q hq => (((congrFun e_w1 q).trans (up_n hq)).trans (hfr q hq)))
  refine ex_iload_n (pc := 0) dX2_remove_0 rfl ?_
  refine ex_if_lt (pc := 1) dX2_remove_1 (tgt := 12) (by decide) (fun c1 => by exfalso; omega) (fun c1 => ?_)
  refine ex_iload_n (pc := 4) dX2_remove_4 rfl ?_
  refine ex_aload_n (pc := 5) dX2_remove_5 rfl ?_
  refine ex_getfield (pc := 6) dX2_remove_6 fk_X2_15 h_r (by rfl) ?_
  refine ex_icmp_lt (pc := 9) dX2_remove_9 (tgt := 13) (by decide) (fun c9 => ?_) (fun c9 => by exfalso; omega)
  refine ex_aload_n (pc := 13) dX2_remove_13 rfl ?_
  refine ex_dup (pc := 14) dX2_remove_14 rfl ?_
  refine ex_getfield (pc := 15) dX2_remove_15 fk_X2_15 h_r (by rfl) ?_
  refine ex_iconst (pc := 18) dX2_remove_18 (by decide) ?_
  refine ex_isub (pc := 19) dX2_remove_19 (by unfold inI; omega) ?_
  refine ex_putA (pc := 20) dX2_remove_20 fk_X2_15 (ty := tyX2 1) (fun _ _ _ h9 => by cases h9; exact ⟨tyX2_ok 1 (by decide), rfl⟩) h_r (Nat.le_of_ble_eq_true rfl) (fun _ => rfl) (fun _ => rfl) ?_
  refine ex_up (fun w1 e_w1 => ?_)
  have h1_r := (congrFun e_w1 r).trans up_s
  have h1_a := ((congrFun e_w1 a).trans (up_n (by first | assumption | decide | omega))).trans h_a
  refine ex_iload_n (pc := 23) dX2_remove_23 rfl ?_
  refine ex_istore_n (L2 := [_, _, _]) (pc := 24) dX2_remove_24 rfl (Nat.le_of_ble_eq_true rfl) rfl ?_
  have e9 : ((sz : Int) - 1) = ((sz - 1 : Nat) : Int) := by omega
  exact loop sz j (by omega) (by omega) (by omega) w1 f (fun i => by split <;> rfl) h1_a (h1_r.trans (by rw [e9]; rfl)) (fun q hq => by rw [e_w1, e9]; rfl)

abbrev mX2_moveAll : xC := mkC yX2_moveAll cX2_moveAll 3 none 1 100 0 0
set_option maxHeartbeats 4000000 in
set_option maxRecDepth 100000 in
theorem tX2_moveAll {n : Nat} {W : xW} {r a sz : Nat} {mo : Int} {f : Nat → Int} (h_r : W r = xO 2 [xr a, xi sz, xi mo]) (h_a : W a = xA 14 f) (hsz : sz ≤ 14) {b : Int} (hb : -1000 ≤ b ∧ b ≤ 1000) (hf : ∀ k, k < sz → -1000 ≤ f k ∧ f k ≤ 1000) : Ctr mX2_moveAll [xr r, xi b] n W (pV (fun w2 => w2 = va_up W a (xA 14 (fun i => if i < sz then f i + b else f i)))) := by
  refine Ctr.of ykX2_moveAll rfl (Nat.le_of_ble_eq_true rfl) okV (fun hin hW => ?_)
  show Ex _ _ 0 0 n W 0 [some (xr r), some (xi b), none] []
  have ne1 : a ≠ r := by rintro rfl; rw [h_a] at h_r; cases h_r
  have ne2 : r ≠ a := fun q => ne1 q.symm
  have loop : ∀ (d k : Nat), k ≤ sz → sz + 1 ≤ k + d → ∀ (w : xW) (g : Nat → Int), (∀ i, g i = if i < k then f i + b else f i) → w a = xA 14 g → w r = xO 2 [xr a, xi sz, xi mo] → (∀ q, q ≠ a → w q = W q) → Ex mX2_moveAll (pV (fun w2 => w2 = va_up W a (xA 14 (fun i => if i < sz then f i + b else f i)))) 0 0 n w 2 [some (xr r), some (xi b), some (xi k)] [] := by
    intro d
    induction d with
    | zero => intro k h1 h2; omega
    | succ d ih =>
      intro k h1 h2 w g hg h_a h_r hfr
      refine ex_iload_n (pc := 2) dX2_moveAll_2 rfl ?_
      refine ex_aload_n (pc := 3) dX2_moveAll_3 rfl ?_
      refine ex_getfield (pc := 4) dX2_moveAll_4 fk_X2_15 h_r (by rfl) ?_
      refine ex_icmp_ge (pc := 7) dX2_moveAll_7 (tgt := 26) (by decide) (fun c7 => ?_) (fun c7 => ?_)
      · exact ex_vret (pc := 26) dX2_moveAll_26 (by
  have hks : k = sz := by omega
  subst hks
  funext q
  by_cases q1 : q = a
  · subst q1
    rw [up_s, h_a]
    congr 2
    funext i
    exact hg i
  · rw [up_n q1, hfr q q1]) rfl (Nat.le_refl _)
      · refine ex_aload_n (pc := 10) dX2_moveAll_10 rfl ?_
        refine ex_getfield (pc := 11) dX2_moveAll_11 fk_X2_9 h_r (by rfl) ?_
        refine ex_iload_n (pc := 14) dX2_moveAll_14 rfl ?_
        refine ex_dup2 (pc := 15) dX2_moveAll_15 rfl rfl ?_
        refine ex_iaload (pc := 16) dX2_moveAll_16 h_a (by omega) (by omega) ?_
        refine ex_iload_n (pc := 17) dX2_moveAll_17 rfl ?_
        have hk1 : ((k : Int)).toNat = k := by omega
        have hgk : g k = f k := by rw [hg, if_neg (by omega)]
        have hfk := hf k (by omega)
        refine ex_iadd (pc := 18) dX2_moveAll_18 (by rw [hk1, hgk]; unfold inI; omega) ?_
        refine ex_iastore (pc := 19) dX2_moveAll_19 h_a (by omega) (by omega) ?_
        refine ex_up (fun w1 e_w1 => ?_)
        have h1_r := ((congrFun e_w1 r).trans (up_n (by first | assumption | decide | omega))).trans h_r
        have h1_a := (congrFun e_w1 a).trans up_s
        refine ex_iinc (L2 := [_, _, _]) (pc := 20) dX2_moveAll_20 rfl rfl (Nat.le_of_ble_eq_true rfl) (by unfold inI; omega) rfl ?_
        refine ex_goto (pc := 23) dX2_moveAll_23 (tgt := 2) (by decide) ?_
        exact ih (k + 1) (by omega) (by omega) w1 (fun i => if i < k + 1 then f i + b else f i) (fun i => rfl) (h1_a.trans (by
          congr 2
          funext i
          have hk1 : ((k : Int)).toNat = k := by omega
          simp only [va_up, hk1, hg]
          by_cases h9 : i = k
          · subst h9; rw [if_pos rfl, if_neg (by omega), if_pos (by omega)]
          · rw [if_neg h9]
            by_cases h8 : i < k
            · rw [if_pos h8, if_pos (by omega)]
            · rw [if_neg h8, if_neg (by omega)])) h1_r (fun q hq => (((congrFun e_w1 q).trans (up_n hq)).trans (hfr q hq)))
  refine ex_iconst (pc := 0) dX2_moveAll_0 (by decide) ?_
  refine ex_istore_n (L2 := [_, _, _]) (pc := 1) dX2_moveAll_1 rfl (Nat.le_of_ble_eq_true rfl) rfl ?_
  exact loop (sz + 1) 0 (by omega) (by omega) W f (fun i => by split <;> first | rfl | omega) h_a h_r (fun _ _ => rfl)

abbrev mX2_copyFrom : xC := mkC yX2_copyFrom cX2_copyFrom 2 none 1 100 0 0
set_option maxHeartbeats 4000000 in
set_option maxRecDepth 100000 in
theorem tX2_copyFrom {n : Nat} {w : xW} {r a s b : Nat} {u1 u2 v1 v2 : xV} {f g : Nat → Int} (h_r : w r = xO 2 [xr a, u1, u2]) (h_a : w a = xA 14 f) (h_s : w s = xO 2 [xr b, v1, v2]) (h_b : w b = xA 14 g) (hv1 : ∃ i, v1 = xi i) (hv2 : ∃ i, v2 = xi i) (hrs : r ≠ s) (hab : a ≠ b) : Ctr mX2_copyFrom [xr r, xr s] n w (pV (fun w2 => w2 = va_up (va_up (va_up w a (xA 14 (fun q => if q < 14 then g q else f q))) r (xO 2 [xr a, v1, u2])) r (xO 2 [xr a, v1, v2]))) := by
  refine Ctr.of ykX2_copyFrom rfl (Nat.le_of_ble_eq_true rfl) okV (fun hin hW => ?_)
  have ne1 : a ≠ r := by rintro rfl; rw [h_a] at h_r; cases h_r
  have ne2 : r ≠ a := fun q => ne1 q.symm
  have ne3 : s ≠ a := by rintro rfl; rw [h_a] at h_s; cases h_s
  have ne4 : b ≠ a := fun q => hab q.symm
  have ne5 : b ≠ r := by rintro rfl; rw [h_b] at h_r; cases h_r
  have ne6 : s ≠ r := fun q => hrs q.symm
  obtain ⟨j1, rfl⟩ := hv1
  obtain ⟨j2, rfl⟩ := hv2
  show Ex _ _ 0 0 n w 0 [some (xr r), some (xr s)] []
  refine ex_aload_n (pc := 0) dX2_copyFrom_0 rfl ?_
  refine ex_getfield (pc := 1) dX2_copyFrom_1 fk_X2_9 h_s (by rfl) ?_
  refine ex_iconst (pc := 4) dX2_copyFrom_4 (by decide) ?_
  refine ex_aload_n (pc := 5) dX2_copyFrom_5 rfl ?_
  refine ex_getfield (pc := 6) dX2_copyFrom_6 fk_X2_9 h_r (by rfl) ?_
  refine ex_iconst (pc := 9) dX2_copyFrom_9 (by decide) ?_
  refine ex_bipush (pc := 10) dX2_copyFrom_10 (by decide) ?_
  refine ex_copy (pc := 12) dX2_copyFrom_12 wl_X2_19 h_b h_a rfl rfl rfl (by decide) (by decide) (by decide) (by decide +kernel) ?_
  refine ex_up (fun w1 e_w1 => ?_)
  have h1_r := ((congrFun e_w1 r).trans (up_n (by first | assumption | decide | omega))).trans h_r
  have h1_a := (congrFun e_w1 a).trans up_s
  have h1_s := ((congrFun e_w1 s).trans (up_n (by first | assumption | decide | omega))).trans h_s
  have h1_b := ((congrFun e_w1 b).trans (up_n (by first | assumption | decide | omega))).trans h_b
  refine ex_aload_n (pc := 15) dX2_copyFrom_15 rfl ?_
  refine ex_aload_n (pc := 16) dX2_copyFrom_16 rfl ?_
  refine ex_getfield (pc := 17) dX2_copyFrom_17 fk_X2_15 h1_s (by rfl) ?_
  refine ex_putA (pc := 20) dX2_copyFrom_20 fk_X2_15 (ty := tyX2 1) (fun _ _ _ h9 => by cases h9; exact ⟨tyX2_ok 1 (by decide), rfl⟩) h1_r (Nat.le_of_ble_eq_true rfl) (fun _ => rfl) (fun _ => rfl) ?_
  refine ex_up (fun w2 e_w2 => ?_)
  have h2_r := (congrFun e_w2 r).trans up_s
  have h2_a := ((congrFun e_w2 a).trans (up_n (by first | assumption | decide | omega))).trans h1_a
  have h2_s := ((congrFun e_w2 s).trans (up_n (by first | assumption | decide | omega))).trans h1_s
  have h2_b := ((congrFun e_w2 b).trans (up_n (by first | assumption | decide | omega))).trans h1_b
  refine ex_aload_n (pc := 23) dX2_copyFrom_23 rfl ?_
  refine ex_aload_n (pc := 24) dX2_copyFrom_24 rfl ?_
  refine ex_getfield (pc := 25) dX2_copyFrom_25 fk_X2_25 h2_s (by rfl) ?_
  refine ex_putA (pc := 28) dX2_copyFrom_28 fk_X2_25 (ty := tyX2 2) (fun _ _ _ h9 => by cases h9; exact ⟨tyX2_ok 2 (by decide), rfl⟩) h2_r (Nat.le_of_ble_eq_true rfl) (fun _ => rfl) (fun _ => rfl) ?_
  refine ex_up (fun w3 e_w3 => ?_)
  have h3_r := (congrFun e_w3 r).trans up_s
  have h3_a := ((congrFun e_w3 a).trans (up_n (by first | assumption | decide | omega))).trans h2_a
  have h3_s := ((congrFun e_w3 s).trans (up_n (by first | assumption | decide | omega))).trans h2_s
  have h3_b := ((congrFun e_w3 b).trans (up_n (by first | assumption | decide | omega))).trans h2_b
  exact ex_vret (pc := 31) dX2_copyFrom_31 (by subst e_w3 e_w2 e_w1; rfl) rfl (Nat.le_refl _)

