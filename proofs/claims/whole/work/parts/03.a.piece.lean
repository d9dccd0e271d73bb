abbrev mX2_timeOf : xC := mkC yX2_timeOf cX2_timeOf 2 (some .int) 1 100 0 0
set_option maxHeartbeats 4000000 in
set_option maxRecDepth 100000 in
theorem tX2_timeOf {n : Nat} {w : xW} {r a sz : Nat} {mo : Int} {f : Nat → Int} (h_r : w r = xO 2 [xr a, xi sz, xi mo]) (h_a : w a = xA 14 f) (hsz : sz ≤ 14) (hf : ∀ k, k < sz → 0 ≤ f k) {i : Int} : Ctr mX2_timeOf [xr r, xi i] n w (pI (fun v w2 => w2 = w ∧ v = if 0 ≤ i ∧ i < sz then f i.toNat / 12 else -4)) := by
  refine Ctr.of ykX2_timeOf rfl (Nat.le_of_ble_eq_true rfl) okI (fun hin hW => ?_)
  show Ex _ _ 0 0 n w 0 [some (xr r), some (xi i)] []
  refine ex_iload_n (pc := 0) dX2_timeOf_0 rfl ?_
  refine ex_if_lt (pc := 1) dX2_timeOf_1 (tgt := 24) (by decide) (fun c1 => ?_) (fun c1 => ?_)
  · refine ex_bipush (pc := 24) dX2_timeOf_24 (by decide) ?_
    exact ex_iret (pc := 26) dX2_timeOf_26 ⟨rfl, by first | rw [if_neg (by omega)] | rw [if_pos (by omega)]⟩ rfl (Nat.le_refl _)
  · refine ex_iload_n (pc := 4) dX2_timeOf_4 rfl ?_
    refine ex_aload_n (pc := 5) dX2_timeOf_5 rfl ?_
    refine ex_getfield (pc := 6) dX2_timeOf_6 fk_X2_15 h_r (by rfl) ?_
    refine ex_icmp_ge (pc := 9) dX2_timeOf_9 (tgt := 24) (by decide) (fun c9 => ?_) (fun c9 => ?_)
    · refine ex_bipush (pc := 24) dX2_timeOf_24 (by decide) ?_
      exact ex_iret (pc := 26) dX2_timeOf_26 ⟨rfl, by first | rw [if_neg (by omega)] | rw [if_pos (by omega)]⟩ rfl (Nat.le_refl _)
    · have hfi := hf i.toNat (by omega)
      refine ex_aload_n (pc := 12) dX2_timeOf_12 rfl ?_
      refine ex_getfield (pc := 13) dX2_timeOf_13 fk_X2_9 h_r (by rfl) ?_
      refine ex_iload_n (pc := 16) dX2_timeOf_16 rfl ?_
      refine ex_iaload (pc := 17) dX2_timeOf_17 h_a (by omega) (by omega) ?_
      refine ex_bipush (pc := 18) dX2_timeOf_18 (by decide) ?_
      refine ex_idiv (pc := 20) dX2_timeOf_20 (by omega) (by omega) ?_
      refine ex_goto (pc := 21) dX2_timeOf_21 (tgt := 26) (by decide) ?_
      exact ex_iret (pc := 26) dX2_timeOf_26 ⟨rfl, by first | rw [if_neg (by omega)] | rw [if_pos (by omega)]⟩ rfl (Nat.le_refl _)

abbrev mX2_pitchOf : xC := mkC yX2_pitchOf cX2_pitchOf 2 (some .int) 1 100 0 0
set_option maxHeartbeats 4000000 in
set_option maxRecDepth 100000 in
theorem tX2_pitchOf {n : Nat} {w : xW} {r a sz : Nat} {mo : Int} {f : Nat → Int} (h_r : w r = xO 2 [xr a, xi sz, xi mo]) (h_a : w a = xA 14 f) (hsz : sz ≤ 14) (hf : ∀ k, k < sz → 0 ≤ f k) {i : Int} : Ctr mX2_pitchOf [xr r, xi i] n w (pI (fun v w2 => w2 = w ∧ v = if 0 ≤ i ∧ i < sz then f i.toNat % 12 else -4)) := by
  refine Ctr.of ykX2_pitchOf rfl (Nat.le_of_ble_eq_true rfl) okI (fun hin hW => ?_)
  show Ex _ _ 0 0 n w 0 [some (xr r), some (xi i)] []
  refine ex_iload_n (pc := 0) dX2_pitchOf_0 rfl ?_
  refine ex_if_lt (pc := 1) dX2_pitchOf_1 (tgt := 24) (by decide) (fun c1 => ?_) (fun c1 => ?_)
  · refine ex_bipush (pc := 24) dX2_pitchOf_24 (by decide) ?_
    exact ex_iret (pc := 26) dX2_pitchOf_26 ⟨rfl, by first | rw [if_neg (by omega)] | rw [if_pos (by omega)]⟩ rfl (Nat.le_refl _)
  · refine ex_iload_n (pc := 4) dX2_pitchOf_4 rfl ?_
    refine ex_aload_n (pc := 5) dX2_pitchOf_5 rfl ?_
    refine ex_getfield (pc := 6) dX2_pitchOf_6 fk_X2_15 h_r (by rfl) ?_
    refine ex_icmp_ge (pc := 9) dX2_pitchOf_9 (tgt := 24) (by decide) (fun c9 => ?_) (fun c9 => ?_)
    · refine ex_bipush (pc := 24) dX2_pitchOf_24 (by decide) ?_
      exact ex_iret (pc := 26) dX2_pitchOf_26 ⟨rfl, by first | rw [if_neg (by omega)] | rw [if_pos (by omega)]⟩ rfl (Nat.le_refl _)
    · have hfi := hf i.toNat (by omega)
      refine ex_aload_n (pc := 12) dX2_pitchOf_12 rfl ?_
      refine ex_getfield (pc := 13) dX2_pitchOf_13 fk_X2_9 h_r (by rfl) ?_
      refine ex_iload_n (pc := 16) dX2_pitchOf_16 rfl ?_
      refine ex_iaload (pc := 17) dX2_pitchOf_17 h_a (by omega) (by omega) ?_
      refine ex_bipush (pc := 18) dX2_pitchOf_18 (by decide) ?_
      refine ex_irem (pc := 20) dX2_pitchOf_20 (by omega) (by omega) ?_
      refine ex_goto (pc := 21) dX2_pitchOf_21 (tgt := 26) (by decide) ?_
      exact ex_iret (pc := 26) dX2_pitchOf_26 ⟨rfl, by first | rw [if_neg (by omega)] | rw [if_pos (by omega)]⟩ rfl (Nat.le_refl _)

abbrev mX2_init : xC := mkC yX2_init cX2_init 1 none 1 100 1 14
set_option maxHeartbeats 4000000 in
set_option maxRecDepth 100000 in
theorem tX2_init {n : Nat} {w : xW} {r : Nat} {v0 v1 v2 : xV} (h_r : w r = xO 2 [v0, v1, v2]) (hrn : r ≠ n) : Ctr mX2_init [xr r] n w (pV (fun w2 => w2 = va_up (va_up w n (xA 14 (fun _ => 0))) r (xO 2 [xr n, v1, v2]))) := by
  refine Ctr.of ykX2_init rfl (Nat.le_of_ble_eq_true rfl) okV (fun hin hW => ?_)
  show Ex _ _ 0 0 n w 0 [some (xr r)] []
  refine ex_aload_n (pc := 0) dX2_init_0 rfl ?_
  refine ex_obj (pc := 1) dX2_init_1 wl_X2_3 (by decide) (Nat.le_of_ble_eq_true rfl) ?_
  refine ex_aload_n (pc := 4) dX2_init_4 rfl ?_
  refine ex_bipush (pc := 5) dX2_init_5 (by decide) ?_
  refine ex_newarr (pc := 7) dX2_init_7 (N := 14) rfl (by decide) (Nat.le_refl _) (Nat.le_refl _) ?_
  refine ex_putF (pc := 9) dX2_init_9 fk_X2_9 (ty := tyX2 0) (fun _ _ _ h9 => by cases h9; exact ⟨tyX2_ok 0 (by decide), rfl, rfl⟩) (fun _ _ _ h9 h8 => by cases h9; exact wk_X2_9) ((up_n hrn).trans h_r) (Nat.le_of_ble_eq_true rfl) (fun _ => rfl) (fun _ => rfl) rfl ?_
  exact ex_vret (pc := 12) dX2_init_12 rfl rfl (Nat.le_refl _)

def numOf (f : Nat → Int) (sz : Nat) (c v : Int) : Prop := (∃ k : Nat, k < sz ∧ v = k ∧ f k = c ∧ ∀ q, q < k → f q ≠ c) ∨ (v = -4 ∧ ∀ q, q < sz → f q ≠ c)
abbrev mX2_numberOf : xC := mkC yX2_numberOf cX2_numberOf 3 (some .int) 1 100 0 0
set_option maxHeartbeats 4000000 in
set_option maxRecDepth 100000 in
theorem tX2_numberOf {n : Nat} {w : xW} {r a sz : Nat} {mo : Int} {f : Nat → Int} (h_r : w r = xO 2 [xr a, xi sz, xi mo]) (h_a : w a = xA 14 f) (hsz : sz ≤ 14) {c : Int} : Ctr mX2_numberOf [xr r, xi c] n w (pI (fun v w2 => w2 = w ∧ numOf f sz c v)) := by
  refine Ctr.of ykX2_numberOf rfl (Nat.le_of_ble_eq_true rfl) okI (fun hin hW => ?_)
  show Ex _ _ 0 0 n w 0 [some (xr r), some (xi c), none] []
  have loop : ∀ (d k : Nat), k ≤ sz → sz + 1 ≤ k + d → (∀ q, q < k → f q ≠ c) → Ex mX2_numberOf (pI (fun v w2 => w2 = w ∧ numOf f sz c v)) 0 0 n w 2 [some (xr r), some (xi c), some (xi k)] [] := by
    intro d
    induction d with
    | zero => intro k h1 h2; omega
    | succ d ih =>
      intro k h1 h2 hq0
      refine ex_iload_n (pc := 2) dX2_numberOf_2 rfl ?_
      refine ex_aload_n (pc := 3) dX2_numberOf_3 rfl ?_
      refine ex_getfield (pc := 4) dX2_numberOf_4 fk_X2_15 h_r (by rfl) ?_
      refine ex_icmp_ge (pc := 7) dX2_numberOf_7 (tgt := 28) (by decide) (fun c7 => ?_) (fun c7 => ?_)
      · refine ex_bipush (pc := 28) dX2_numberOf_28 (by decide) ?_
        exact ex_iret (pc := 30) dX2_numberOf_30 ⟨rfl, Or.inr ⟨rfl, fun q hq => hq0 q (by omega)⟩⟩ rfl (Nat.le_refl _)
      · refine ex_aload_n (pc := 10) dX2_numberOf_10 rfl ?_
        refine ex_getfield (pc := 11) dX2_numberOf_11 fk_X2_9 h_r (by rfl) ?_
        refine ex_iload_n (pc := 14) dX2_numberOf_14 rfl ?_
        refine ex_iaload (pc := 15) dX2_numberOf_15 h_a (by omega) (by omega) ?_
        refine ex_iload_n (pc := 16) dX2_numberOf_16 rfl ?_
        refine ex_icmp_ne (pc := 17) dX2_numberOf_17 (tgt := 22) (by decide) (fun c17 => ?_) (fun c17 => ?_)
        · have hq1 : ∀ q, q < k + 1 → f q ≠ c := lt_s hq0 c17
          refine ex_iinc (L2 := [_, _, _]) (pc := 22) dX2_numberOf_22 rfl rfl (Nat.le_of_ble_eq_true rfl) (by unfold inI; omega) rfl ?_
          refine ex_goto (pc := 25) dX2_numberOf_25 (tgt := 2) (by decide) ?_
          exact ih (k + 1) (by omega) (by omega) hq1
        · refine ex_iload_n (pc := 20) dX2_numberOf_20 rfl ?_
          exact ex_iret (pc := 21) dX2_numberOf_21 ⟨rfl, Or.inl ⟨k, by omega, rfl, by simpa using c17, hq0⟩⟩ rfl (Nat.le_refl _)
  refine ex_iconst (pc := 0) dX2_numberOf_0 (by decide) ?_
  refine ex_istore_n (L2 := [_, _, _]) (pc := 1) dX2_numberOf_1 rfl (Nat.le_of_ble_eq_true rfl) rfl ?_
  exact loop (sz + 1) 0 (by omega) (by omega) (fun q hq => by omega)

def insF (f : Nat → Int) (p sz : Nat) (c : Int) : Nat → Int := fun i => if i < p then f i else if i = p then c else if i ≤ sz then f (i - 1) else f i
abbrev mX2_insert : xC := mkC yX2_insert cX2_insert 3 (some .int) 1 100 0 0
-- insert below
set_option maxHeartbeats 4000000 in
set_option maxRecDepth 100000 in
theorem tX2_insert {n : Nat} {w0 : xW} {r a sz : Nat} {mo : Int} {f : Nat → Int} (h_r : w0 r = xO 2 [xr a, xi sz, xi mo]) (h_a : w0 a = xA 14 f) (hsz : sz < 14) {c : Int} : Ctr mX2_insert [xr r, xi c] n w0 (pI (fun v w2 => ∃ p : Nat, p ≤ sz ∧ (∀ q, p ≤ q → q < sz → c < f q) ∧ (p = 0 ∨ f (p - 1) ≤ c) ∧ v = p ∧ w2 = va_up (va_up w0 a (xA 14 (insF f p sz c))) r (xO 2 [xr a, xi (sz + 1), xi mo]))) := by
  refine Ctr.of ykX2_insert rfl (Nat.le_of_ble_eq_true rfl) okI (fun hin hW => ?_)
  show Ex _ _ 0 0 n w0 0 [some (xr r), some (xi c), none] []
  have ne1 : a ≠ r := by rintro rfl; rw [h_a] at h_r; cases h_r
  have ne2 : r ≠ a := fun q => ne1 q.symm
  have loop : ∀ (d k : Nat), k ≤ sz → k + 1 ≤ d → ∀ (w : xW) (g : Nat → Int), (∀ i, g i = if i ≤ k then f i else if i ≤ sz then f (i - 1) else f i) → w a = xA 14 g → w r = xO 2 [xr a, xi sz, xi mo] → (∀ q, q ≠ a → w q = w0 q) → (∀ q, k ≤ q → q < sz → c < f q) → Ex mX2_insert (pI (fun v w2 => ∃ p : Nat, p ≤ sz ∧ (∀ q, p ≤ q → q < sz → c < f q) ∧ (p = 0 ∨ f (p - 1) ≤ c) ∧ v = p ∧ w2 = va_up (va_up w0 a (xA 14 (insF f p sz c))) r (xO 2 [xr a, xi (sz + 1), xi mo]))) 0 0 n w 17 [some (xr r), some (xi c), some (xi k)] [] := by
    intro d
    induction d with
    | zero => intro k h1 h2; omega
    | succ d ih =>
      intro k h1 h2 w g hg h_a h_r hfr hgtA
      refine ex_iload_n (pc := 17) dX2_insert_17 rfl ?_
      refine ex_if_le (pc := 18) dX2_insert_18 (tgt := 53) (by decide) (fun c18 => ?_) (fun c18 => ?_)
      · refine ex_aload_n (pc := 53) dX2_insert_53 rfl ?_
        refine ex_getfield (pc := 54) dX2_insert_54 fk_X2_9 h_r (by rfl) ?_
        refine ex_iload_n (pc := 57) dX2_insert_57 rfl ?_
        refine ex_iload_n (pc := 58) dX2_insert_58 rfl ?_
        refine ex_iastore (pc := 59) dX2_insert_59 h_a (by omega) (by omega) ?_
        refine ex_aload_n (pc := 60) dX2_insert_60 rfl ?_
        refine ex_dup (pc := 61) dX2_insert_61 rfl ?_
        refine ex_getfield (pc := 62) dX2_insert_62 fk_X2_15 ((up_n ne2).trans h_r) (by rfl) ?_
        refine ex_iconst (pc := 65) dX2_insert_65 (by decide) ?_
        refine ex_iadd (pc := 66) dX2_insert_66 (by unfold inI; omega) ?_
        refine ex_putA (pc := 67) dX2_insert_67 fk_X2_15 (ty := tyX2 1) (fun _ _ _ h9 => by cases h9; exact ⟨tyX2_ok 1 (by decide), rfl⟩) ((up_n ne2).trans h_r) (Nat.le_of_ble_eq_true rfl) (fun _ => rfl) (fun _ => rfl) ?_
        refine ex_iload_n (pc := 70) dX2_insert_70 rfl ?_
        exact ex_iret (pc := 71) dX2_insert_71 ⟨k, h1, hgtA, (Or.inl (by omega)), rfl, by
          funext q
          have hk1 : ((k : Int)).toNat = k := by omega
          by_cases q1 : q = r
          · subst q1; rw [up_s, up_s]; rfl
          · rw [up_n q1, up_n q1]
            by_cases q2 : q = a
            · subst q2
              rw [up_s, up_s]
              congr 2
              funext i
              simp only [va_up, hk1, insF, hg]
              by_cases e1 : i = k
              · subst e1; simp
              · rw [if_neg e1]
                by_cases e2 : i < k
                · rw [if_pos (by omega), if_pos e2]
                · rw [if_neg (by omega), if_neg e2, if_neg e1]
            · rw [up_n q2, up_n q2]; exact hfr q q2⟩ rfl (Nat.le_refl _)
      · refine ex_aload_n (pc := 21) dX2_insert_21 rfl ?_
        refine ex_getfield (pc := 22) dX2_insert_22 fk_X2_9 h_r (by rfl) ?_
        refine ex_iload_n (pc := 25) dX2_insert_25 rfl ?_
        refine ex_iconst (pc := 26) dX2_insert_26 (by decide) ?_
        refine ex_isub (pc := 27) dX2_insert_27 (by unfold inI; omega) ?_
        refine ex_iaload (pc := 28) dX2_insert_28 h_a (by omega) (by omega) ?_
        refine ex_iload_n (pc := 29) dX2_insert_29 rfl ?_
        refine ex_icmp_le (pc := 30) dX2_insert_30 (tgt := 53) (by decide) (fun c30 => ?_) (fun c30 => ?_)
        · have hp9 : f (k - 1) ≤ c := by
            have hk2 : ((k : Int) - 1).toNat = k - 1 := by omega
            rw [hk2, hg, if_pos (by omega)] at c30
            omega
          refine ex_aload_n (pc := 53) dX2_insert_53 rfl ?_
          refine ex_getfield (pc := 54) dX2_insert_54 fk_X2_9 h_r (by rfl) ?_
          refine ex_iload_n (pc := 57) dX2_insert_57 rfl ?_
          refine ex_iload_n (pc := 58) dX2_insert_58 rfl ?_
          refine ex_iastore (pc := 59) dX2_insert_59 h_a (by omega) (by omega) ?_
          refine ex_aload_n (pc := 60) dX2_insert_60 rfl ?_
          refine ex_dup (pc := 61) dX2_insert_61 rfl ?_
          refine ex_getfield (pc := 62) dX2_insert_62 fk_X2_15 ((up_n ne2).trans h_r) (by rfl) ?_
          refine ex_iconst (pc := 65) dX2_insert_65 (by decide) ?_
          refine ex_iadd (pc := 66) dX2_insert_66 (by unfold inI; omega) ?_
          refine ex_putA (pc := 67) dX2_insert_67 fk_X2_15 (ty := tyX2 1) (fun _ _ _ h9 => by cases h9; exact ⟨tyX2_ok 1 (by decide), rfl⟩) ((up_n ne2).trans h_r) (Nat.le_of_ble_eq_true rfl) (fun _ => rfl) (fun _ => rfl) ?_
          refine ex_iload_n (pc := 70) dX2_insert_70 rfl ?_
          exact ex_iret (pc := 71) dX2_insert_71 ⟨k, h1, hgtA, (Or.inr hp9), rfl, by
            funext q
            have hk1 : ((k : Int)).toNat = k := by omega
            by_cases q1 : q = r
            · subst q1; rw [up_s, up_s]; rfl
            · rw [up_n q1, up_n q1]
              by_cases q2 : q = a
              · subst q2
                rw [up_s, up_s]
                congr 2
                funext i
                simp only [va_up, hk1, insF, hg]
                by_cases e1 : i = k
                · subst e1; simp
                · rw [if_neg e1]
                  by_cases e2 : i < k
                  · rw [if_pos (by omega), if_pos e2]
                  · rw [if_neg (by omega), if_neg e2, if_neg e1]
              · rw [up_n q2, up_n q2]; exact hfr q q2⟩ rfl (Nat.le_refl _)
        · have hgt : c < f (k - 1) := by
            have hk2 : ((k : Int) - 1).toNat = k - 1 := by omega
            rw [hk2, hg, if_pos (by omega)] at c30
            omega
          refine ex_aload_n (pc := 33) dX2_insert_33 rfl ?_
          refine ex_getfield (pc := 34) dX2_insert_34 fk_X2_9 h_r (by rfl) ?_
          refine ex_iload_n (pc := 37) dX2_insert_37 rfl ?_
          refine ex_aload_n (pc := 38) dX2_insert_38 rfl ?_
          refine ex_getfield (pc := 39) dX2_insert_39 fk_X2_9 h_r (by rfl) ?_
          refine ex_iload_n (pc := 42) dX2_insert_42 rfl ?_
          refine ex_iconst (pc := 43) dX2_insert_43 (by decide) ?_
          refine ex_isub (pc := 44) dX2_insert_44 (by unfold inI; omega) ?_
          refine ex_iaload (pc := 45) dX2_insert_45 h_a (by omega) (by omega) ?_
          refine ex_iastore (pc := 46) dX2_insert_46 h_a (by omega) (by omega) ?_
          refine ex_up (fun w1 e_w1 => ?_)
          have h1_r := ((congrFun e_w1 r).trans (up_n (by first | assumption | decide | omega))).trans h_r
          have h1_a := (congrFun e_w1 a).trans up_s
          refine ex_iinc (L2 := [_, _, _]) (pc := 47) dX2_insert_47 rfl rfl (Nat.le_of_ble_eq_true rfl) (by unfold inI; omega) rfl ?_
          refine ex_goto (pc := 50) dX2_insert_50 (tgt := 17) (by decide) ?_
          rw [show ((k : Int) + -1) = ((k - 1 : Nat) : Int) by omega]
          exact ih (k - 1) (by omega) (by omega) w1 (fun i => if i ≤ k - 1 then f i else if i ≤ sz then f (i - 1) else f i) (fun i => rfl) (h1_a.trans (by
                  congr 2
                  funext i
                  have hk1 : ((k : Int)).toNat = k := by omega
                  have hk2 : ((k : Int) - 1).toNat = k - 1 := by omega
                  simp only [va_up, hk1, hk2, hg]
                  split <;> rename_i h9
                  · subst h9; rw [if_pos (by omega), if_neg (by omega), if_pos (by omega)]
                  · by_cases h8 : i ≤ k - 1
                    · rw [if_pos (by omega), if_pos h8]
                    · rw [if_neg (by omega), if_neg h8])) h1_r (fun q hq => (((congrFun e_w1 q).trans (up_n hq)).trans (hfr q hq))) (fun q h9 h8 => by
                  by_cases h7 : q = k - 1
                  · subst h7
                    have := hgt
                    omega
                  · exact hgtA q (by omega) h8)
  refine ex_aload_n (pc := 0) dX2_insert_0 rfl ?_
  refine ex_getfield (pc := 1) dX2_insert_1 fk_X2_15 h_r (by rfl) ?_
  refine ex_bipush (pc := 4) dX2_insert_4 (by decide) ?_
  refine ex_icmp_lt (pc := 6) dX2_insert_6 (tgt := 12) (by decide) (fun c6 => ?_) (fun c6 => by exfalso; omega)
  refine ex_aload_n (pc := 12) dX2_insert_12 rfl ?_
  refine ex_getfield (pc := 13) dX2_insert_13 fk_X2_15 h_r (by rfl) ?_
  refine ex_istore_n (L2 := [_, _, _]) (pc := 16) dX2_insert_16 rfl (Nat.le_of_ble_eq_true rfl) rfl ?_
  exact loop (sz + 1) sz (by omega) (by omega) w0 f (fun i => by split <;> simp_all) h_a h_r (fun _ _ => rfl) (fun q h1 h2 => by omega)

