/-! ===== the reference: a piece in a row of 30 places, from place o on ===== -/
def RowL (f : Nat → Int) (o : Nat) (cs : List Int) (mo : Int) : Prop := f o = cs.length ∧ f (o + 1) = mo ∧ ∀ i, i < cs.length → f (o + 2 + i) = tmL cs i ∧ f (o + 16 + i) = ptL cs i
theorem RowL.congr {f g : Nat → Int} {o o2 : Nat} {cs : List Int} {mo : Int} (h : RowL f o cs mo) (hl : cs.length ≤ 14) (hg : ∀ i, i < 30 → g (o2 + i) = f (o + i)) : RowL g o2 cs mo := by
  obtain ⟨h1, h2, h3⟩ := h
  refine ⟨(hg 0 (by omega)).trans h1, (hg 1 (by omega)).trans h2, fun i hi => ?_⟩
  have e1 := hg (2 + i) (by omega)
  have e2 := hg (16 + i) (by omega)
  rw [← Nat.add_assoc, ← Nat.add_assoc] at e1 e2
  exact ⟨e1.trans (h3 i hi).1, e2.trans (h3 i hi).2⟩
abbrev mX7_copies : xC := mkC yX7_copies cX7_copies 5 none 1 100 0 0
set_option maxHeartbeats 4000000 in
set_option maxRecDepth 100000 in
theorem tX7_copies {n : Nat} {W : xW} {a b N M x y : Nat} {f g : Nat → Int} (h_a : W a = xA N f) (h_b : W b = xA M g) (ne1 : a ≠ b) (hx : x + 30 ≤ N) (hy : y + 30 ≤ M) (hN : N ≤ 100000) (hM : M ≤ 100000) : Ctr mX7_copies [xr a, xi x, xr b, xi y] n W (pV (fun w2 => w2 = va_up W b (xA M (fun q => if y ≤ q ∧ q < y + 30 then f (x + (q - y)) else g q)))) := by
  refine Ctr.of ykX7_copies rfl (Nat.le_of_ble_eq_true rfl) okV (fun hin hW => ?_)
  show Ex _ _ 0 0 n W 0 [some (xr a), some (xi x), some (xr b), some (xi y), none] []
  have loop : ∀ (d k : Nat), k ≤ 30 → 31 ≤ k + d → ∀ (w : xW), w b = xA M (fun q => if y ≤ q ∧ q < y + k then f (x + (q - y)) else g q) → w a = xA N f → (∀ q, q ≠ b → w q = W q) → Ex mX7_copies (pV (fun w2 => w2 = va_up W b (xA M (fun q => if y ≤ q ∧ q < y + 30 then f (x + (q - y)) else g q)))) 0 0 n w 3 [some (xr a), some (xi x), some (xr b), some (xi y), some (xi k)] [] := by
    intro d
    induction d with
    | zero => intro k h1 h2; omega
    | succ d ih =>
      intro k h1 h2 w h_b h_a hfr
      refine ex_iload (pc := 3) dX7_copies_3 rfl ?_
      refine ex_bipush (pc := 5) dX7_copies_5 (by decide) ?_
      refine ex_icmp_ge (pc := 7) dX7_copies_7 (tgt := 28) (by decide) (fun c7 => ?_) (fun c7 => ?_)
      · exact ex_vret (pc := 28) dX7_copies_28 (by
  have hk : k = 30 := by omega
  subst hk
  funext q
  by_cases z : q = b
  · subst z; rw [up_s, h_b]
  · rw [up_n z, hfr q z]) rfl (Nat.le_refl _)
      · refine ex_aload_n (pc := 10) dX7_copies_10 rfl ?_
        refine ex_iload_n (pc := 11) dX7_copies_11 rfl ?_
        refine ex_iload (pc := 12) dX7_copies_12 rfl ?_
        refine ex_iadd (pc := 14) dX7_copies_14 (by unfold inI; omega) ?_
        refine ex_aload_n (pc := 15) dX7_copies_15 rfl ?_
        refine ex_iload_n (pc := 16) dX7_copies_16 rfl ?_
        refine ex_iload (pc := 17) dX7_copies_17 rfl ?_
        refine ex_iadd (pc := 19) dX7_copies_19 (by unfold inI; omega) ?_
        refine ex_iaload (pc := 20) dX7_copies_20 h_a (by omega) (by omega) ?_
        refine ex_iastore (pc := 21) dX7_copies_21 h_b (by omega) (by omega) ?_
        refine ex_up (fun w1 e_w1 => ?_)
        have h1_a := ((congrFun e_w1 a).trans (up_n (by first | assumption | decide | omega))).trans h_a
        have h1_b := (congrFun e_w1 b).trans up_s
        refine ex_iinc (L2 := [_, _, _, _, _]) (pc := 22) dX7_copies_22 rfl rfl (Nat.le_of_ble_eq_true rfl) (by unfold inI; omega) rfl ?_
        refine ex_goto (pc := 25) dX7_copies_25 (tgt := 3) (by decide) ?_
        have e1 : ((y : Int) + (k : Int)).toNat = y + k := by omega
        have e2 : ((x : Int) + (k : Int)).toNat = x + k := by omega
        refine ih (k + 1) (by omega) (by omega) w1 (h1_b.trans ?_) h1_a (fun q hq => ((congrFun e_w1 q).trans (up_n hq)).trans (hfr q hq))
        congr 2
        funext q
        rw [e1, e2]
        by_cases z : q = y + k
        · rw [z, up_s, if_pos (by omega), show x + (y + k - y) = x + k by omega]
        · rw [up_n z]
          by_cases z2 : y ≤ q ∧ q < y + k
          · rw [if_pos z2, if_pos (by omega)]
          · rw [if_neg z2, if_neg (by omega)]
  refine ex_iconst (pc := 0) dX7_copies_0 (by decide) ?_
  refine ex_istore (L2 := [_, _, _, _, _]) (pc := 1) dX7_copies_1 rfl (Nat.le_of_ble_eq_true rfl) rfl ?_
  exact loop 31 0 (by omega) (by omega) W (h_b.trans (by congr 2; funext q; rw [if_neg (by omega)])) h_a (fun _ _ => rfl)

abbrev mX7_numberOf : xC := mkC yX7_numberOf cX7_numberOf 4 (some .int) 1 100 0 0
set_option maxHeartbeats 4000000 in
set_option maxRecDepth 100000 in
theorem tX7_numberOf {n : Nat} {w : xW} {a : Nat} {f : Nat → Int} {cs : List Int} {mo : Int} (h_a : w a = xA 30 f) (hR : RowL f 0 cs mo) (hl : cs.length ≤ 14) (hcd : Cod cs) {t b : Int} (hb : 0 ≤ b ∧ b < 12) : Ctr mX7_numberOf [xr a, xi t, xi b] n w (pI (fun v w2 => w2 = w ∧ v = numL (t * 12 + b) cs)) := by
  refine Ctr.of ykX7_numberOf rfl (Nat.le_of_ble_eq_true rfl) okI (fun hin hW => ?_)
  show Ex _ _ 0 0 n w 0 [some (xr a), some (xi t), some (xi b), none] []
  have loop : ∀ (d k : Nat), k ≤ cs.length → cs.length + 1 ≤ k + d → (∀ z, z < k → cs.getD z 0 ≠ t * 12 + b) → Ex mX7_numberOf (pI (fun v w2 => w2 = w ∧ v = numL (t * 12 + b) cs)) 0 0 n w 2 [some (xr a), some (xi t), some (xi b), some (xi k)] [] := by
    intro d
    induction d with
    | zero => intro k h1 h2; omega
    | succ d ih =>
      intro k h1 h2 hq0
      refine ex_iload_n (pc := 2) dX7_numberOf_2 rfl ?_
      refine ex_aload_n (pc := 3) dX7_numberOf_3 rfl ?_
      refine ex_iconst (pc := 4) dX7_numberOf_4 (by decide) ?_
      refine ex_iaload (pc := 5) dX7_numberOf_5 h_a (by omega) (by omega) ?_
      rw [show (0 : Int).toNat = 0 from rfl, hR.1]
      refine ex_icmp_ge (pc := 6) dX7_numberOf_6 (tgt := 36) (by decide) (fun c6 => ?_) (fun c6 => ?_)
      · refine ex_bipush (pc := 36) dX7_numberOf_36 (by decide) ?_
        exact ex_iret (pc := 38) dX7_numberOf_38 ⟨rfl, numOf_L (f := fun i => cs.getD i 0) (fun _ _ => rfl) (Or.inr ⟨rfl, fun q hq => hq0 q (by omega)⟩)⟩ rfl (Nat.le_refl _)
      · have h9 := hR.2.2 k (by omega)
        have e0 : (0 : Int).toNat = 0 := rfl
        have e2 : ((2 : Int) + (k : Int)).toNat = 0 + 2 + k := by omega
        have e16 : ((16 : Int) + (k : Int)).toNat = 0 + 16 + k := by omega
        have hck := hcd k (by omega)
        unfold tmL ptL at h9
        refine ex_aload_n (pc := 9) dX7_numberOf_9 rfl ?_
        refine ex_iconst (pc := 10) dX7_numberOf_10 (by decide) ?_
        refine ex_iload_n (pc := 11) dX7_numberOf_11 rfl ?_
        refine ex_iadd (pc := 12) dX7_numberOf_12 (by unfold inI; omega) ?_
        refine ex_iaload (pc := 13) dX7_numberOf_13 h_a (by omega) (by omega) ?_
        refine ex_iload_n (pc := 14) dX7_numberOf_14 rfl ?_
        refine ex_icmp_ne (pc := 15) dX7_numberOf_15 (tgt := 30) (by decide) (fun c15 => ?_) (fun c15 => ?_)
        · refine ex_iinc (L2 := [_, _, _, _]) (pc := 30) dX7_numberOf_30 rfl rfl (Nat.le_of_ble_eq_true rfl) (by unfold inI; omega) rfl ?_
          refine ex_goto (pc := 33) dX7_numberOf_33 (tgt := 2) (by decide) ?_
          exact ih (k + 1) (by omega) (by omega) (lt_s hq0 (by rw [e2, h9.1] at c15; omega))
        · refine ex_aload_n (pc := 18) dX7_numberOf_18 rfl ?_
          refine ex_bipush (pc := 19) dX7_numberOf_19 (by decide) ?_
          refine ex_iload_n (pc := 21) dX7_numberOf_21 rfl ?_
          refine ex_iadd (pc := 22) dX7_numberOf_22 (by unfold inI; omega) ?_
          refine ex_iaload (pc := 23) dX7_numberOf_23 h_a (by omega) (by omega) ?_
          refine ex_iload_n (pc := 24) dX7_numberOf_24 rfl ?_
          refine ex_icmp_ne (pc := 25) dX7_numberOf_25 (tgt := 30) (by decide) (fun c25 => ?_) (fun c25 => ?_)
          · refine ex_iinc (L2 := [_, _, _, _]) (pc := 30) dX7_numberOf_30 rfl rfl (Nat.le_of_ble_eq_true rfl) (by unfold inI; omega) rfl ?_
            refine ex_goto (pc := 33) dX7_numberOf_33 (tgt := 2) (by decide) ?_
            exact ih (k + 1) (by omega) (by omega) (lt_s hq0 (by rw [e16, h9.2] at c25; omega))
          · refine ex_iload_n (pc := 28) dX7_numberOf_28 rfl ?_
            exact ex_iret (pc := 29) dX7_numberOf_29 ⟨rfl, numOf_L (f := fun i => cs.getD i 0) (fun _ _ => rfl) (Or.inl ⟨k, by omega, rfl, by show cs.getD k 0 = _; rw [e2, h9.1] at c15; rw [e16, h9.2] at c25; omega, hq0⟩)⟩ rfl (Nat.le_refl _)
  refine ex_iconst (pc := 0) dX7_numberOf_0 (by decide) ?_
  refine ex_istore_n (L2 := [_, _, _, _]) (pc := 1) dX7_numberOf_1 rfl (Nat.le_of_ble_eq_true rfl) rfl ?_
  exact loop (cs.length + 1) 0 (by omega) (by omega) (fun z hz => absurd hz (Nat.not_lt_zero _))

abbrev mX7_puts : xC := mkC yX7_puts cX7_puts 4 (some .int) 1 100 0 0
def shF (f : Nat → Int) (k sz : Nat) : Nat → Int := fun q => if (2 + k < q ∧ q ≤ 2 + sz) ∨ (16 + k < q ∧ q ≤ 16 + sz) then f (q - 1) else f q
def putF (f : Nat → Int) (k sz : Nat) (t b : Int) : Nat → Int := va_up (va_up (va_up (shF f k sz) (2 + k) t) (16 + k) b) 0 ((sz : Int) + 1)
theorem putF_row {f : Nat → Int} {cs : List Int} {mo t b : Int} (h : RowL f 0 cs mo) (hb : 0 ≤ b ∧ b < 12) (hl : cs.length < 14) : RowL (putF f (posL (t * 12 + b) cs) cs.length t b) 0 (insL (t * 12 + b) cs) mo := by
  obtain ⟨h1, h2, h3⟩ := h
  have hp := posL_le (t * 12 + b) cs
  generalize hpp : posL (t * 12 + b) cs = p at *
  unfold putF
  refine ⟨?_, ?_, fun i hi => ?_⟩
  · rw [up_s, insL_len]; omega
  · rw [up_n (by omega), up_n (by omega), up_n (by omega)]
    unfold shF
    rw [if_neg (by omega)]; exact h2
  · rw [insL_len] at hi
    have hI : (insL (t * 12 + b) cs).getD i 0 = insF (fun i => cs.getD i 0) p cs.length (t * 12 + b) i := by
      have := ins_L (f := fun i => cs.getD i 0) (cs := cs) (fun _ _ => rfl) (c := t * 12 + b) i (by rw [insL_len]; exact hi)
      rw [hpp] at this
      exact this.symm
    unfold tmL ptL
    rw [hI]
    unfold insF
    by_cases y1 : i < p
    · rw [if_pos y1, up_n (by omega), up_n (by omega), up_n (by omega), up_n (by omega), up_n (by omega), up_n (by omega)]
      unfold shF
      rw [if_neg (by omega), if_neg (by omega)]
      exact h3 i (by omega)
    · rw [if_neg y1]
      by_cases y2 : i = p
      · subst y2
        rw [if_pos rfl]
        refine ⟨?_, ?_⟩
        · rw [up_n (by omega), up_n (by omega), show 0 + 2 + i = 2 + i by omega, up_s]; omega
        · rw [up_n (by omega), show 0 + 16 + i = 16 + i by omega, up_s]; omega
      · rw [if_neg y2, if_pos (by omega), up_n (by omega), up_n (by omega), up_n (by omega), up_n (by omega), up_n (by omega), up_n (by omega)]
        unfold shF
        rw [if_pos (by omega), if_pos (by omega)]
        have h9 := h3 (i - 1) (by omega)
        rw [show 0 + 2 + i - 1 = 0 + 2 + (i - 1) by omega, show 0 + 16 + i - 1 = 0 + 16 + (i - 1) by omega]
        exact h9
set_option maxHeartbeats 4000000 in
set_option maxRecDepth 100000 in
theorem tX7_puts {n : Nat} {W : xW} {a : Nat} {f : Nat → Int} {cs : List Int} {mo : Int} (h_a : W a = xA 30 f) (hR : RowL f 0 cs mo) (hl : cs.length < 14) (hcd : Cod cs) {t b : Int} (hb : 0 ≤ b ∧ b < 12) : Ctr mX7_puts [xr a, xi t, xi b] n W (pI (fun v w2 => v = (posL (t * 12 + b) cs : Int) ∧ w2 = va_up W a (xA 30 (putF f (posL (t * 12 + b) cs) cs.length t b)))) := by
  refine Ctr.of ykX7_puts rfl (Nat.le_of_ble_eq_true rfl) okI (fun hin hW => ?_)
  show Ex _ _ 0 0 n W 0 [some (xr a), some (xi t), some (xi b), none] []
  have loop : ∀ (d k : Nat), k ≤ cs.length → k + 1 ≤ d → ∀ (w : xW) (g : Nat → Int), (∀ q, g q = shF f k cs.length q) → w a = xA 30 g → (∀ q, q ≠ a → w q = W q) → (∀ q, k ≤ q → q < cs.length → t * 12 + b < cs.getD q 0) → Ex mX7_puts (pI (fun v w2 => v = (posL (t * 12 + b) cs : Int) ∧ w2 = va_up W a (xA 30 (putF f (posL (t * 12 + b) cs) cs.length t b)))) 0 0 n w 4 [some (xr a), some (xi t), some (xi b), some (xi k)] [] := by
    intro d
    induction d with
    | zero => intro k h1 h2; omega
    | succ d ih =>
      intro k h1 h2 w g hg h_a hfr hgtA
      refine ex_iload_n (pc := 4) dX7_puts_4 rfl ?_
      refine ex_if_le (pc := 5) dX7_puts_5 (tgt := 74) (by decide) (fun c5 => ?_) (fun c5 => ?_)
      · have hpos : k = posL (t * 12 + b) cs := posF_eq cs.length k h1 hgtA (Or.inl (by omega))
        have f2 : ((2 : Int) + (k : Int)).toNat = 2 + k := by omega
        have f16 : ((16 : Int) + (k : Int)).toNat = 16 + k := by omega
        refine ex_aload_n (pc := 74) dX7_puts_74 rfl ?_
        refine ex_iconst (pc := 75) dX7_puts_75 (by decide) ?_
        refine ex_iload_n (pc := 76) dX7_puts_76 rfl ?_
        refine ex_iadd (pc := 77) dX7_puts_77 (by unfold inI; omega) ?_
        refine ex_iload_n (pc := 78) dX7_puts_78 rfl ?_
        refine ex_iastore (pc := 79) dX7_puts_79 h_a (by omega) (by omega) ?_
        refine ex_up (fun w1 e_w1 => ?_)
        have h1_a := (congrFun e_w1 a).trans up_s
        refine ex_aload_n (pc := 80) dX7_puts_80 rfl ?_
        refine ex_bipush (pc := 81) dX7_puts_81 (by decide) ?_
        refine ex_iload_n (pc := 83) dX7_puts_83 rfl ?_
        refine ex_iadd (pc := 84) dX7_puts_84 (by unfold inI; omega) ?_
        refine ex_iload_n (pc := 85) dX7_puts_85 rfl ?_
        refine ex_iastore (pc := 86) dX7_puts_86 h1_a (by omega) (by omega) ?_
        refine ex_up (fun w2 e_w2 => ?_)
        have h2_a := (congrFun e_w2 a).trans up_s
        refine ex_aload_n (pc := 87) dX7_puts_87 rfl ?_
        refine ex_iconst (pc := 88) dX7_puts_88 (by decide) ?_
        refine ex_dup2 (pc := 89) dX7_puts_89 rfl rfl ?_
        refine ex_iaload (pc := 90) dX7_puts_90 h2_a (by omega) (by omega) ?_
        have z0 : (0 : Int).toNat = 0 := rfl
        have hg0 : va_up (va_up g ((2 : Int) + (k : Int)).toNat t) ((16 : Int) + (k : Int)).toNat b (0 : Int).toNat = (cs.length : Int) := by rw [z0, f2, f16, up_n (by omega), up_n (by omega), hg]; unfold shF; rw [if_neg (by omega)]; exact hR.1
        rw [hg0]
        refine ex_iconst (pc := 91) dX7_puts_91 (by decide) ?_
        refine ex_iadd (pc := 92) dX7_puts_92 (by unfold inI; omega) ?_
        refine ex_iastore (pc := 93) dX7_puts_93 h2_a (by omega) (by omega) ?_
        refine ex_up (fun w3 e_w3 => ?_)
        have h3_a := (congrFun e_w3 a).trans up_s
        refine ex_iload_n (pc := 94) dX7_puts_94 rfl ?_
        exact ex_iret (pc := 95) dX7_puts_95 ⟨by rw [← hpos], by
  funext q
  by_cases z : q = a
  · subst z
    rw [up_s, h3_a, z0, f2, f16, ← hpos]
    congr 2
    rw [show g = shF f k cs.length from funext hg]
  · rw [up_n z, e_w3, up_n z, e_w2, up_n z, e_w1, up_n z]; exact hfr q z⟩ rfl (Nat.le_refl _)
      · have h9 := hR.2.2 (k - 1) (by omega)
        unfold tmL ptL at h9
        have hck := hcd (k - 1) (by omega)
        have e2 : ((2 : Int) + (k : Int) - 1).toNat = 0 + 2 + (k - 1) := by omega
        have e16 : ((16 : Int) + (k : Int) - 1).toNat = 0 + 16 + (k - 1) := by omega
        have g2 : g (0 + 2 + (k - 1)) = cs.getD (k - 1) 0 / 12 := by rw [hg]; unfold shF; rw [if_neg (by omega)]; exact h9.1
        have g16 : g (0 + 16 + (k - 1)) = cs.getD (k - 1) 0 % 12 := by rw [hg]; unfold shF; rw [if_neg (by omega)]; exact h9.2
        refine ex_aload_n (pc := 8) dX7_puts_8 rfl ?_
        refine ex_iconst (pc := 9) dX7_puts_9 (by decide) ?_
        refine ex_iload_n (pc := 10) dX7_puts_10 rfl ?_
        refine ex_iadd (pc := 11) dX7_puts_11 (by unfold inI; omega) ?_
        refine ex_iconst (pc := 12) dX7_puts_12 (by decide) ?_
        refine ex_isub (pc := 13) dX7_puts_13 (by unfold inI; omega) ?_
        refine ex_iaload (pc := 14) dX7_puts_14 h_a (by omega) (by omega) ?_
        refine ex_iload_n (pc := 15) dX7_puts_15 rfl ?_
        refine ex_icmp_gt (pc := 16) dX7_puts_16 (tgt := 42) (by decide) (fun c16 => ?_) (fun c16 => ?_)
        · refine ex_aload_n (pc := 42) dX7_puts_42 rfl ?_
          refine ex_iconst (pc := 43) dX7_puts_43 (by decide) ?_
          refine ex_iload_n (pc := 44) dX7_puts_44 rfl ?_
          refine ex_iadd (pc := 45) dX7_puts_45 (by unfold inI; omega) ?_
          refine ex_aload_n (pc := 46) dX7_puts_46 rfl ?_
          refine ex_iconst (pc := 47) dX7_puts_47 (by decide) ?_
          refine ex_iload_n (pc := 48) dX7_puts_48 rfl ?_
          refine ex_iadd (pc := 49) dX7_puts_49 (by unfold inI; omega) ?_
          refine ex_iconst (pc := 50) dX7_puts_50 (by decide) ?_
          refine ex_isub (pc := 51) dX7_puts_51 (by unfold inI; omega) ?_
          refine ex_iaload (pc := 52) dX7_puts_52 h_a (by omega) (by omega) ?_
          refine ex_iastore (pc := 53) dX7_puts_53 h_a (by omega) (by omega) ?_
          refine ex_up (fun w1 e_w1 => ?_)
          have h1_a := (congrFun e_w1 a).trans up_s
          refine ex_aload_n (pc := 54) dX7_puts_54 rfl ?_
          refine ex_bipush (pc := 55) dX7_puts_55 (by decide) ?_
          refine ex_iload_n (pc := 57) dX7_puts_57 rfl ?_
          refine ex_iadd (pc := 58) dX7_puts_58 (by unfold inI; omega) ?_
          refine ex_aload_n (pc := 59) dX7_puts_59 rfl ?_
          refine ex_bipush (pc := 60) dX7_puts_60 (by decide) ?_
          refine ex_iload_n (pc := 62) dX7_puts_62 rfl ?_
          refine ex_iadd (pc := 63) dX7_puts_63 (by unfold inI; omega) ?_
          refine ex_iconst (pc := 64) dX7_puts_64 (by decide) ?_
          refine ex_isub (pc := 65) dX7_puts_65 (by unfold inI; omega) ?_
          refine ex_iaload (pc := 66) dX7_puts_66 h1_a (by omega) (by omega) ?_
          refine ex_iastore (pc := 67) dX7_puts_67 h1_a (by omega) (by omega) ?_
          refine ex_up (fun w2 e_w2 => ?_)
          have h2_a := (congrFun e_w2 a).trans up_s
          refine ex_iinc (L2 := [_, _, _, _]) (pc := 68) dX7_puts_68 rfl rfl (Nat.le_of_ble_eq_true rfl) (by unfold inI; omega) rfl ?_
          refine ex_goto (pc := 71) dX7_puts_71 (tgt := 4) (by decide) ?_
          have hgt : t * 12 + b < cs.getD (k - 1) 0 := by rw [e2, g2] at c16; omega
          rw [show ((k : Int) + -1) = ((k - 1 : Nat) : Int) by omega]
          have f2 : ((2 : Int) + (k : Int)).toNat = 2 + k := by omega
          have f16 : ((16 : Int) + (k : Int)).toNat = 16 + k := by omega
          refine ih (k - 1) (by omega) (by omega) w2 (shF f (k - 1) cs.length) (fun _ => rfl) (h2_a.trans ?_) (fun q hq => ((congrFun e_w2 q).trans (up_n hq)).trans (((congrFun e_w1 q).trans (up_n hq)).trans (hfr q hq))) (fun q q1 q2 => ?_)
          · congr 2
            funext q
            rw [e2, e16, f2, f16]
            by_cases z : q = 16 + k
            · rw [z, up_s, up_n (by omega)]
              rw [hg]
              unfold shF
              rw [if_neg (by omega), if_pos (by omega), show 16 + k - 1 = 0 + 16 + (k - 1) by omega]
            · rw [up_n z]
              by_cases z2 : q = 2 + k
              · rw [z2, up_s, hg]
                unfold shF
                rw [if_neg (by omega), if_pos (by omega), show 2 + k - 1 = 0 + 2 + (k - 1) by omega]
              · rw [up_n z2, hg]
                unfold shF
                by_cases z3 : (2 + k < q ∧ q ≤ 2 + cs.length) ∨ (16 + k < q ∧ q ≤ 16 + cs.length)
                · rw [if_pos z3, if_pos (by omega)]
                · rw [if_neg z3, if_neg (by omega)]
          · by_cases z : q = k - 1
            · rw [z]; exact hgt
            · exact hgtA q (by omega) q2
        · refine ex_aload_n (pc := 19) dX7_puts_19 rfl ?_
          refine ex_iconst (pc := 20) dX7_puts_20 (by decide) ?_
          refine ex_iload_n (pc := 21) dX7_puts_21 rfl ?_
          refine ex_iadd (pc := 22) dX7_puts_22 (by unfold inI; omega) ?_
          refine ex_iconst (pc := 23) dX7_puts_23 (by decide) ?_
          refine ex_isub (pc := 24) dX7_puts_24 (by unfold inI; omega) ?_
          refine ex_iaload (pc := 25) dX7_puts_25 h_a (by omega) (by omega) ?_
          refine ex_iload_n (pc := 26) dX7_puts_26 rfl ?_
          refine ex_icmp_ne (pc := 27) dX7_puts_27 (tgt := 74) (by decide) (fun c27 => ?_) (fun c27 => ?_)
          · have hpos : k = posL (t * 12 + b) cs := posF_eq cs.length k h1 hgtA (Or.inr (by rw [e2, g2] at c16 c27; omega))
            have f2 : ((2 : Int) + (k : Int)).toNat = 2 + k := by omega
            have f16 : ((16 : Int) + (k : Int)).toNat = 16 + k := by omega
            refine ex_aload_n (pc := 74) dX7_puts_74 rfl ?_
            refine ex_iconst (pc := 75) dX7_puts_75 (by decide) ?_
            refine ex_iload_n (pc := 76) dX7_puts_76 rfl ?_
            refine ex_iadd (pc := 77) dX7_puts_77 (by unfold inI; omega) ?_
            refine ex_iload_n (pc := 78) dX7_puts_78 rfl ?_
            refine ex_iastore (pc := 79) dX7_puts_79 h_a (by omega) (by omega) ?_
            refine ex_up (fun w1 e_w1 => ?_)
            have h1_a := (congrFun e_w1 a).trans up_s
            refine ex_aload_n (pc := 80) dX7_puts_80 rfl ?_
            refine ex_bipush (pc := 81) dX7_puts_81 (by decide) ?_
            refine ex_iload_n (pc := 83) dX7_puts_83 rfl ?_
            refine ex_iadd (pc := 84) dX7_puts_84 (by unfold inI; omega) ?_
            refine ex_iload_n (pc := 85) dX7_puts_85 rfl ?_
            refine ex_iastore (pc := 86) dX7_puts_86 h1_a (by omega) (by omega) ?_
            refine ex_up (fun w2 e_w2 => ?_)
            have h2_a := (congrFun e_w2 a).trans up_s
            refine ex_aload_n (pc := 87) dX7_puts_87 rfl ?_
            refine ex_iconst (pc := 88) dX7_puts_88 (by decide) ?_
            refine ex_dup2 (pc := 89) dX7_puts_89 rfl rfl ?_
            refine ex_iaload (pc := 90) dX7_puts_90 h2_a (by omega) (by omega) ?_
            have z0 : (0 : Int).toNat = 0 := rfl
            have hg0 : va_up (va_up g ((2 : Int) + (k : Int)).toNat t) ((16 : Int) + (k : Int)).toNat b (0 : Int).toNat = (cs.length : Int) := by rw [z0, f2, f16, up_n (by omega), up_n (by omega), hg]; unfold shF; rw [if_neg (by omega)]; exact hR.1
            rw [hg0]
            refine ex_iconst (pc := 91) dX7_puts_91 (by decide) ?_
            refine ex_iadd (pc := 92) dX7_puts_92 (by unfold inI; omega) ?_
            refine ex_iastore (pc := 93) dX7_puts_93 h2_a (by omega) (by omega) ?_
            refine ex_up (fun w3 e_w3 => ?_)
            have h3_a := (congrFun e_w3 a).trans up_s
            refine ex_iload_n (pc := 94) dX7_puts_94 rfl ?_
            exact ex_iret (pc := 95) dX7_puts_95 ⟨by rw [← hpos], by
  funext q
  by_cases z : q = a
  · subst z
    rw [up_s, h3_a, z0, f2, f16, ← hpos]
    congr 2
    rw [show g = shF f k cs.length from funext hg]
  · rw [up_n z, e_w3, up_n z, e_w2, up_n z, e_w1, up_n z]; exact hfr q z⟩ rfl (Nat.le_refl _)
          · refine ex_aload_n (pc := 30) dX7_puts_30 rfl ?_
            refine ex_bipush (pc := 31) dX7_puts_31 (by decide) ?_
            refine ex_iload_n (pc := 33) dX7_puts_33 rfl ?_
            refine ex_iadd (pc := 34) dX7_puts_34 (by unfold inI; omega) ?_
            refine ex_iconst (pc := 35) dX7_puts_35 (by decide) ?_
            refine ex_isub (pc := 36) dX7_puts_36 (by unfold inI; omega) ?_
            refine ex_iaload (pc := 37) dX7_puts_37 h_a (by omega) (by omega) ?_
            refine ex_iload_n (pc := 38) dX7_puts_38 rfl ?_
            refine ex_icmp_le (pc := 39) dX7_puts_39 (tgt := 74) (by decide) (fun c39 => ?_) (fun c39 => ?_)
            · have hpos : k = posL (t * 12 + b) cs := posF_eq cs.length k h1 hgtA (Or.inr (by rw [e2, g2] at c16 c27; rw [e16, g16] at c39; omega))
              have f2 : ((2 : Int) + (k : Int)).toNat = 2 + k := by omega
              have f16 : ((16 : Int) + (k : Int)).toNat = 16 + k := by omega
              refine ex_aload_n (pc := 74) dX7_puts_74 rfl ?_
              refine ex_iconst (pc := 75) dX7_puts_75 (by decide) ?_
              refine ex_iload_n (pc := 76) dX7_puts_76 rfl ?_
              refine ex_iadd (pc := 77) dX7_puts_77 (by unfold inI; omega) ?_
              refine ex_iload_n (pc := 78) dX7_puts_78 rfl ?_
              refine ex_iastore (pc := 79) dX7_puts_79 h_a (by omega) (by omega) ?_
              refine ex_up (fun w1 e_w1 => ?_)
              have h1_a := (congrFun e_w1 a).trans up_s
              refine ex_aload_n (pc := 80) dX7_puts_80 rfl ?_
              refine ex_bipush (pc := 81) dX7_puts_81 (by decide) ?_
              refine ex_iload_n (pc := 83) dX7_puts_83 rfl ?_
              refine ex_iadd (pc := 84) dX7_puts_84 (by unfold inI; omega) ?_
              refine ex_iload_n (pc := 85) dX7_puts_85 rfl ?_
              refine ex_iastore (pc := 86) dX7_puts_86 h1_a (by omega) (by omega) ?_
              refine ex_up (fun w2 e_w2 => ?_)
              have h2_a := (congrFun e_w2 a).trans up_s
              refine ex_aload_n (pc := 87) dX7_puts_87 rfl ?_
              refine ex_iconst (pc := 88) dX7_puts_88 (by decide) ?_
              refine ex_dup2 (pc := 89) dX7_puts_89 rfl rfl ?_
              refine ex_iaload (pc := 90) dX7_puts_90 h2_a (by omega) (by omega) ?_
              have z0 : (0 : Int).toNat = 0 := rfl
              have hg0 : va_up (va_up g ((2 : Int) + (k : Int)).toNat t) ((16 : Int) + (k : Int)).toNat b (0 : Int).toNat = (cs.length : Int) := by rw [z0, f2, f16, up_n (by omega), up_n (by omega), hg]; unfold shF; rw [if_neg (by omega)]; exact hR.1
              rw [hg0]
              refine ex_iconst (pc := 91) dX7_puts_91 (by decide) ?_
              refine ex_iadd (pc := 92) dX7_puts_92 (by unfold inI; omega) ?_
              refine ex_iastore (pc := 93) dX7_puts_93 h2_a (by omega) (by omega) ?_
              refine ex_up (fun w3 e_w3 => ?_)
              have h3_a := (congrFun e_w3 a).trans up_s
              refine ex_iload_n (pc := 94) dX7_puts_94 rfl ?_
              exact ex_iret (pc := 95) dX7_puts_95 ⟨by rw [← hpos], by
  funext q
  by_cases z : q = a
  · subst z
    rw [up_s, h3_a, z0, f2, f16, ← hpos]
    congr 2
    rw [show g = shF f k cs.length from funext hg]
  · rw [up_n z, e_w3, up_n z, e_w2, up_n z, e_w1, up_n z]; exact hfr q z⟩ rfl (Nat.le_refl _)
            · refine ex_aload_n (pc := 42) dX7_puts_42 rfl ?_
              refine ex_iconst (pc := 43) dX7_puts_43 (by decide) ?_
              refine ex_iload_n (pc := 44) dX7_puts_44 rfl ?_
              refine ex_iadd (pc := 45) dX7_puts_45 (by unfold inI; omega) ?_
              refine ex_aload_n (pc := 46) dX7_puts_46 rfl ?_
              refine ex_iconst (pc := 47) dX7_puts_47 (by decide) ?_
              refine ex_iload_n (pc := 48) dX7_puts_48 rfl ?_
              refine ex_iadd (pc := 49) dX7_puts_49 (by unfold inI; omega) ?_
              refine ex_iconst (pc := 50) dX7_puts_50 (by decide) ?_
              refine ex_isub (pc := 51) dX7_puts_51 (by unfold inI; omega) ?_
              refine ex_iaload (pc := 52) dX7_puts_52 h_a (by omega) (by omega) ?_
              refine ex_iastore (pc := 53) dX7_puts_53 h_a (by omega) (by omega) ?_
              refine ex_up (fun w1 e_w1 => ?_)
              have h1_a := (congrFun e_w1 a).trans up_s
              refine ex_aload_n (pc := 54) dX7_puts_54 rfl ?_
              refine ex_bipush (pc := 55) dX7_puts_55 (by decide) ?_
              refine ex_iload_n (pc := 57) dX7_puts_57 rfl ?_
              refine ex_iadd (pc := 58) dX7_puts_58 (by unfold inI; omega) ?_
              refine ex_aload_n (pc := 59) dX7_puts_59 rfl ?_
              refine ex_bipush (pc := 60) dX7_puts_60 (by decide) ?_
              refine ex_iload_n (pc := 62) dX7_puts_62 rfl ?_
              refine ex_iadd (pc := 63) dX7_puts_63 (by unfold inI; omega) ?_
              refine ex_iconst (pc := 64) dX7_puts_64 (by decide) ?_
              refine ex_isub (pc := 65) dX7_puts_65 (by unfold inI; omega) ?_
              refine ex_iaload (pc := 66) dX7_puts_66 h1_a (by omega) (by omega) ?_
              refine ex_iastore (pc := 67) dX7_puts_67 h1_a (by omega) (by omega) ?_
              refine ex_up (fun w2 e_w2 => ?_)
              have h2_a := (congrFun e_w2 a).trans up_s
              refine ex_iinc (L2 := [_, _, _, _]) (pc := 68) dX7_puts_68 rfl rfl (Nat.le_of_ble_eq_true rfl) (by unfold inI; omega) rfl ?_
              refine ex_goto (pc := 71) dX7_puts_71 (tgt := 4) (by decide) ?_
              have hgt : t * 12 + b < cs.getD (k - 1) 0 := by rw [e2, g2] at c27; rw [e16, g16] at c39; omega
              rw [show ((k : Int) + -1) = ((k - 1 : Nat) : Int) by omega]
              have f2 : ((2 : Int) + (k : Int)).toNat = 2 + k := by omega
              have f16 : ((16 : Int) + (k : Int)).toNat = 16 + k := by omega
              refine ih (k - 1) (by omega) (by omega) w2 (shF f (k - 1) cs.length) (fun _ => rfl) (h2_a.trans ?_) (fun q hq => ((congrFun e_w2 q).trans (up_n hq)).trans (((congrFun e_w1 q).trans (up_n hq)).trans (hfr q hq))) (fun q q1 q2 => ?_)
              · congr 2
                funext q
                rw [e2, e16, f2, f16]
                by_cases z : q = 16 + k
                · rw [z, up_s, up_n (by omega)]
                  rw [hg]
                  unfold shF
                  rw [if_neg (by omega), if_pos (by omega), show 16 + k - 1 = 0 + 16 + (k - 1) by omega]
                · rw [up_n z]
                  by_cases z2 : q = 2 + k
                  · rw [z2, up_s, hg]
                    unfold shF
                    rw [if_neg (by omega), if_pos (by omega), show 2 + k - 1 = 0 + 2 + (k - 1) by omega]
                  · rw [up_n z2, hg]
                    unfold shF
                    by_cases z3 : (2 + k < q ∧ q ≤ 2 + cs.length) ∨ (16 + k < q ∧ q ≤ 16 + cs.length)
                    · rw [if_pos z3, if_pos (by omega)]
                    · rw [if_neg z3, if_neg (by omega)]
              · by_cases z : q = k - 1
                · rw [z]; exact hgt
                · exact hgtA q (by omega) q2
  refine ex_aload_n (pc := 0) dX7_puts_0 rfl ?_
  refine ex_iconst (pc := 1) dX7_puts_1 (by decide) ?_
  refine ex_iaload (pc := 2) dX7_puts_2 h_a (by omega) (by omega) ?_
  rw [show (0 : Int).toNat = 0 from rfl, hR.1]
  refine ex_istore_n (L2 := [_, _, _, _]) (pc := 3) dX7_puts_3 rfl (Nat.le_of_ble_eq_true rfl) rfl ?_
  exact loop (cs.length + 1) cs.length (by omega) (by omega) W f (fun q => by unfold shF; rw [if_neg (by omega)]) h_a (fun _ _ => rfl) (fun q q1 q2 => by omega)

