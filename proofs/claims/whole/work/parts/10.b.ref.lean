/-- the reference's object -/
abbrev rO (u k l pl mn pc cv sh be bg bc bp pa re pr : Int) : xE := xO 7 [xr 56, xr 57, xr 58, xr 59, xi u, xr 60, xi k, xr 61, xi l, xi pl, xr 62, xr 63, xi mn, xi pc, xi cv, xi sh, xr 64, xi be, xi bg, xi bc, xi bp, xi pa, xr 65, xi re, xi pr, xr 66, xr 67]
def dlF (f : Nat → Int) (j k : Nat) : Nat → Int := fun q => if (2 + j ≤ q ∧ q < 2 + k) ∨ (16 + j ≤ q ∧ q < 16 + k) then f (q + 1) else f q
def delR (f : Nat → Int) (j sz : Nat) : Nat → Int := va_up (dlF f j (sz - 1)) 0 ((sz : Int) - 1)
theorem delR_row {f : Nat → Int} {cs : List Int} {mo : Int} (h : RowL f 0 cs mo) {j : Nat} (hj : j < cs.length) (hl : cs.length ≤ 14) : RowL (delR f j cs.length) 0 (cs.eraseIdx j) mo := by
  obtain ⟨h1, h2, h3⟩ := h
  unfold delR
  refine ⟨?_, ?_, fun i hi => ?_⟩
  · rw [up_s, List.length_eraseIdx_of_lt hj]; omega
  · rw [up_n (by omega)]
    unfold dlF
    rw [if_neg (by omega)]; exact h2
  · rw [List.length_eraseIdx_of_lt hj] at hi
    have hI : (cs.eraseIdx j).getD i 0 = delF (fun i => cs.getD i 0) j cs.length i := (del_L (f := fun i => cs.getD i 0) (cs := cs) (fun _ _ => rfl) hj i (by rw [List.length_eraseIdx_of_lt hj]; exact hi)).symm
    unfold tmL ptL
    rw [hI]
    unfold delF
    rw [up_n (by omega), up_n (by omega)]
    unfold dlF
    by_cases y1 : i < j
    · rw [if_pos y1, if_neg (by omega), if_neg (by omega)]
      exact h3 i (by omega)
    · rw [if_neg y1, if_pos (by omega), if_pos (by omega), if_pos (by omega)]
      exact h3 (i + 1) (by omega)
abbrev mX7_leaves : xC := mkC yX7_leaves cX7_leaves 3 none 1 100 0 0
set_option maxHeartbeats 4000000 in
set_option maxRecDepth 100000 in
theorem tX7_leaves {n : Nat} {W : xW} {a : Nat} {f : Nat → Int} {cs : List Int} {mo : Int} (h_a : W a = xA 30 f) (hR : RowL f 0 cs mo) (hl : cs.length ≤ 14) {j : Nat} (hj : j < cs.length) : Ctr mX7_leaves [xr a, xi j] n W (pV (fun w2 => w2 = va_up W a (xA 30 (delR f j cs.length)))) := by
  refine Ctr.of ykX7_leaves rfl (Nat.le_of_ble_eq_true rfl) okV (fun hin hW => ?_)
  show Ex _ _ 0 0 n W 0 [some (xr a), some (xi j), none] []
  have loop : ∀ (d k : Nat), j ≤ k → k < cs.length → cs.length ≤ k + d → ∀ (w : xW), w a = xA 30 (dlF f j k) → (∀ q, q ≠ a → w q = W q) → Ex mX7_leaves (pV (fun w2 => w2 = va_up W a (xA 30 (delR f j cs.length)))) 0 0 n w 2 [some (xr a), some (xi j), some (xi k)] [] := by
    intro d
    induction d with
    | zero => intro k h1 h2 h3; omega
    | succ d ih =>
      intro k h1 h2 h3 w h_a hfr
      refine ex_iload_n (pc := 2) dX7_leaves_2 rfl ?_
      refine ex_iconst (pc := 3) dX7_leaves_3 (by decide) ?_
      refine ex_iadd (pc := 4) dX7_leaves_4 (by unfold inI; omega) ?_
      refine ex_aload_n (pc := 5) dX7_leaves_5 rfl ?_
      refine ex_iconst (pc := 6) dX7_leaves_6 (by decide) ?_
      refine ex_iaload (pc := 7) dX7_leaves_7 h_a (by omega) (by omega) ?_
      have g0 : dlF f j k (0 : Int).toNat = (cs.length : Int) := by unfold dlF; rw [if_neg (by omega)]; exact hR.1
      rw [g0]
      refine ex_icmp_ge (pc := 8) dX7_leaves_8 (tgt := 43) (by decide) (fun c8 => ?_) (fun c8 => ?_)
      · refine ex_aload_n (pc := 43) dX7_leaves_43 rfl ?_
        refine ex_iconst (pc := 44) dX7_leaves_44 (by decide) ?_
        refine ex_dup2 (pc := 45) dX7_leaves_45 rfl rfl ?_
        refine ex_iaload (pc := 46) dX7_leaves_46 h_a (by omega) (by omega) ?_
        rw [g0]
        refine ex_iconst (pc := 47) dX7_leaves_47 (by decide) ?_
        refine ex_isub (pc := 48) dX7_leaves_48 (by unfold inI; omega) ?_
        refine ex_iastore (pc := 49) dX7_leaves_49 h_a (by omega) (by omega) ?_
        refine ex_up (fun w1 e_w1 => ?_)
        have h1_a := (congrFun e_w1 a).trans up_s
        exact ex_vret (pc := 50) dX7_leaves_50 (by
  have hk : k = cs.length - 1 := by omega
  subst hk
  funext q
  by_cases z : q = a
  · subst z; rw [up_s, h1_a]; rfl
  · rw [up_n z, e_w1, up_n z, hfr q z]) rfl (Nat.le_refl _)
      · refine ex_aload_n (pc := 11) dX7_leaves_11 rfl ?_
        refine ex_iconst (pc := 12) dX7_leaves_12 (by decide) ?_
        refine ex_iload_n (pc := 13) dX7_leaves_13 rfl ?_
        refine ex_iadd (pc := 14) dX7_leaves_14 (by unfold inI; omega) ?_
        refine ex_aload_n (pc := 15) dX7_leaves_15 rfl ?_
        refine ex_iconst (pc := 16) dX7_leaves_16 (by decide) ?_
        refine ex_iload_n (pc := 17) dX7_leaves_17 rfl ?_
        refine ex_iadd (pc := 18) dX7_leaves_18 (by unfold inI; omega) ?_
        refine ex_iconst (pc := 19) dX7_leaves_19 (by decide) ?_
        refine ex_iadd (pc := 20) dX7_leaves_20 (by unfold inI; omega) ?_
        refine ex_iaload (pc := 21) dX7_leaves_21 h_a (by omega) (by omega) ?_
        refine ex_iastore (pc := 22) dX7_leaves_22 h_a (by omega) (by omega) ?_
        refine ex_up (fun w1 e_w1 => ?_)
        have h1_a := (congrFun e_w1 a).trans up_s
        refine ex_aload_n (pc := 23) dX7_leaves_23 rfl ?_
        refine ex_bipush (pc := 24) dX7_leaves_24 (by decide) ?_
        refine ex_iload_n (pc := 26) dX7_leaves_26 rfl ?_
        refine ex_iadd (pc := 27) dX7_leaves_27 (by unfold inI; omega) ?_
        refine ex_aload_n (pc := 28) dX7_leaves_28 rfl ?_
        refine ex_bipush (pc := 29) dX7_leaves_29 (by decide) ?_
        refine ex_iload_n (pc := 31) dX7_leaves_31 rfl ?_
        refine ex_iadd (pc := 32) dX7_leaves_32 (by unfold inI; omega) ?_
        refine ex_iconst (pc := 33) dX7_leaves_33 (by decide) ?_
        refine ex_iadd (pc := 34) dX7_leaves_34 (by unfold inI; omega) ?_
        refine ex_iaload (pc := 35) dX7_leaves_35 h1_a (by omega) (by omega) ?_
        refine ex_iastore (pc := 36) dX7_leaves_36 h1_a (by omega) (by omega) ?_
        refine ex_up (fun w2 e_w2 => ?_)
        have h2_a := (congrFun e_w2 a).trans up_s
        refine ex_iinc (L2 := [_, _, _]) (pc := 37) dX7_leaves_37 rfl rfl (Nat.le_of_ble_eq_true rfl) (by unfold inI; omega) rfl ?_
        refine ex_goto (pc := 40) dX7_leaves_40 (tgt := 2) (by decide) ?_
        have f2 : ((2 : Int) + (k : Int)).toNat = 2 + k := by omega
        have f16 : ((16 : Int) + (k : Int)).toNat = 16 + k := by omega
        have f3 : ((2 : Int) + (k : Int) + 1).toNat = 2 + k + 1 := by omega
        have f17 : ((16 : Int) + (k : Int) + 1).toNat = 16 + k + 1 := by omega
        refine ih (k + 1) (by omega) (by omega) (by omega) w2 (h2_a.trans ?_) (fun q hq => ((congrFun e_w2 q).trans (up_n hq)).trans (((congrFun e_w1 q).trans (up_n hq)).trans (hfr q hq)))
        congr 2
        funext q
        rw [f2, f16, f3, f17]
        by_cases z : q = 16 + k
        · rw [z, up_s, up_n (by omega)]
          unfold dlF
          rw [if_neg (by omega), if_pos (by omega)]
        · rw [up_n z]
          by_cases z2 : q = 2 + k
          · rw [z2, up_s]
            unfold dlF
            rw [if_neg (by omega), if_pos (by omega)]
          · rw [up_n z2]
            unfold dlF
            by_cases z3 : (2 + j ≤ q ∧ q < 2 + k) ∨ (16 + j ≤ q ∧ q < 16 + k)
            · rw [if_pos z3, if_pos (by omega)]
            · rw [if_neg z3, if_neg (by omega)]
  refine ex_iload_n (pc := 0) dX7_leaves_0 rfl ?_
  refine ex_istore_n (L2 := [_, _, _]) (pc := 1) dX7_leaves_1 rfl (Nat.le_of_ble_eq_true rfl) rfl ?_
  exact loop cs.length j (by omega) hj (by omega) W (h_a.trans (by congr 2; funext q; unfold dlF; rw [if_neg (by omega)])) (fun _ _ => rfl)

abbrev mX7_here : xC := mkC yX7_here cX7_here 1 (some .int) 1 100 0 0
set_option maxHeartbeats 4000000 in
set_option maxRecDepth 100000 in
theorem tX7_here {n : Nat} {w : xW} {tx : List Int} {t : Nat → Int} {p9 : Nat} {uu kk mn pq cv sh be bg bc bp pa re px : Int} (h_o : w 55 = rO uu kk (tx.length) (p9) mn pq cv sh be bg bc bp pa re px) (h_t : w 61 = xA 200 t) (ht : Lst t tx) (hlen : tx.length ≤ 200) : Ctr mX7_here [xr 55] n w (pI (fun v w2 => w2 = w ∧ v = ch tx p9)) := by
  refine Ctr.of ykX7_here rfl (Nat.le_of_ble_eq_true rfl) okI (fun hin hW => ?_)
  show Ex _ _ 0 0 n w 0 [some (xr 55)] []
  refine ex_aload_n (pc := 0) dX7_here_0 rfl ?_
  refine ex_getfield (pc := 1) dX7_here_1 fk_X7_57 h_o (by rfl) ?_
  refine ex_aload_n (pc := 4) dX7_here_4 rfl ?_
  refine ex_getfield (pc := 5) dX7_here_5 fk_X7_61 h_o (by rfl) ?_
  refine ex_icmp_ge (pc := 8) dX7_here_8 (tgt := 23) (by decide) (fun c8 => ?_) (fun c8 => ?_)
  · refine ex_iconst (pc := 23) dX7_here_23 (by decide) ?_
    exact ex_iret (pc := 24) dX7_here_24 ⟨rfl, by rw [ch_out (by omega)]⟩ rfl (Nat.le_refl _)
  · refine ex_aload_n (pc := 11) dX7_here_11 rfl ?_
    refine ex_getfield (pc := 12) dX7_here_12 fk_X7_25 h_o (by rfl) ?_
    refine ex_aload_n (pc := 15) dX7_here_15 rfl ?_
    refine ex_getfield (pc := 16) dX7_here_16 fk_X7_57 h_o (by rfl) ?_
    refine ex_iaload (pc := 19) dX7_here_19 h_t (by omega) (by omega) ?_
    refine ex_goto (pc := 20) dX7_here_20 (tgt := 24) (by decide) ?_
    exact ex_iret (pc := 24) dX7_here_24 ⟨rfl, by rw [ch_in (by omega), ← ht p9 (by omega)]; congr 1⟩ rfl (Nat.le_refl _)

abbrev mX7_number : xC := mkC yX7_number cX7_number 5 (some .int) 2 200 0 0
theorem numS0 {tx : List Int} {i : Nat} {sg : Int} (h : ¬ (48 ≤ ch tx i ∧ ch tx i ≤ 57)) : numS tx i sg = none := by
  unfold numS rdN
  rw [if_neg h]
  exact if_neg (fun q => absurd q.1 (by decide))
theorem numS1 {tx : List Int} {i : Nat} {sg : Int} (h : 48 ≤ ch tx i ∧ ch tx i ≤ 57) (h2 : ¬ (48 ≤ ch tx (i + 1) ∧ ch tx (i + 1) ≤ 57)) : numS tx i sg = if ch tx (i + 1) = sg then some (ch tx i - 48, i + 1 + 1) else none := by
  unfold numS rdN
  rw [if_pos h, if_neg h2]
  by_cases e : ch tx (i + 1) = sg
  · rw [if_pos e, if_pos ⟨Nat.zero_lt_succ _, e⟩]
  · rw [if_neg e, if_neg (fun q => e q.2)]
theorem numS2 {tx : List Int} {i : Nat} {sg : Int} (h : 48 ≤ ch tx i ∧ ch tx i ≤ 57) (h2 : 48 ≤ ch tx (i + 1) ∧ ch tx (i + 1) ≤ 57) : numS tx i sg = if ch tx (i + 2) = sg then some ((ch tx i - 48) * 10 + (ch tx (i + 1) - 48), i + 2 + 1) else none := by
  unfold numS rdN
  rw [if_pos h, if_pos h2]
  by_cases e : ch tx (i + 2) = sg
  · rw [if_pos e, if_pos ⟨Nat.zero_lt_succ _, e⟩]
  · rw [if_neg e, if_neg (fun q => e q.2)]
set_option maxHeartbeats 4000000 in
set_option maxRecDepth 100000 in
theorem tX7_number {n : Nat} {W : xW} {tx : List Int} {t : Nat → Int} {p9 : Nat} {uu kk mn pq cv sh be bg bc bp pa re px : Int} (h_o : W 55 = rO uu kk (tx.length) (p9) mn pq cv sh be bg bc bp pa re px) (h_t : W 61 = xA 200 t) (ht : Lst t tx) (hlen : tx.length ≤ 200) (hp9 : p9 ≤ 300) {ms sg : Int} (hsg : sg < 48 ∨ 57 < sg) : Ctr mX7_number [xr 55, xi ms, xi sg] n W (pI (fun v w2 => (∃ v2 j2, numS tx p9 sg = some (v2, j2) ∧ v2 ≤ ms ∧ v = v2 ∧ w2 = va_up W 55 (rO uu kk (tx.length) ((j2 : Nat)) mn pq cv sh be bg bc bp pa re px)) ∨ (v = -1 ∧ (∀ v2 j2, numS tx p9 sg = some (v2, j2) → ms < v2) ∧ ∃ b : Nat, b ≤ 400 ∧ w2 = va_up W 55 (rO uu kk (tx.length) (b) mn pq cv sh be bg bc bp pa re px)))) := by
  refine Ctr.of ykX7_number rfl (Nat.le_of_ble_eq_true rfl) okI (fun hin hW => ?_)
  show Ex _ _ 0 0 n W 0 [some (xr 55), some (xi ms), some (xi sg), none, none] []
  have tail : ∀ (w : xW) (F P : Nat) (V : Int), w = va_up W 55 (rO uu kk (tx.length) (P) mn pq cv sh be bg bc bp pa re px) → P ≤ 400 → F ≤ 3 → (1 ≤ F ∧ F ≤ 2 → V ≤ ms → ch tx P = sg → numS tx p9 sg = some (V, P + 1)) → (¬ (1 ≤ F ∧ F ≤ 2 ∧ V ≤ ms ∧ ch tx P = sg) → ∀ v2 j2, numS tx p9 sg = some (v2, j2) → ms < v2) → Ex mX7_number (pI (fun v w2 => (∃ v2 j2, numS tx p9 sg = some (v2, j2) ∧ v2 ≤ ms ∧ v = v2 ∧ w2 = va_up W 55 (rO uu kk (tx.length) ((j2 : Nat)) mn pq cv sh be bg bc bp pa re px)) ∨ (v = -1 ∧ (∀ v2 j2, numS tx p9 sg = some (v2, j2) → ms < v2) ∧ ∃ b : Nat, b ≤ 400 ∧ w2 = va_up W 55 (rO uu kk (tx.length) (b) mn pq cv sh be bg bc bp pa re px)))) 0 0 n w 54 [some (xr 55), some (xi ms), some (xi sg), some (xi V), some (xi F)] [] := by
    intro w F P V hw hP hF hyes hno
    have h_o : w 55 = rO uu kk (tx.length) (P) mn pq cv sh be bg bc bp pa re px := by rw [hw, up_s]
    have h_t : w 61 = xA 200 t := by rw [hw, up_n (by decide)]; exact h_t
    refine ex_iload (pc := 54) dX7_number_54 rfl ?_
    refine ex_iconst (pc := 56) dX7_number_56 (by decide) ?_
    refine ex_iconst (pc := 57) dX7_number_57 (by decide) ?_
    refine ex_callSZ (as := [_, _, _]) (pc := 58) dX7_number_58 (tX7_in) lk_X7_68 ykX7_in zkX7_in rfl rfl (Nat.le_of_ble_eq_true rfl) ⟨by decide, by decide⟩ ⟨Nat.le_refl _, Nat.le_refl _⟩ (fun i58 w1 r58 p58 => ?_)
    obtain ⟨e58, p58⟩ := p58
    rw [e58]
    refine ex_if_eq (pc := 61) dX7_number_61 (tgt := 77) (by decide) (fun c61 => ?_) (fun c61 => ?_)
    · refine ex_iconst (pc := 77) dX7_number_77 (by decide) ?_
      exact ex_iret (pc := 78) dX7_number_78 (Or.inr ⟨rfl, hno (fun q => by omega), P, by omega, hw⟩) rfl (Nat.le_refl _)
    · refine ex_iload_n (pc := 64) dX7_number_64 rfl ?_
      refine ex_iload_n (pc := 65) dX7_number_65 rfl ?_
      refine ex_icmp_gt (pc := 66) dX7_number_66 (tgt := 77) (by decide) (fun c66 => ?_) (fun c66 => ?_)
      · refine ex_iconst (pc := 77) dX7_number_77 (by decide) ?_
        exact ex_iret (pc := 78) dX7_number_78 (Or.inr ⟨rfl, hno (fun q => by omega), P, by omega, hw⟩) rfl (Nat.le_refl _)
      · refine ex_aload_n (pc := 69) dX7_number_69 rfl ?_
        refine ex_callVI (as := []) (pc := 70) dX7_number_70 (tX7_here h_o h_t ht hlen) lk_X7_64 ykX7_here vkX7_here h_o rfl rfl rfl (Nat.le_of_ble_eq_true rfl) ⟨by decide, by decide⟩ ⟨Nat.le_refl _, Nat.le_refl _⟩ (fun i70 w1 r70 p70 => ?_)
        obtain ⟨e70, p70⟩ := p70
        rw [e70]
        refine ex_iload_n (pc := 73) dX7_number_73 rfl ?_
        refine ex_icmp_eq (pc := 74) dX7_number_74 (tgt := 79) (by decide) (fun c74 => ?_) (fun c74 => ?_)
        · refine ex_aload_n (pc := 79) dX7_number_79 rfl ?_
          refine ex_dup (pc := 80) dX7_number_80 rfl ?_
          refine ex_getfield (pc := 81) dX7_number_81 fk_X7_57 h_o (by rfl) ?_
          refine ex_iconst (pc := 84) dX7_number_84 (by decide) ?_
          refine ex_iadd (pc := 85) dX7_number_85 (by unfold inI; omega) ?_
          refine ex_putA (pc := 86) dX7_number_86 fk_X7_57 (ty := tyX7 9) (fun _ _ _ h9 => by cases h9; exact ⟨tyX7_ok 9 (by decide), rfl⟩) h_o (Nat.le_of_ble_eq_true rfl) (fun _ => rfl) (fun _ => rfl) ?_
          refine ex_up (fun w1 e_w1 => ?_)
          have h1_o := (congrFun e_w1 55).trans up_s
          have h1_t := ((congrFun e_w1 61).trans (up_n (by first | assumption | decide | omega))).trans h_t
          refine ex_iload_n (pc := 89) dX7_number_89 rfl ?_
          exact ex_iret (pc := 90) dX7_number_90 (Or.inl ⟨V, P + 1, hyes (by omega) (by omega) (by omega), by omega, rfl, by rw [e_w1, hw]; exact up_up⟩) rfl (Nat.le_refl _)
        · refine ex_iconst (pc := 77) dX7_number_77 (by decide) ?_
          exact ex_iret (pc := 78) dX7_number_78 (Or.inr ⟨rfl, hno (fun q => by omega), P, by omega, hw⟩) rfl (Nat.le_refl _)
  refine ex_iconst (pc := 0) dX7_number_0 (by decide) ?_
  refine ex_istore_n (L2 := [_, _, _, _, _]) (pc := 1) dX7_number_1 rfl (Nat.le_of_ble_eq_true rfl) rfl ?_
  refine ex_iconst (pc := 2) dX7_number_2 (by decide) ?_
  refine ex_istore (L2 := [_, _, _, _, _]) (pc := 3) dX7_number_3 rfl (Nat.le_of_ble_eq_true rfl) rfl ?_
  refine ex_aload_n (pc := 5) dX7_number_5 rfl ?_
  refine ex_callVI (as := []) (pc := 6) dX7_number_6 (tX7_here (p9 := p9) h_o h_t ht hlen) lk_X7_64 ykX7_here vkX7_here h_o rfl rfl rfl (Nat.le_of_ble_eq_true rfl) ⟨by decide, by decide⟩ ⟨Nat.le_refl _, Nat.le_refl _⟩ (fun i6 w1 r6 p6 => ?_)
  obtain ⟨ew, ev0⟩ := p6
  rw [ew]
  refine ex_bipush (pc := 9) dX7_number_9 (by decide) ?_
  refine ex_bipush (pc := 11) dX7_number_11 (by decide) ?_
  refine ex_callSZ (as := [_, _, _]) (pc := 13) dX7_number_13 (tX7_in) lk_X7_68 ykX7_in zkX7_in rfl rfl (Nat.le_of_ble_eq_true rfl) ⟨by decide, by decide⟩ ⟨Nat.le_refl _, Nat.le_refl _⟩ (fun i13 w1 r13 p13 => ?_)
  obtain ⟨ew, pin0⟩ := p13
  rw [ew]
  refine ex_if_eq (pc := 16) dX7_number_16 (tgt := 54) (by decide) (fun c16 => ?_) (fun c16 => ?_)
  · refine tail W 0 p9 _ (up_self h_o).symm (by omega) (by omega) (fun q1 q2 q3 => ?_) (fun q1 v2 j2 q2 => ?_)
    · omega
    · exfalso; rw [numS0 (by omega)] at q2; cases q2
  · refine ex_iload (pc := 19) dX7_number_19 rfl ?_
    refine ex_iconst (pc := 21) dX7_number_21 (by decide) ?_
    refine ex_icmp_ge (pc := 22) dX7_number_22 (tgt := 54) (by decide) (fun c22 => by exfalso; omega) (fun c22 => ?_)
    refine ex_bipush (pc := 25) dX7_number_25 (by decide) ?_
    refine ex_iload_n (pc := 27) dX7_number_27 rfl ?_
    refine ex_imul (pc := 28) dX7_number_28 (by unfold inI; omega) ?_
    refine ex_aload_n (pc := 29) dX7_number_29 rfl ?_
    refine ex_callVI (as := []) (pc := 30) dX7_number_30 (tX7_here (p9 := p9) h_o h_t ht hlen) lk_X7_64 ykX7_here vkX7_here h_o rfl rfl rfl (Nat.le_of_ble_eq_true rfl) ⟨by decide, by decide⟩ ⟨Nat.le_refl _, Nat.le_refl _⟩ (fun i30 w1 r30 p30 => ?_)
    obtain ⟨ew, eu0⟩ := p30
    rw [ew]
    refine ex_iadd (pc := 33) dX7_number_33 (by unfold inI; omega) ?_
    refine ex_bipush (pc := 34) dX7_number_34 (by decide) ?_
    refine ex_isub (pc := 36) dX7_number_36 (by unfold inI; omega) ?_
    refine ex_istore_n (L2 := [_, _, _, _, _]) (pc := 37) dX7_number_37 rfl (Nat.le_of_ble_eq_true rfl) rfl ?_
    refine ex_iinc (L2 := [_, _, _, _, _]) (pc := 38) dX7_number_38 rfl rfl (Nat.le_of_ble_eq_true rfl) (by unfold inI; omega) rfl ?_
    refine ex_aload_n (pc := 41) dX7_number_41 rfl ?_
    refine ex_dup (pc := 42) dX7_number_42 rfl ?_
    refine ex_getfield (pc := 43) dX7_number_43 fk_X7_57 h_o (by rfl) ?_
    refine ex_iconst (pc := 46) dX7_number_46 (by decide) ?_
    refine ex_iadd (pc := 47) dX7_number_47 (by unfold inI; omega) ?_
    refine ex_putA (pc := 48) dX7_number_48 fk_X7_57 (ty := tyX7 9) (fun _ _ _ h9 => by cases h9; exact ⟨tyX7_ok 9 (by decide), rfl⟩) h_o (Nat.le_of_ble_eq_true rfl) (fun _ => rfl) (fun _ => rfl) ?_
    refine ex_up (fun w1 e_w1 => ?_)
    have h1_o := (congrFun e_w1 55).trans up_s
    have h1_t := ((congrFun e_w1 61).trans (up_n (by first | assumption | decide | omega))).trans h_t
    refine ex_goto (pc := 51) dX7_number_51 (tgt := 5) (by decide) ?_
    refine ex_aload_n (pc := 5) dX7_number_5 rfl ?_
    refine ex_callVI (as := []) (pc := 6) dX7_number_6 (tX7_here (p9 := p9 + 1) h1_o h1_t ht hlen) lk_X7_64 ykX7_here vkX7_here h1_o rfl rfl rfl (Nat.le_of_ble_eq_true rfl) ⟨by decide, by decide⟩ ⟨Nat.le_refl _, Nat.le_refl _⟩ (fun i6 w2 r6 p6 => ?_)
    obtain ⟨ew, ev1⟩ := p6
    rw [ew]
    refine ex_bipush (pc := 9) dX7_number_9 (by decide) ?_
    refine ex_bipush (pc := 11) dX7_number_11 (by decide) ?_
    refine ex_callSZ (as := [_, _, _]) (pc := 13) dX7_number_13 (tX7_in) lk_X7_68 ykX7_in zkX7_in rfl rfl (Nat.le_of_ble_eq_true rfl) ⟨by decide, by decide⟩ ⟨Nat.le_refl _, Nat.le_refl _⟩ (fun i13 w2 r13 p13 => ?_)
    obtain ⟨ew, pin1⟩ := p13
    rw [ew]
    refine ex_if_eq (pc := 16) dX7_number_16 (tgt := 54) (by decide) (fun c16 => ?_) (fun c16 => ?_)
    · refine tail w1 1 (p9 + 1) _ e_w1 (by omega) (by omega) (fun q1 q2 q3 => ?_) (fun q1 v2 j2 q2 => ?_)
      · rw [numS1 (by omega) (by omega), if_pos q3]; congr 2; omega
      · rw [numS1 (by omega) (by omega)] at q2
        split at q2
        · cases q2; omega
        · cases q2
    · refine ex_iload (pc := 19) dX7_number_19 rfl ?_
      refine ex_iconst (pc := 21) dX7_number_21 (by decide) ?_
      refine ex_icmp_ge (pc := 22) dX7_number_22 (tgt := 54) (by decide) (fun c22 => by exfalso; omega) (fun c22 => ?_)
      refine ex_bipush (pc := 25) dX7_number_25 (by decide) ?_
      refine ex_iload_n (pc := 27) dX7_number_27 rfl ?_
      refine ex_imul (pc := 28) dX7_number_28 (by unfold inI; omega) ?_
      refine ex_aload_n (pc := 29) dX7_number_29 rfl ?_
      refine ex_callVI (as := []) (pc := 30) dX7_number_30 (tX7_here (p9 := p9 + 1) h1_o h1_t ht hlen) lk_X7_64 ykX7_here vkX7_here h1_o rfl rfl rfl (Nat.le_of_ble_eq_true rfl) ⟨by decide, by decide⟩ ⟨Nat.le_refl _, Nat.le_refl _⟩ (fun i30 w2 r30 p30 => ?_)
      obtain ⟨ew, eu1⟩ := p30
      rw [ew]
      refine ex_iadd (pc := 33) dX7_number_33 (by unfold inI; omega) ?_
      refine ex_bipush (pc := 34) dX7_number_34 (by decide) ?_
      refine ex_isub (pc := 36) dX7_number_36 (by unfold inI; omega) ?_
      refine ex_istore_n (L2 := [_, _, _, _, _]) (pc := 37) dX7_number_37 rfl (Nat.le_of_ble_eq_true rfl) rfl ?_
      refine ex_iinc (L2 := [_, _, _, _, _]) (pc := 38) dX7_number_38 rfl rfl (Nat.le_of_ble_eq_true rfl) (by unfold inI; omega) rfl ?_
      refine ex_aload_n (pc := 41) dX7_number_41 rfl ?_
      refine ex_dup (pc := 42) dX7_number_42 rfl ?_
      refine ex_getfield (pc := 43) dX7_number_43 fk_X7_57 h1_o (by rfl) ?_
      refine ex_iconst (pc := 46) dX7_number_46 (by decide) ?_
      refine ex_iadd (pc := 47) dX7_number_47 (by unfold inI; omega) ?_
      refine ex_putA (pc := 48) dX7_number_48 fk_X7_57 (ty := tyX7 9) (fun _ _ _ h9 => by cases h9; exact ⟨tyX7_ok 9 (by decide), rfl⟩) h1_o (Nat.le_of_ble_eq_true rfl) (fun _ => rfl) (fun _ => rfl) ?_
      refine ex_up (fun w2 e_w2 => ?_)
      have h2_o := (congrFun e_w2 55).trans up_s
      have h2_t := ((congrFun e_w2 61).trans (up_n (by first | assumption | decide | omega))).trans h1_t
      refine ex_goto (pc := 51) dX7_number_51 (tgt := 5) (by decide) ?_
      refine ex_aload_n (pc := 5) dX7_number_5 rfl ?_
      refine ex_callVI (as := []) (pc := 6) dX7_number_6 (tX7_here (p9 := p9 + 2) h2_o h2_t ht hlen) lk_X7_64 ykX7_here vkX7_here h2_o rfl rfl rfl (Nat.le_of_ble_eq_true rfl) ⟨by decide, by decide⟩ ⟨Nat.le_refl _, Nat.le_refl _⟩ (fun i6 w3 r6 p6 => ?_)
      obtain ⟨ew, ev2⟩ := p6
      rw [ew]
      refine ex_bipush (pc := 9) dX7_number_9 (by decide) ?_
      refine ex_bipush (pc := 11) dX7_number_11 (by decide) ?_
      refine ex_callSZ (as := [_, _, _]) (pc := 13) dX7_number_13 (tX7_in) lk_X7_68 ykX7_in zkX7_in rfl rfl (Nat.le_of_ble_eq_true rfl) ⟨by decide, by decide⟩ ⟨Nat.le_refl _, Nat.le_refl _⟩ (fun i13 w3 r13 p13 => ?_)
      obtain ⟨ew, pin2⟩ := p13
      rw [ew]
      refine ex_if_eq (pc := 16) dX7_number_16 (tgt := 54) (by decide) (fun c16 => ?_) (fun c16 => ?_)
      · refine tail w2 2 (p9 + 2) _ (by rw [e_w2, e_w1]; exact up_up) (by omega) (by omega) (fun q1 q2 q3 => ?_) (fun q1 v2 j2 q2 => ?_)
        · rw [numS2 (by omega) (by omega), if_pos q3]; congr 2; omega
        · rw [numS2 (by omega) (by omega)] at q2
          split at q2
          · cases q2; omega
          · cases q2
      · refine ex_iload (pc := 19) dX7_number_19 rfl ?_
        refine ex_iconst (pc := 21) dX7_number_21 (by decide) ?_
        refine ex_icmp_ge (pc := 22) dX7_number_22 (tgt := 54) (by decide) (fun c22 => by exfalso; omega) (fun c22 => ?_)
        refine ex_bipush (pc := 25) dX7_number_25 (by decide) ?_
        refine ex_iload_n (pc := 27) dX7_number_27 rfl ?_
        refine ex_imul (pc := 28) dX7_number_28 (by unfold inI; omega) ?_
        refine ex_aload_n (pc := 29) dX7_number_29 rfl ?_
        refine ex_callVI (as := []) (pc := 30) dX7_number_30 (tX7_here (p9 := p9 + 2) h2_o h2_t ht hlen) lk_X7_64 ykX7_here vkX7_here h2_o rfl rfl rfl (Nat.le_of_ble_eq_true rfl) ⟨by decide, by decide⟩ ⟨Nat.le_refl _, Nat.le_refl _⟩ (fun i30 w3 r30 p30 => ?_)
        obtain ⟨ew, eu2⟩ := p30
        rw [ew]
        refine ex_iadd (pc := 33) dX7_number_33 (by unfold inI; omega) ?_
        refine ex_bipush (pc := 34) dX7_number_34 (by decide) ?_
        refine ex_isub (pc := 36) dX7_number_36 (by unfold inI; omega) ?_
        refine ex_istore_n (L2 := [_, _, _, _, _]) (pc := 37) dX7_number_37 rfl (Nat.le_of_ble_eq_true rfl) rfl ?_
        refine ex_iinc (L2 := [_, _, _, _, _]) (pc := 38) dX7_number_38 rfl rfl (Nat.le_of_ble_eq_true rfl) (by unfold inI; omega) rfl ?_
        refine ex_aload_n (pc := 41) dX7_number_41 rfl ?_
        refine ex_dup (pc := 42) dX7_number_42 rfl ?_
        refine ex_getfield (pc := 43) dX7_number_43 fk_X7_57 h2_o (by rfl) ?_
        refine ex_iconst (pc := 46) dX7_number_46 (by decide) ?_
        refine ex_iadd (pc := 47) dX7_number_47 (by unfold inI; omega) ?_
        refine ex_putA (pc := 48) dX7_number_48 fk_X7_57 (ty := tyX7 9) (fun _ _ _ h9 => by cases h9; exact ⟨tyX7_ok 9 (by decide), rfl⟩) h2_o (Nat.le_of_ble_eq_true rfl) (fun _ => rfl) (fun _ => rfl) ?_
        refine ex_up (fun w3 e_w3 => ?_)
        have h3_o := (congrFun e_w3 55).trans up_s
        have h3_t := ((congrFun e_w3 61).trans (up_n (by first | assumption | decide | omega))).trans h2_t
        refine ex_goto (pc := 51) dX7_number_51 (tgt := 5) (by decide) ?_
        refine ex_aload_n (pc := 5) dX7_number_5 rfl ?_
        refine ex_callVI (as := []) (pc := 6) dX7_number_6 (tX7_here (p9 := p9 + 3) h3_o h3_t ht hlen) lk_X7_64 ykX7_here vkX7_here h3_o rfl rfl rfl (Nat.le_of_ble_eq_true rfl) ⟨by decide, by decide⟩ ⟨Nat.le_refl _, Nat.le_refl _⟩ (fun i6 w4 r6 p6 => ?_)
        obtain ⟨ew, ev3⟩ := p6
        rw [ew]
        refine ex_bipush (pc := 9) dX7_number_9 (by decide) ?_
        refine ex_bipush (pc := 11) dX7_number_11 (by decide) ?_
        refine ex_callSZ (as := [_, _, _]) (pc := 13) dX7_number_13 (tX7_in) lk_X7_68 ykX7_in zkX7_in rfl rfl (Nat.le_of_ble_eq_true rfl) ⟨by decide, by decide⟩ ⟨Nat.le_refl _, Nat.le_refl _⟩ (fun i13 w4 r13 p13 => ?_)
        obtain ⟨ew, pin3⟩ := p13
        rw [ew]
        refine ex_if_eq (pc := 16) dX7_number_16 (tgt := 54) (by decide) (fun c16 => ?_) (fun c16 => ?_)
        · refine tail w3 3 (p9 + 3) _ (by rw [e_w3, e_w2, e_w1, up_up]; exact up_up) (by omega) (by omega) (fun q1 q2 q3 => ?_) (fun q1 v2 j2 q2 => ?_)
          · omega
          · exfalso
            rw [numS2 (by omega) (by omega), if_neg (by omega)] at q2; cases q2
        · refine ex_iload (pc := 19) dX7_number_19 rfl ?_
          refine ex_iconst (pc := 21) dX7_number_21 (by decide) ?_
          refine ex_icmp_ge (pc := 22) dX7_number_22 (tgt := 54) (by decide) (fun c22 => ?_) (fun c22 => by exfalso; omega)
          refine tail w3 3 (p9 + 3) _ (by rw [e_w3, e_w2, e_w1, up_up]; exact up_up) (by omega) (by omega) (fun q1 q2 q3 => ?_) (fun q1 v2 j2 q2 => ?_)
          · omega
          · exfalso
            rw [numS2 (by omega) (by omega), if_neg (by omega)] at q2; cases q2

