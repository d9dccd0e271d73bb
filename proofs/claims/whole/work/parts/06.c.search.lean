def prF (mo d e : Int) (lb : Nat → Nat) (a : Nat) : Nat → Nat := if mo = 1 then entF lb a d (e % 12) else if mo = 2 then entF (entF (entF lb a d e) a d (e - 1)) a d (e + 1) else entF lb a d e
theorem prF_lt {mo d e : Int} {lb : Nat → Nat} (h : ∀ k, lb k < 16384) {a : Nat} (ha : a < 14) : ∀ k, prF mo d e lb a k < 16384 := by
  unfold prF
  split
  · exact entF_lt h ha
  · split
    · exact entF_lt (entF_lt (entF_lt h ha) ha) ha
    · exact entF_lt h ha
theorem prF_bit {mo d e : Int} {lb : Nat → Nat} {a k b : Nat} (hk : k < 897) : (prF mo d e lb a k).testBit b = true ↔ (lb k).testBit b = true ∨ (hitP mo d e k ∧ b = a) := by
  unfold prF hitP
  by_cases h1 : mo = 1
  · rw [if_pos h1, if_pos h1, entF_bit hk]
    constructor
    · rintro (z | ⟨z1, z2, z3⟩)
      · exact Or.inl z
      · exact Or.inr ⟨⟨z1, z2⟩, z3⟩
    · rintro (z | ⟨⟨z1, z2⟩, z3⟩)
      · exact Or.inl z
      · exact Or.inr ⟨z1, z2, z3⟩
  · rw [if_neg h1, if_neg h1]
    by_cases h2 : mo = 2
    · rw [if_pos h2, if_pos h2, entF_bit hk, entF_bit hk, entF_bit hk]
      constructor
      · rintro (((z | ⟨z1, z2, z3⟩) | ⟨z1, z2, z3⟩) | ⟨z1, z2, z3⟩)
        · exact Or.inl z
        · exact Or.inr ⟨⟨z1, Or.inl z2⟩, z3⟩
        · exact Or.inr ⟨⟨z1, Or.inr (Or.inl z2)⟩, z3⟩
        · exact Or.inr ⟨⟨z1, Or.inr (Or.inr z2)⟩, z3⟩
      · rintro (z | ⟨⟨z1, z2 | z2 | z2⟩, z3⟩)
        · exact Or.inl (Or.inl (Or.inl z))
        · exact Or.inl (Or.inl (Or.inr ⟨z1, z2, z3⟩))
        · exact Or.inl (Or.inr ⟨z1, z2, z3⟩)
        · exact Or.inr ⟨z1, z2, z3⟩
    · rw [if_neg h2, if_neg h2, entF_bit hk]
      constructor
      · rintro (z | ⟨z1, z2, z3⟩)
        · exact Or.inl z
        · exact Or.inr ⟨⟨z1, z2⟩, z3⟩
      · rintro (z | ⟨⟨z1, z2⟩, z3⟩)
        · exact Or.inl z
        · exact Or.inr ⟨z1, z2, z3⟩
abbrev mX5_enterPair : xC := mkC yX5_enterPair cX5_enterPair 5 none 3 300 0 0
set_option maxHeartbeats 4000000 in
set_option maxRecDepth 100000 in
theorem tX5_enterPair {n : Nat} {w : xW} {q : Nat} {wc mo pr sc : Int}  {tf : Nat → Int} {pf : Nat → Int} {lb : Nat → Nat} (h_q : w q = seO q wc mo pr sc) (h_T : w (q + 1) = xA 14 tf) (h_P : w (q + 2) = xA 14 pf) (h_A : w (q + 4) = xA 897 (fun i => (lb i : Int))) (hlb : ∀ k, lb k < 16384) {a m : Nat} (ha : a < 14) (hm : m < 14) (hb : ∀ k, k < 14 → -100 ≤ tf k ∧ tf k ≤ 100 ∧ -100 ≤ pf k ∧ pf k ≤ 100) : Ctr mX5_enterPair [xr q, xi a, xi m] n w (pV (fun w2 => w2 = va_up w (q + 4) (xA 897 (fun i => (prF mo (tf m - tf a) (pf m - pf a) lb a i : Int))))) := by
  refine Ctr.of ykX5_enterPair rfl (Nat.le_of_ble_eq_true rfl) okV (fun hin hW => ?_)
  show Ex _ _ 0 0 n w 0 [some (xr q), some (xi a), some (xi m), none, none] []
  refine ex_aload_n (pc := 0) dX5_enterPair_0 rfl ?_
  refine ex_getfield (pc := 1) dX5_enterPair_1 fk_X5_9 h_q (by rfl) ?_
  refine ex_iload_n (pc := 4) dX5_enterPair_4 rfl ?_
  refine ex_iaload (pc := 5) dX5_enterPair_5 h_T (by omega) (by omega) ?_
  have hka : ((a : Int)).toNat = a := by omega
  have hkm : ((m : Int)).toNat = m := by omega
  have hba := hb a ha
  have hbm := hb m hm
  rw [hkm]
  refine ex_aload_n (pc := 6) dX5_enterPair_6 rfl ?_
  refine ex_getfield (pc := 7) dX5_enterPair_7 fk_X5_9 h_q (by rfl) ?_
  refine ex_iload_n (pc := 10) dX5_enterPair_10 rfl ?_
  refine ex_iaload (pc := 11) dX5_enterPair_11 h_T (by omega) (by omega) ?_
  rw [hka]
  refine ex_isub (pc := 12) dX5_enterPair_12 (by unfold inI; omega) ?_
  refine ex_istore_n (L2 := [_, _, _, _, _]) (pc := 13) dX5_enterPair_13 rfl (Nat.le_of_ble_eq_true rfl) rfl ?_
  refine ex_aload_n (pc := 14) dX5_enterPair_14 rfl ?_
  refine ex_getfield (pc := 15) dX5_enterPair_15 fk_X5_15 h_q (by rfl) ?_
  refine ex_iload_n (pc := 18) dX5_enterPair_18 rfl ?_
  refine ex_iaload (pc := 19) dX5_enterPair_19 h_P (by omega) (by omega) ?_
  rw [hkm]
  refine ex_aload_n (pc := 20) dX5_enterPair_20 rfl ?_
  refine ex_getfield (pc := 21) dX5_enterPair_21 fk_X5_15 h_q (by rfl) ?_
  refine ex_iload_n (pc := 24) dX5_enterPair_24 rfl ?_
  refine ex_iaload (pc := 25) dX5_enterPair_25 h_P (by omega) (by omega) ?_
  rw [hka]
  refine ex_isub (pc := 26) dX5_enterPair_26 (by unfold inI; omega) ?_
  refine ex_istore (L2 := [_, _, _, _, _]) (pc := 27) dX5_enterPair_27 rfl (Nat.le_of_ble_eq_true rfl) rfl ?_
  refine ex_aload_n (pc := 29) dX5_enterPair_29 rfl ?_
  refine ex_getfield (pc := 30) dX5_enterPair_30 fk_X5_42 h_q (by rfl) ?_
  refine ex_iconst (pc := 33) dX5_enterPair_33 (by decide) ?_
  refine ex_icmp_ne (pc := 34) dX5_enterPair_34 (tgt := 51) (by decide) (fun c34 => ?_) (fun c34 => ?_)
  · refine ex_aload_n (pc := 51) dX5_enterPair_51 rfl ?_
    refine ex_iload_n (pc := 52) dX5_enterPair_52 rfl ?_
    refine ex_iload_n (pc := 53) dX5_enterPair_53 rfl ?_
    refine ex_iload (pc := 54) dX5_enterPair_54 rfl ?_
    refine ex_callVV (as := [_, _, _]) (pc := 56) dX5_enterPair_56 (tX5_enter h_q h_A hlb ha (by omega)) lk_X5_92 ykX5_enter vkX5_enter h_q rfl rfl rfl (Nat.le_of_ble_eq_true rfl) ⟨by decide, by decide⟩ ⟨Nat.le_refl _, Nat.le_refl _⟩ (fun w1 p56 => ?_)
    have e56 : w1 = _ := p56
    have h1_q := (congrFun e56 q).trans ((up_n (by omega)).trans h_q)
    have h1_A := (congrFun e56 (q + 4)).trans up_s
    have h1_T := (congrFun e56 (q + 1)).trans ((up_n (by omega)).trans h_T)
    have h1_P := (congrFun e56 (q + 2)).trans ((up_n (by omega)).trans h_P)
    refine ex_aload_n (pc := 59) dX5_enterPair_59 rfl ?_
    refine ex_getfield (pc := 60) dX5_enterPair_60 fk_X5_42 h1_q (by rfl) ?_
    refine ex_iconst (pc := 63) dX5_enterPair_63 (by decide) ?_
    refine ex_icmp_ne (pc := 64) dX5_enterPair_64 (tgt := 87) (by decide) (fun c64 => ?_) (fun c64 => ?_)
    · exact ex_vret (pc := 87) dX5_enterPair_87 (by rw [e56]; unfold prF; rw [if_neg (by omega), if_neg (by omega)]) rfl (Nat.le_refl _)
    · refine ex_aload_n (pc := 67) dX5_enterPair_67 rfl ?_
      refine ex_iload_n (pc := 68) dX5_enterPair_68 rfl ?_
      refine ex_iload_n (pc := 69) dX5_enterPair_69 rfl ?_
      refine ex_iload (pc := 70) dX5_enterPair_70 rfl ?_
      refine ex_iconst (pc := 72) dX5_enterPair_72 (by decide) ?_
      refine ex_isub (pc := 73) dX5_enterPair_73 (by unfold inI; omega) ?_
      refine ex_callVV (as := [_, _, _]) (pc := 74) dX5_enterPair_74 (tX5_enter h1_q h1_A (entF_lt hlb ha) ha (by omega)) lk_X5_92 ykX5_enter vkX5_enter h1_q rfl rfl rfl (Nat.le_of_ble_eq_true rfl) ⟨by decide, by decide⟩ ⟨Nat.le_refl _, Nat.le_refl _⟩ (fun w2 p74 => ?_)
      have e74 : w2 = _ := p74
      have h2_q := (congrFun e74 q).trans ((up_n (by omega)).trans h1_q)
      have h2_A := (congrFun e74 (q + 4)).trans up_s
      have h2_T := h1_T
      have h2_P := h1_P
      refine ex_aload_n (pc := 77) dX5_enterPair_77 rfl ?_
      refine ex_iload_n (pc := 78) dX5_enterPair_78 rfl ?_
      refine ex_iload_n (pc := 79) dX5_enterPair_79 rfl ?_
      refine ex_iload (pc := 80) dX5_enterPair_80 rfl ?_
      refine ex_iconst (pc := 82) dX5_enterPair_82 (by decide) ?_
      refine ex_iadd (pc := 83) dX5_enterPair_83 (by unfold inI; omega) ?_
      refine ex_callVV (as := [_, _, _]) (pc := 84) dX5_enterPair_84 (tX5_enter h2_q h2_A (entF_lt (entF_lt hlb ha) ha) ha (by omega)) lk_X5_92 ykX5_enter vkX5_enter h2_q rfl rfl rfl (Nat.le_of_ble_eq_true rfl) ⟨by decide, by decide⟩ ⟨Nat.le_refl _, Nat.le_refl _⟩ (fun w3 p84 => ?_)
      have e84 : w3 = _ := p84
      exact ex_vret (pc := 87) dX5_enterPair_87 (by rw [e84, e74, e56]; unfold prF; rw [if_neg (by omega), if_pos (by omega), up_up, up_up]) rfl (Nat.le_refl _)
  · refine ex_aload_n (pc := 37) dX5_enterPair_37 rfl ?_
    refine ex_iload_n (pc := 38) dX5_enterPair_38 rfl ?_
    refine ex_iload_n (pc := 39) dX5_enterPair_39 rfl ?_
    refine ex_iload (pc := 40) dX5_enterPair_40 rfl ?_
    refine ex_bipush (pc := 42) dX5_enterPair_42 (by decide) ?_
    refine ex_callSI (as := [_, _]) (pc := 44) dX5_enterPair_44 (tJ9_floorMod_7cf53) lk_X5_87 ykJ9_floorMod_7cf53 zkJ9_floorMod_7cf53 rfl rfl (Nat.le_of_ble_eq_true rfl) ⟨by decide, by decide⟩ ⟨Nat.le_refl _, Nat.le_refl _⟩ (fun i44 w1 r44 p44 => ?_)
    obtain ⟨e44, p44⟩ := p44
    subst e44
    subst p44
    refine ex_callVV (as := [_, _, _]) (pc := 47) dX5_enterPair_47 (tX5_enter h_q h_A hlb ha (by omega)) lk_X5_92 ykX5_enter vkX5_enter h_q rfl rfl rfl (Nat.le_of_ble_eq_true rfl) ⟨by decide, by decide⟩ ⟨Nat.le_refl _, Nat.le_refl _⟩ (fun w1 p47 => ?_)
    have e47 : w1 = _ := p47
    exact ex_vret (pc := 50) dX5_enterPair_50 (by rw [e47]; unfold prF; rw [if_pos c34]) rfl (Nat.le_refl _)

abbrev mX5_findLargests : xC := mkC yX5_findLargests cX5_findLargests 3 none 4 400 0 0
def lgI (tf pf : Nat → Int) (mo : Int) (pN a m : Nat) (lb : Nat → Nat) : Prop := ∀ k, k < 897 → ∀ b, (lb k).testBit b = true ↔ (pN.testBit b = true ∧ ∃ m2, m2 < 14 ∧ pN.testBit m2 = true ∧ hitP mo (tf m2 - tf b) (pf m2 - pf b) k ∧ (b < a ∨ (b = a ∧ m2 < m)))
theorem lgI_row {tf pf : Nat → Int} {mo : Int} {pN a : Nat} {m : Nat} {lb : Nat → Nat} (h : lgI tf pf mo pN a m lb) (hm : m = 14 ∨ pN.testBit a = false) : lgI tf pf mo pN (a + 1) 0 lb := by
  intro k hk b
  rw [h k hk b]
  constructor
  · rintro ⟨h1, m2, h2, h3, h4, h5⟩
    exact ⟨h1, m2, h2, h3, h4, Or.inl (by omega)⟩
  · rintro ⟨h1, m2, h2, h3, h4, h5⟩
    refine ⟨h1, m2, h2, h3, h4, ?_⟩
    rcases hm with hm | hm
    · omega
    · by_cases e : b = a
      · subst e; rw [hm] at h1; cases h1
      · omega
theorem lgI_skip {tf pf : Nat → Int} {mo : Int} {pN a : Nat} {m : Nat} {lb : Nat → Nat} (h : lgI tf pf mo pN a m lb) (hm : pN.testBit m = false) : lgI tf pf mo pN a (m + 1) lb := by
  intro k hk b
  rw [h k hk b]
  constructor
  · rintro ⟨h1, m2, h2, h3, h4, h5⟩
    exact ⟨h1, m2, h2, h3, h4, by omega⟩
  · rintro ⟨h1, m2, h2, h3, h4, h5⟩
    refine ⟨h1, m2, h2, h3, h4, ?_⟩
    by_cases e : m2 = m
    · subst e; rw [hm] at h3; cases h3
    · omega
theorem lgI_pair {tf pf : Nat → Int} {mo : Int} {pN a : Nat} {m : Nat} {lb : Nat → Nat} (h : lgI tf pf mo pN a m lb) (hm : m < 14) (h8 : pN.testBit m = true) (h9 : pN.testBit a = true) : lgI tf pf mo pN a (m + 1) (prF mo (tf m - tf a) (pf m - pf a) lb a) := by
  intro k hk b
  rw [prF_bit hk, h k hk b]
  constructor
  · rintro (⟨h1, m2, h2, h3, h4, h5⟩ | ⟨h1, h2⟩)
    · exact ⟨h1, m2, h2, h3, h4, by omega⟩
    · subst h2
      exact ⟨h9, m, hm, h8, h1, Or.inr ⟨rfl, by omega⟩⟩
  · rintro ⟨h1, m2, h2, h3, h4, h5⟩
    by_cases e : b = a ∧ m2 = m
    · obtain ⟨rfl, rfl⟩ := e
      exact Or.inr ⟨h4, rfl⟩
    · exact Or.inl ⟨h1, m2, h2, h3, h4, by omega⟩
set_option maxHeartbeats 4000000 in
set_option maxRecDepth 100000 in
theorem tX5_findLargests {n : Nat} {w : xW} {q : Nat} {wc mo sc : Int} {pN : Nat}  {tf : Nat → Int} {pf : Nat → Int} {lb : Nat → Nat} (h_q : w q = seO q wc mo pN sc) (h_T : w (q + 1) = xA 14 tf) (h_P : w (q + 2) = xA 14 pf) (h_A : w (q + 4) = xA 897 (fun i => (lb i : Int))) (hpN : pN < 16384) (hlb : ∀ k, lb k < 16384) (hb : ∀ k, k < 14 → -100 ≤ tf k ∧ tf k ≤ 100 ∧ -100 ≤ pf k ∧ pf k ≤ 100) : Ctr mX5_findLargests [xr q] n w (pV (fun w2 => ∃ lb2 : Nat → Nat, (∀ k, lb2 k < 16384) ∧ lgI tf pf mo pN 14 0 lb2 ∧ w2 = va_up w (q + 4) (xA 897 (fun i => (lb2 i : Int))))) := by
  refine Ctr.of ykX5_findLargests rfl (Nat.le_of_ble_eq_true rfl) okV (fun hin hW => ?_)
  show Ex _ _ 0 0 n w 0 [some (xr q), none, none] []
  have outer : ∀ (d1 a : Nat), a ≤ 14 → 15 ≤ a + d1 → ∀ (lb : Nat → Nat) (x2 : Option xV), (∀ k, lb k < 16384) → lgI tf pf mo pN a 0 lb → Ex mX5_findLargests (pV (fun w2 => ∃ lb2 : Nat → Nat, (∀ k, lb2 k < 16384) ∧ lgI tf pf mo pN 14 0 lb2 ∧ w2 = va_up w (q + 4) (xA 897 (fun i => (lb2 i : Int))))) 0 0 n (va_up w (q + 4) (xA 897 (fun i => (lb i : Int)))) 10 [some (xr q), some (xi a), x2] [] := by
    intro d1
    induction d1 with
    | zero => intro a h1 h2; omega
    | succ d1 ih =>
      intro a h1 h2 lb x2 hlb hI
      have inner : ∀ (d2 m : Nat), a < 14 → m ≤ 14 → 15 ≤ m + d2 → ∀ (lb : Nat → Nat), (∀ k, lb k < 16384) → lgI tf pf mo pN a m lb → Ex mX5_findLargests (pV (fun w2 => ∃ lb2 : Nat → Nat, (∀ k, lb2 k < 16384) ∧ lgI tf pf mo pN 14 0 lb2 ∧ w2 = va_up w (q + 4) (xA 897 (fun i => (lb2 i : Int))))) 0 0 n (va_up w (q + 4) (xA 897 (fun i => (lb i : Int)))) 18 [some (xr q), some (xi a), some (xi m)] [] := by
        intro d2
        induction d2 with
        | zero => intro m h0 h1 h2; omega
        | succ d2 ih2 =>
          intro m h0 h3 h4 lb hlb hI
          refine ex_iload_n (pc := 18) dX5_findLargests_18 rfl ?_
          refine ex_bipush (pc := 19) dX5_findLargests_19 (by decide) ?_
          refine ex_icmp_ge (pc := 21) dX5_findLargests_21 (tgt := 58) (by decide) (fun c21 => ?_) (fun c21 => ?_)
          · refine ex_iinc (L2 := [_, _, _]) (pc := 58) dX5_findLargests_58 rfl rfl (Nat.le_of_ble_eq_true rfl) (by unfold inI; omega) rfl ?_
            refine ex_goto (pc := 61) dX5_findLargests_61 (tgt := 10) (by decide) ?_
            exact ih (a + 1) (by omega) (by omega) lb _ hlb (lgI_row hI (Or.inl (by omega)))
          · refine ex_aload_n (pc := 24) dX5_findLargests_24 rfl ?_
            refine ex_getfield (pc := 25) dX5_findLargests_25 fk_X5_47 ((up_n (by omega)).trans h_q) (by rfl) ?_
            refine ex_iload_n (pc := 28) dX5_findLargests_28 rfl ?_
            refine ex_callSZ (as := [_, _]) (pc := 29) dX5_findLargests_29 (tX5_has (a := pN) (q := a) (by omega) (by omega)) lk_X5_66 ykX5_has zkX5_has rfl rfl (Nat.le_of_ble_eq_true rfl) ⟨by decide, by decide⟩ ⟨Nat.le_refl _, Nat.le_refl _⟩ (fun i29 w1 r29 p29 => ?_)
            obtain ⟨e29, p29⟩ := p29
            subst e29
            refine ex_if_eq (pc := 32) dX5_findLargests_32 (tgt := 58) (by decide) (fun c32 => ?_) (fun c32 => ?_)
            · refine ex_iinc (L2 := [_, _, _]) (pc := 58) dX5_findLargests_58 rfl rfl (Nat.le_of_ble_eq_true rfl) (by unfold inI; omega) rfl ?_
              refine ex_goto (pc := 61) dX5_findLargests_61 (tgt := 10) (by decide) ?_
              exact ih (a + 1) (by omega) (by omega) lb _ hlb (lgI_row hI (Or.inr (by cases hz : pN.testBit a with | false => rfl | true => exfalso; have := p29.mpr hz; omega)))
            · refine ex_aload_n (pc := 35) dX5_findLargests_35 rfl ?_
              refine ex_getfield (pc := 36) dX5_findLargests_36 fk_X5_47 ((up_n (by omega)).trans h_q) (by rfl) ?_
              refine ex_iload_n (pc := 39) dX5_findLargests_39 rfl ?_
              refine ex_callSZ (as := [_, _]) (pc := 40) dX5_findLargests_40 (tX5_has (a := pN) (q := m) (by omega) (by omega)) lk_X5_66 ykX5_has zkX5_has rfl rfl (Nat.le_of_ble_eq_true rfl) ⟨by decide, by decide⟩ ⟨Nat.le_refl _, Nat.le_refl _⟩ (fun i40 w1 r40 p40 => ?_)
              obtain ⟨e40, p40⟩ := p40
              subst e40
              refine ex_if_eq (pc := 43) dX5_findLargests_43 (tgt := 52) (by decide) (fun c43 => ?_) (fun c43 => ?_)
              · refine ex_iinc (L2 := [_, _, _]) (pc := 52) dX5_findLargests_52 rfl rfl (Nat.le_of_ble_eq_true rfl) (by unfold inI; omega) rfl ?_
                refine ex_goto (pc := 55) dX5_findLargests_55 (tgt := 18) (by decide) ?_
                exact ih2 (m + 1) h0 (by omega) (by omega) lb hlb (lgI_skip hI (by cases hz : pN.testBit m with | false => rfl | true => exfalso; have := p40.mpr hz; omega))
              · refine ex_aload_n (pc := 46) dX5_findLargests_46 rfl ?_
                refine ex_iload_n (pc := 47) dX5_findLargests_47 rfl ?_
                refine ex_iload_n (pc := 48) dX5_findLargests_48 rfl ?_
                refine ex_callVV (as := [_, _]) (pc := 49) dX5_findLargests_49 (tX5_enterPair (lb := lb) ((up_n (by omega)).trans h_q) ((up_n (by omega)).trans h_T) ((up_n (by omega)).trans h_P) up_s hlb (a := a) (m := m) (by omega) (by omega) hb) lk_X5_83 ykX5_enterPair vkX5_enterPair ((up_n (by omega)).trans h_q) rfl rfl rfl (Nat.le_of_ble_eq_true rfl) ⟨by decide, by decide⟩ ⟨Nat.le_refl _, Nat.le_refl _⟩ (fun w1 p49 => ?_)
                rw [up_up] at p49
                subst p49
                refine ex_iinc (L2 := [_, _, _]) (pc := 52) dX5_findLargests_52 rfl rfl (Nat.le_of_ble_eq_true rfl) (by unfold inI; omega) rfl ?_
                refine ex_goto (pc := 55) dX5_findLargests_55 (tgt := 18) (by decide) ?_
                exact ih2 (m + 1) h0 (by omega) (by omega) _ (prF_lt hlb (by omega)) (lgI_pair hI (by omega) (p40.mp (by omega)) (p29.mp (by omega)))
      refine ex_iload_n (pc := 10) dX5_findLargests_10 rfl ?_
      refine ex_bipush (pc := 11) dX5_findLargests_11 (by decide) ?_
      refine ex_icmp_ge (pc := 13) dX5_findLargests_13 (tgt := 64) (by decide) (fun c13 => ?_) (fun c13 => ?_)
      · exact ex_vret (pc := 64) dX5_findLargests_64 ⟨lb, hlb, by rw [show 14 = a by omega]; exact hI, rfl⟩ rfl (Nat.le_refl _)
      · refine ex_iconst (pc := 16) dX5_findLargests_16 (by decide) ?_
        refine ex_istore_n (L2 := [_, _, _]) (pc := 17) dX5_findLargests_17 rfl (Nat.le_of_ble_eq_true rfl) rfl ?_
        exact inner 15 0 (by omega) (by omega) (by omega) lb hlb hI
  refine ex_aload_n (pc := 0) dX5_findLargests_0 rfl ?_
  refine ex_getfield (pc := 1) dX5_findLargests_1 fk_X5_21 h_q (by rfl) ?_
  refine ex_iconst (pc := 4) dX5_findLargests_4 (by decide) ?_
  refine ex_callSV (as := [_, _]) (pc := 5) dX5_findLargests_5 (tJ7_fill_53178 h_A (by omega)) lk_X5_50 ykJ7_fill_53178 zkJ7_fill_53178 rfl rfl (Nat.le_of_ble_eq_true rfl) ⟨by decide, by decide⟩ ⟨Nat.le_refl _, Nat.le_refl _⟩ (fun w1 p5 => ?_)
  have e5 : w1 = va_up w (q + 4) (xA 897 (fun i => ((if i < 897 then 0 else lb i : Nat) : Int))) := by
    rw [p5]
    congr 2
    funext z
    by_cases y : z < 897 <;> simp [y]
  subst e5
  refine ex_iconst (pc := 8) dX5_findLargests_8 (by decide) ?_
  refine ex_istore_n (L2 := [_, _, _]) (pc := 9) dX5_findLargests_9 rfl (Nat.le_of_ble_eq_true rfl) rfl ?_
  exact outer 15 0 (by omega) (by omega) (fun i => if i < 897 then 0 else lb i) _ (fun k => by by_cases y : k < 897 <;> simp [y, hlb k]) (fun k hk b => by show ((if k < 897 then 0 else lb k).testBit b = true ↔ _); rw [if_pos hk]; simp)

