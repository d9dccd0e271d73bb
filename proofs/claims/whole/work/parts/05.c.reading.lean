def Fr3 (w w2 : xW) (s r a : Nat) : Prop := ∀ q, q ≠ s → q ≠ r → q ≠ a → w2 q = w q
section SL
variable {n : Nat} {w : xW} {s l at_ : Nat} {tx : List Int}
theorem lX4_skip (h : ScAt w s l tx at_) (hat : at_ ≤ tx.length) {c : Int} (hc : 0 ≤ c) : Ctr mX4_skip [xr s, xi c] n w (pZ (fun v w2 => (v = 1 ∧ at_ < tx.length ∧ ch tx at_ = c ∧ ScAt w2 s l tx (at_ + 1) ∧ ∀ q, q ≠ s → w2 q = w q) ∨ (v = 0 ∧ ch tx at_ ≠ c ∧ w2 = w))) := by
  have h0 := h
  obtain ⟨t, h1, h2, h3, h4⟩ := h
  refine (tX4_skip h1 h2 h3 h4 (by omega) hc).monoZ (fun v w2 z q => ?_)
  rcases q with ⟨a, b, c1, d⟩ | q
  · exact Or.inl ⟨a, b, c1, by rw [d]; exact h0.put, fun q e => by rw [d, up_n e]⟩
  · exact Or.inr q
theorem lX4_readNumber (h : ScAt w s l tx at_) (hat : at_ ≤ tx.length) : Ctr mX4_readNumber [xr s] n w (pI (fun v w2 => v = (rdN tx at_).1 ∧ ScAt w2 s l tx (at_ + (rdN tx at_).2) ∧ at_ + (rdN tx at_).2 ≤ tx.length ∧ ∀ q, q ≠ s → w2 q = w q)) := by
  have h0 := h
  obtain ⟨t, h1, h2, h3, h4⟩ := h
  refine (tX4_readNumber h1 h2 h3 h4 (by omega)).monoI (fun v w2 q => ?_)
  obtain ⟨a, d⟩ := q
  refine ⟨a, by rw [d]; exact h0.put, ?_, fun q e => by rw [d, up_n e]⟩
  rcases rdN_cases tx at_ with q | q <;> omega
end SL
theorem ScAt.s {w : xW} {s l : Nat} {tx : List Int} {at_ : Nat} (h : ScAt w s l tx at_) : w s = xO 4 [xr l, xi tx.length, xi at_] := by
  obtain ⟨t, q1, -⟩ := h; exact q1
theorem PcAt.r {w : xW} {r a : Nat} {cs : List Int} {mo : Int} (h : PcAt w r a cs mo) : w r = xO 2 [xr a, xi cs.length, xi mo] := by
  obtain ⟨t, q1, -⟩ := h; exact q1
theorem PcAt.len {w : xW} {r a : Nat} {cs : List Int} {mo : Int} (h : PcAt w r a cs mo) : cs.length ≤ 14 := by
  obtain ⟨t, q1, q2, q3, q4⟩ := h; exact q4
theorem numL_lt {c : Int} {cs : List Int} (h : numL c cs < 0) : numL c cs = -4 := by
  unfold numL at *
  split at h
  · omega
  · rfl
theorem lX2_insertFull {n : Nat} {w : xW} {r a : Nat} {cs : List Int} {mo c : Int} (h : PcAt w r a cs mo) (hl : cs.length = 14) : Ctr mX2_insert [xr r, xi c] n w (pI (fun v w2 => w2 = w ∧ v = -3)) := by
  obtain ⟨f, h1, -⟩ := h
  rw [hl] at h1
  exact tX2_insertFull (f := f) h1
abbrev mX4_readManner : xC := mkC yX4_readManner cX4_readManner 3 (some .boolean) 3 300 0 0
set_option maxHeartbeats 4000000 in
set_option maxRecDepth 100000 in
theorem tX4_readManner {n : Nat} {w : xW} {s l r a at_ : Nat} {tx cs : List Int} {mo : Int} (hs : ScAt w s l tx at_) (hp : PcAt w r a cs mo) (hla : l ≠ a) (hat : at_ ≤ tx.length) : Ctr mX4_readManner [xr s, xr r] n w (pZ (fun v w2 => (v = 1 ∧ ∃ (m : Int) (j : Nat), mannS tx at_ = some (m, j) ∧ j ≤ tx.length ∧ ScAt w2 s l tx j ∧ PcAt w2 r a cs m ∧ Fr3 w w2 s r a) ∨ (v = 0 ∧ (mannS tx at_ = none) ∧ ∃ b : Nat, ScAt w2 s l tx b ∧ PcAt w2 r a cs mo ∧ Fr3 w w2 s r a))) := by
  refine Ctr.of ykX4_readManner rfl (Nat.le_of_ble_eq_true rfl) okZ (fun hin hW => ?_)
  show Ex _ _ 0 0 n w 0 [some (xr s), some (xr r), none] []
  obtain ⟨nrs, nas, nrl⟩ := hp.neS hs
  have nls := hs.ne
  have nar := hp.ne
  have h_s := hs.s
  have h_r := hp.r
  refine ex_aload_n (pc := 0) dX4_readManner_0 rfl ?_
  refine ex_callVI (as := []) (pc := 1) dX4_readManner_1 (lX4_readNumber hs hat) lk_X4_44 ykX4_readNumber vkX4_readNumber h_s rfl rfl rfl (Nat.le_of_ble_eq_true rfl) ⟨by decide, by decide⟩ ⟨Nat.le_refl _, Nat.le_refl _⟩ (fun v1 w1 r1 p1 => ?_)
  obtain ⟨ev, s1, b1, f1⟩ := p1
  have hr1 : PcAt w1 r a cs mo := hp.fr (f1 r nrs) (f1 a nas)
  have h_s1 := s1.s
  generalize hk : at_ + (rdN tx at_).2 = a1 at s1 b1 h_s1
  refine ex_istore_n (L2 := [_, _, _]) (pc := 4) dX4_readManner_4 rfl (Nat.le_of_ble_eq_true rfl) rfl ?_
  refine ex_aload_n (pc := 5) dX4_readManner_5 rfl ?_
  refine ex_bipush (pc := 6) dX4_readManner_6 (by decide) ?_
  refine ex_callVZ (as := [_]) (pc := 8) dX4_readManner_8 (lX4_skip s1 b1 (by omega)) lk_X4_34 ykX4_skip vkX4_skip h_s1 rfl rfl rfl (Nat.le_of_ble_eq_true rfl) ⟨by decide, by decide⟩ ⟨Nat.le_refl _, Nat.le_refl _⟩ (fun v8 w2 r8 p8 => ?_)
  rcases p8 with ⟨rfl, b2, c2, s2, f2⟩ | ⟨rfl, c2, rfl⟩
  · refine ex_if_eq (pc := 11) dX4_readManner_11 (tgt := 23) (by decide) (fun c11 => by exfalso; omega) (fun c11 => ?_)
    have hr2 : PcAt w2 r a cs mo := hr1.fr (f2 r nrs) (f2 a nas)
    refine ex_iload_n (pc := 14) dX4_readManner_14 rfl ?_
    have fr2 : Fr3 w w2 s r a := fun q e1 _ _ => (f2 q e1).trans (f1 q e1)
    have hcase := rdN_cases tx at_
    refine ex_if_lt (pc := 15) dX4_readManner_15 (tgt := 23) (by decide) (fun c15 => ?_) (fun c15 => ?_)
    · refine ex_iconst (pc := 23) dX4_readManner_23 (by decide) ?_
      exact ex_zret (pc := 24) dX4_readManner_24 ⟨Or.inl rfl, Or.inr ⟨rfl, by unfold mannS numS; rw [if_neg (by omega)], _, s2, hr2, fr2⟩⟩ rfl (Nat.le_refl _)
    · refine ex_iload_n (pc := 18) dX4_readManner_18 rfl ?_
      refine ex_iconst (pc := 19) dX4_readManner_19 (by decide) ?_
      have hnum : numS tx at_ 59 = some (v1, a1 + 1) := by unfold numS; rw [if_pos ⟨by omega, by rw [hk]; exact c2⟩, ev, hk]
      refine ex_icmp_le (pc := 20) dX4_readManner_20 (tgt := 25) (by decide) (fun c20 => ?_) (fun c20 => ?_)
      · refine ex_aload_n (pc := 25) dX4_readManner_25 rfl ?_
        refine ex_iload_n (pc := 26) dX4_readManner_26 rfl ?_
        refine ex_putA (pc := 27) dX4_readManner_27 fk_X4_24 (ty := tyX2 2) (fun _ _ _ h9 => by cases h9; exact ⟨tyX2_ok 2 (by decide), rfl⟩) hr2.r (Nat.le_of_ble_eq_true rfl) (fun _ => rfl) (fun _ => rfl) ?_
        refine ex_iconst (pc := 30) dX4_readManner_30 (by decide) ?_
        refine ex_zret (pc := 31) dX4_readManner_31 ⟨Or.inr rfl, Or.inl ⟨rfl, v1, a1 + 1, by unfold mannS; rw [hnum]; exact if_neg (by omega), by omega, s2.fr (up_n nrs.symm) (up_n nrl.symm), ?_, fun q e1 e2 e3 => (up_n e2).trans (fr2 q e1 e2 e3)⟩⟩ rfl (Nat.le_refl _)
        obtain ⟨f, g1, g2, g3⟩ := hr2
        exact ⟨f, up_s, (up_n nar).trans g2, g3⟩
      · refine ex_iconst (pc := 23) dX4_readManner_23 (by decide) ?_
        exact ex_zret (pc := 24) dX4_readManner_24 ⟨Or.inl rfl, Or.inr ⟨rfl, by unfold mannS; rw [hnum]; exact if_pos (by omega), _, s2, hr2, fr2⟩⟩ rfl (Nat.le_refl _)
  · refine ex_if_eq (pc := 11) dX4_readManner_11 (tgt := 23) (by decide) (fun c11 => ?_) (fun c11 => by exfalso; omega)
    refine ex_iconst (pc := 23) dX4_readManner_23 (by decide) ?_
    exact ex_zret (pc := 24) dX4_readManner_24 ⟨Or.inl rfl, Or.inr ⟨rfl, by unfold mannS numS; rw [if_neg (by rw [hk]; exact fun q => c2 q.2)], _, s1, hr1, fun q e1 _ _ => f1 q e1⟩⟩ rfl (Nat.le_refl _)
abbrev mX4_readNote : xC := mkC yX4_readNote cX4_readNote 4 (some .boolean) 3 300 0 0
set_option maxHeartbeats 4000000 in
set_option maxRecDepth 100000 in
theorem tX4_readNote {n : Nat} {w : xW} {s l r a at_ : Nat} {tx cs : List Int} {mo : Int} (hs : ScAt w s l tx at_) (hp : PcAt w r a cs mo) (hla : l ≠ a) (hat : at_ ≤ tx.length) : Ctr mX4_readNote [xr s, xr r] n w (pZ (fun v w2 => (v = 1 ∧ ∃ (c : Int) (j : Nat), noteS tx at_ = some (c, j) ∧ j ≤ tx.length ∧ cs.length < 14 ∧ numL c cs = -4 ∧ ScAt w2 s l tx j ∧ PcAt w2 r a (insL c cs) mo ∧ Fr3 w w2 s r a) ∨ (v = 0 ∧ (∀ c j, noteS tx at_ = some (c, j) → ¬ (cs.length < 14 ∧ numL c cs = -4)) ∧ ∃ b : Nat, ScAt w2 s l tx b ∧ PcAt w2 r a cs mo ∧ Fr3 w w2 s r a))) := by
  refine Ctr.of ykX4_readNote rfl (Nat.le_of_ble_eq_true rfl) okZ (fun hin hW => ?_)
  show Ex _ _ 0 0 n w 0 [some (xr s), some (xr r), none, none] []
  obtain ⟨nrs, nas, nrl⟩ := hp.neS hs
  have nls := hs.ne
  have nar := hp.ne
  have h_s := hs.s
  have h_r := hp.r
  refine ex_aload_n (pc := 0) dX4_readNote_0 rfl ?_
  refine ex_callVI (as := []) (pc := 1) dX4_readNote_1 (lX4_readNumber hs hat) lk_X4_44 ykX4_readNumber vkX4_readNumber h_s rfl rfl rfl (Nat.le_of_ble_eq_true rfl) ⟨by decide, by decide⟩ ⟨Nat.le_refl _, Nat.le_refl _⟩ (fun v1 w1 r1 p1 => ?_)
  obtain ⟨ev, s1, b1, f1⟩ := p1
  have hr1 : PcAt w1 r a cs mo := hp.fr (f1 r nrs) (f1 a nas)
  have h_s1 := s1.s
  generalize hk : at_ + (rdN tx at_).2 = a1 at s1 b1 h_s1
  have hcase := rdN_cases tx at_
  refine ex_istore_n (L2 := [_, _, _, _]) (pc := 4) dX4_readNote_4 rfl (Nat.le_of_ble_eq_true rfl) rfl ?_
  refine ex_aload_n (pc := 5) dX4_readNote_5 rfl ?_
  refine ex_bipush (pc := 6) dX4_readNote_6 (by decide) ?_
  refine ex_callVZ (as := [_]) (pc := 8) dX4_readNote_8 (lX4_skip s1 b1 (by omega)) lk_X4_34 ykX4_skip vkX4_skip h_s1 rfl rfl rfl (Nat.le_of_ble_eq_true rfl) ⟨by decide, by decide⟩ ⟨Nat.le_refl _, Nat.le_refl _⟩ (fun v8 w2 r8 p8 => ?_)
  rcases p8 with ⟨rfl, b2, c2, s2, f2⟩ | ⟨rfl, c2, rfl⟩
  · refine ex_if_ne (pc := 11) dX4_readNote_11 (tgt := 16) (by decide) (fun c11 => ?_) (fun c11 => by exfalso; omega)
    have hr2 : PcAt w2 r a cs mo := hr1.fr (f2 r nrs) (f2 a nas)
    have fr2 : Fr3 w w2 s r a := fun q e1 _ _ => (f2 q e1).trans (f1 q e1)
    refine ex_aload_n (pc := 16) dX4_readNote_16 rfl ?_
    refine ex_callVI (as := []) (pc := 17) dX4_readNote_17 (lX4_readNumber s2 (by omega)) lk_X4_44 ykX4_readNumber vkX4_readNumber s2.s rfl rfl rfl (Nat.le_of_ble_eq_true rfl) ⟨by decide, by decide⟩ ⟨Nat.le_refl _, Nat.le_refl _⟩ (fun v17 w3 r17 p17 => ?_)
    obtain ⟨ev2, s3, b3, f3⟩ := p17
    have hr3 : PcAt w3 r a cs mo := hr2.fr (f3 r nrs) (f3 a nas)
    have fr3 : Fr3 w w3 s r a := fun q e1 e2 e3 => (f3 q e1).trans (fr2 q e1 e2 e3)
    have h_s3 := s3.s
    generalize hk2 : a1 + 1 + (rdN tx (a1 + 1)).2 = a2 at s3 b3 h_s3
    have hcase2 := rdN_cases tx (a1 + 1)
    refine ex_istore_n (L2 := [_, _, _, _]) (pc := 20) dX4_readNote_20 rfl (Nat.le_of_ble_eq_true rfl) rfl ?_
    refine ex_aload_n (pc := 21) dX4_readNote_21 rfl ?_
    refine ex_bipush (pc := 22) dX4_readNote_22 (by decide) ?_
    refine ex_callVZ (as := [_]) (pc := 24) dX4_readNote_24 (lX4_skip s3 b3 (by omega)) lk_X4_34 ykX4_skip vkX4_skip h_s3 rfl rfl rfl (Nat.le_of_ble_eq_true rfl) ⟨by decide, by decide⟩ ⟨Nat.le_refl _, Nat.le_refl _⟩ (fun v24 w4 r24 p24 => ?_)
    rcases p24 with ⟨rfl, b4, c4, s4, f4⟩ | ⟨rfl, c4, rfl⟩
    · have hr4 : PcAt w4 r a cs mo := hr3.fr (f4 r nrs) (f4 a nas)
      have fr4 : Fr3 w w4 s r a := fun q e1 e2 e3 => (f4 q e1).trans (fr3 q e1 e2 e3)
      refine ex_if_eq (pc := 27) dX4_readNote_27 (tgt := 50) (by decide) (fun c27 => by exfalso; omega) (fun c27 => ?_)
      refine ex_iload_n (pc := 30) dX4_readNote_30 rfl ?_
      refine ex_iload_n (pc := 31) dX4_readNote_31 rfl ?_
      refine ex_callSZ (as := [_, _]) (pc := 32) dX4_readNote_32 tX6_isWithin lk_X4_48 ykX6_isWithin zkX6_isWithin rfl rfl (Nat.le_of_ble_eq_true rfl) ⟨by decide, by decide⟩ ⟨Nat.le_refl _, Nat.le_refl _⟩ (fun v32 w5 r32 p32 => ?_)
      obtain ⟨rfl, p32⟩ := p32
      refine ex_if_eq (pc := 35) dX4_readNote_35 (tgt := 50) (by decide) (fun c35 => ?_) (fun c35 => ?_)
      · refine ex_iconst (pc := 50) dX4_readNote_50 (by decide) ?_
        refine ex_zret (pc := 51) dX4_readNote_51 ⟨Or.inl rfl, Or.inr ⟨rfl, fun c j hn => ?_, _, s4, hr4, fr4⟩⟩ rfl (Nat.le_refl _)
        exfalso
        unfold noteS at hn
        by_cases z1 : 0 < (rdN tx at_).2
        · have hnum : numS tx at_ 44 = some (v1, a1 + 1) := by unfold numS; rw [if_pos ⟨z1, by rw [hk]; exact c2⟩, ev, hk]
          rw [hnum] at hn
          simp only at hn
          by_cases z2 : 19 < v1
          · rw [if_pos z2] at hn; cases hn
          · rw [if_neg z2] at hn
            by_cases z3 : 0 < (rdN tx (a1 + 1)).2
            · have hnum2 : numS tx (a1 + 1) 59 = some (v17, a2 + 1) := by unfold numS; rw [if_pos ⟨z3, by rw [hk2]; exact c4⟩, ev2, hk2]
              rw [hnum2] at hn
              simp only at hn
              by_cases z4 : 11 < v17
              · rw [if_pos z4] at hn; cases hn
              · omega
            · have hnum2 : numS tx (a1 + 1) 59 = none := by unfold numS; rw [if_neg (fun q => z3 q.1)]
              rw [hnum2] at hn; cases hn
        · have hnum : numS tx at_ 44 = none := by unfold numS; rw [if_neg (fun q => z1 q.1)]
          rw [hnum] at hn; cases hn
      · have hw := p32.mp (by omega)
        have hnum : numS tx at_ 44 = some (v1, a1 + 1) := by unfold numS; rw [if_pos ⟨by omega, by rw [hk]; exact c2⟩, ev, hk]
        have hnum2 : numS tx (a1 + 1) 59 = some (v17, a2 + 1) := by unfold numS; rw [if_pos ⟨by omega, by rw [hk2]; exact c4⟩, ev2, hk2]
        have hnote : noteS tx at_ = some (v1 * 12 + v17, a2 + 1) := by unfold noteS; rw [hnum]; simp only; rw [if_neg (by omega), hnum2]; simp only; rw [if_neg (by omega)]
        refine ex_aload_n (pc := 38) dX4_readNote_38 rfl ?_
        refine ex_iload_n (pc := 39) dX4_readNote_39 rfl ?_
        refine ex_iload_n (pc := 40) dX4_readNote_40 rfl ?_
        refine ex_callSI (as := [_, _]) (pc := 41) dX4_readNote_41 (tX6_codeOf (by omega)) lk_X4_52 ykX6_codeOf zkX6_codeOf rfl rfl (Nat.le_of_ble_eq_true rfl) ⟨by decide, by decide⟩ ⟨Nat.le_refl _, Nat.le_refl _⟩ (fun v41 w6 r41 p41 => ?_)
        obtain ⟨rfl, rfl⟩ := p41
        refine ex_callVI (as := [_]) (pc := 44) dX4_readNote_44 (lX2_numberOf hr4) lk_X4_56 ykX2_numberOf vkX2_numberOf hr4.r rfl rfl rfl (Nat.le_of_ble_eq_true rfl) ⟨by decide, by decide⟩ ⟨Nat.le_refl _, Nat.le_refl _⟩ (fun v44 w7 r44 p44 => ?_)
        obtain ⟨rfl, p44⟩ := p44
        refine ex_if_lt (pc := 47) dX4_readNote_47 (tgt := 52) (by decide) (fun c47 => ?_) (fun c47 => ?_)
        · have hnl : numL (v1 * 12 + v17) cs = -4 := numL_lt (by rw [← p44]; exact c47)
          refine ex_aload_n (pc := 52) dX4_readNote_52 rfl ?_
          refine ex_iload_n (pc := 53) dX4_readNote_53 rfl ?_
          refine ex_iload_n (pc := 54) dX4_readNote_54 rfl ?_
          refine ex_callSI (as := [_, _]) (pc := 55) dX4_readNote_55 (tX6_codeOf (by omega)) lk_X4_52 ykX6_codeOf zkX6_codeOf rfl rfl (Nat.le_of_ble_eq_true rfl) ⟨by decide, by decide⟩ ⟨Nat.le_refl _, Nat.le_refl _⟩ (fun v55 w8 r55 p55 => ?_)
          obtain ⟨rfl, rfl⟩ := p55
          by_cases hfull : cs.length < 14
          · refine ex_callVI (as := [_]) (pc := 58) dX4_readNote_58 (lX2_insert hr4 hfull) lk_X4_60 ykX2_insert vkX2_insert hr4.r rfl rfl rfl (Nat.le_of_ble_eq_true rfl) ⟨by decide, by decide⟩ ⟨Nat.le_refl _, Nat.le_refl _⟩ (fun v58 w9 r58 p58 => ?_)
            obtain ⟨rfl, p9, f9⟩ := p58
            refine ex_if_lt (pc := 61) dX4_readNote_61 (tgt := 68) (by decide) (fun c61 => by exfalso; omega) (fun c61 => ?_)
            refine ex_iconst (pc := 64) dX4_readNote_64 (by decide) ?_
            refine ex_goto (pc := 65) dX4_readNote_65 (tgt := 69) (by decide) ?_
            exact ex_zret (pc := 69) dX4_readNote_69 ⟨Or.inr rfl, Or.inl ⟨rfl, _, _, hnote, by omega, hfull, hnl, s4.fr (f9 s nrs.symm nas.symm) (f9 l nrl.symm hla), p9, fun q e1 e2 e3 => (f9 q e2 e3).trans (fr4 q e1 e2 e3)⟩⟩ rfl (Nat.le_refl _)
          · have h14 : cs.length = 14 := by have := hr4.len; omega
            refine ex_callVI (as := [_]) (pc := 58) dX4_readNote_58 (lX2_insertFull hr4 h14) lk_X4_60 ykX2_insert vkX2_insert hr4.r rfl rfl rfl (Nat.le_of_ble_eq_true rfl) ⟨by decide, by decide⟩ ⟨Nat.le_refl _, Nat.le_refl _⟩ (fun v58 w9 r58 p58 => ?_)
            obtain ⟨rfl, rfl⟩ := p58
            refine ex_if_lt (pc := 61) dX4_readNote_61 (tgt := 68) (by decide) (fun c61 => ?_) (fun c61 => by exfalso; omega)
            refine ex_iconst (pc := 68) dX4_readNote_68 (by decide) ?_
            exact ex_zret (pc := 69) dX4_readNote_69 ⟨Or.inl rfl, Or.inr ⟨rfl, fun c j hn => by omega, _, s4, hr4, fr4⟩⟩ rfl (Nat.le_refl _)
        · refine ex_iconst (pc := 50) dX4_readNote_50 (by decide) ?_
          refine ex_zret (pc := 51) dX4_readNote_51 ⟨Or.inl rfl, Or.inr ⟨rfl, fun c j hn => ?_, _, s4, hr4, fr4⟩⟩ rfl (Nat.le_refl _)
          rw [hnote] at hn
          cases hn
          omega
    · refine ex_if_eq (pc := 27) dX4_readNote_27 (tgt := 50) (by decide) (fun c27 => ?_) (fun c27 => by exfalso; omega)
      refine ex_iconst (pc := 50) dX4_readNote_50 (by decide) ?_
      refine ex_zret (pc := 51) dX4_readNote_51 ⟨Or.inl rfl, Or.inr ⟨rfl, fun c j hn => ?_, _, s3, hr3, fr3⟩⟩ rfl (Nat.le_refl _)
      exfalso
      have hnum2 : numS tx (a1 + 1) 59 = none := by unfold numS; rw [if_neg (by rw [hk2]; exact fun q => c4 q.2)]
      unfold noteS at hn
      by_cases z1 : 0 < (rdN tx at_).2
      · have hnum : numS tx at_ 44 = some (v1, a1 + 1) := by unfold numS; rw [if_pos ⟨z1, by rw [hk]; exact c2⟩, ev, hk]
        rw [hnum] at hn
        simp only at hn
        rw [hnum2] at hn
        split at hn <;> cases hn
      · have hnum : numS tx at_ 44 = none := by unfold numS; rw [if_neg (fun q => z1 q.1)]
        rw [hnum] at hn; cases hn
  · refine ex_if_ne (pc := 11) dX4_readNote_11 (tgt := 16) (by decide) (fun c11 => by exfalso; omega) (fun c11 => ?_)
    refine ex_iconst (pc := 14) dX4_readNote_14 (by decide) ?_
    refine ex_zret (pc := 15) dX4_readNote_15 ⟨Or.inl rfl, Or.inr ⟨rfl, fun c j hn => ?_, _, s1, hr1, fun q e1 _ _ => f1 q e1⟩⟩ rfl (Nat.le_refl _)
    exfalso
    have hnum : numS tx at_ 44 = none := by unfold numS; rw [if_neg (by rw [hk]; exact fun q => c2 q.2)]
    unfold noteS at hn
    rw [hnum] at hn; cases hn
theorem numS_spec {tx : List Int} {i : Nat} {sg v : Int} {j : Nat} (h : numS tx i sg = some (v, j)) (hs : sg ≠ -1) : i < j ∧ j ≤ tx.length ∧ 0 ≤ v ∧ v ≤ 99 := by
  unfold numS at h
  split at h
  · rename_i q
    cases h
    have h1 : i + (rdN tx i).2 < tx.length := ch_lt (by rw [q.2]; exact hs)
    have h2 := rdN_cases tx i
    omega
  · cases h
theorem noteS_spec {tx : List Int} {i : Nat} {c : Int} {j : Nat} (h : noteS tx i = some (c, j)) : i < j ∧ j ≤ tx.length ∧ 0 ≤ c ∧ c < 240 := by
  unfold noteS at h
  split at h
  · cases h
  · rename_i tm j1 e1
    have h1 := numS_spec e1 (by decide)
    split at h
    · cases h
    · split at h
      · cases h
      · rename_i pt j2 e2
        have h2 := numS_spec e2 (by decide)
        split at h
        · cases h
        · cases h
          omega
theorem mannS_spec {tx : List Int} {i : Nat} {m : Int} {j : Nat} (h : mannS tx i = some (m, j)) : i < j ∧ j ≤ tx.length ∧ 0 ≤ m ∧ m ≤ 2 := by
  unfold mannS at h
  split at h
  · cases h
  · rename_i m1 j1 e1
    have h1 := numS_spec e1 (by decide)
    split at h
    · cases h
    · cases h
      omega
/-- one item of the text: what is read then, and where it goes on -/
def itemS (tx : List Int) (i : Nat) (cs : List Int) (mo : Int) : Option (List Int × Int × Nat) :=
  if ch tx i = 110 then (match noteS tx (i + 1) with
    | none => none
    | some (c, j) => if cs.length < 14 ∧ numL c cs = -4 then some (insL c cs, mo, j) else none)
  else if ch tx i = 109 then (match mannS tx (i + 1) with
    | none => none
    | some (m, j) => some (cs, m, j))
  else none
def rdS (tx : List Int) : Nat → Nat → List Int → Int → Int × List Int × Int
  | 0, _, cs, m => (-4, cs, m)
  | d + 1, i, cs, m => if i < tx.length then (match itemS tx i cs m with
    | none => ((i : Int), cs, m)
    | some (cs2, m2, j) => rdS tx d j cs2 m2) else (-4, cs, m)
theorem Cod_ins {c : Int} {cs : List Int} (h : Cod cs) (hc : 0 ≤ c ∧ c < 240) : Cod (insL c cs) := by
  intro i hi
  rw [← ins_L (f := fun i => cs.getD i 0) (fun _ _ => rfl) i hi]
  rw [insL_len] at hi
  unfold insF
  split
  · rename_i q
    have := posL_le c cs
    exact h i (by omega)
  · split
    · exact hc
    · rw [if_pos (by omega)]
      exact h (i - 1) (by omega)
theorem itemS_spec {tx : List Int} {i : Nat} {cs cs2 : List Int} {mo m2 : Int} {j : Nat} (h : itemS tx i cs mo = some (cs2, m2, j)) (h1 : Cod cs) (h2 : 0 ≤ mo ∧ mo ≤ 2) (h3 : cs.length ≤ 14) : i < j ∧ j ≤ tx.length ∧ Cod cs2 ∧ (0 ≤ m2 ∧ m2 ≤ 2) ∧ cs2.length ≤ 14 := by
  unfold itemS at h
  split at h
  · split at h
    · cases h
    · rename_i c j1 e1
      have q := noteS_spec e1
      split at h
      · rename_i q2
        cases h
        exact ⟨by omega, by omega, Cod_ins h1 q.2.2, h2, by rw [insL_len]; omega⟩
      · cases h
  · split at h
    · split at h
      · cases h
      · rename_i m j1 e1
        have q := mannS_spec e1
        cases h
        exact ⟨by omega, by omega, h1, q.2.2, h3⟩
    · cases h
abbrev mX4_readItem : xC := mkC yX4_readItem cX4_readItem 2 (some .boolean) 4 400 0 0
set_option maxHeartbeats 4000000 in
set_option maxRecDepth 100000 in
theorem tX4_readItem {n : Nat} {w : xW} {s l r a at_ : Nat} {tx cs : List Int} {mo : Int} (hs : ScAt w s l tx at_) (hp : PcAt w r a cs mo) (hla : l ≠ a) (hat : at_ ≤ tx.length) : Ctr mX4_readItem [xr s, xr r] n w (pZ (fun v w2 => (v = 1 ∧ ∃ (cs2 : List Int) (m2 : Int) (j : Nat), itemS tx at_ cs mo = some (cs2, m2, j) ∧ j ≤ tx.length ∧ ScAt w2 s l tx j ∧ PcAt w2 r a cs2 m2 ∧ Fr3 w w2 s r a) ∨ (v = 0 ∧ (itemS tx at_ cs mo = none) ∧ ∃ b : Nat, ScAt w2 s l tx b ∧ PcAt w2 r a cs mo ∧ Fr3 w w2 s r a))) := by
  refine Ctr.of ykX4_readItem rfl (Nat.le_of_ble_eq_true rfl) okZ (fun hin hW => ?_)
  show Ex _ _ 0 0 n w 0 [some (xr s), some (xr r)] []
  obtain ⟨nrs, nas, nrl⟩ := hp.neS hs
  have nls := hs.ne
  have nar := hp.ne
  have h_s := hs.s
  have h_r := hp.r
  refine ex_aload_n (pc := 0) dX4_readItem_0 rfl ?_
  refine ex_bipush (pc := 1) dX4_readItem_1 (by decide) ?_
  refine ex_callVZ (as := [_]) (pc := 3) dX4_readItem_3 (lX4_skip hs hat (by omega)) lk_X4_34 ykX4_skip vkX4_skip h_s rfl rfl rfl (Nat.le_of_ble_eq_true rfl) ⟨by decide, by decide⟩ ⟨Nat.le_refl _, Nat.le_refl _⟩ (fun v3 w1 r3 p3 => ?_)
  rcases p3 with ⟨rfl, b1, c1, s1, f1⟩ | ⟨rfl, c1, rfl⟩
  · refine ex_if_eq (pc := 6) dX4_readItem_6 (tgt := 15) (by decide) (fun c6 => by exfalso; omega) (fun c6 => ?_)
    have hr1 : PcAt w1 r a cs mo := hp.fr (f1 r nrs) (f1 a nas)
    refine ex_aload_n (pc := 9) dX4_readItem_9 rfl ?_
    refine ex_aload_n (pc := 10) dX4_readItem_10 rfl ?_
    refine ex_callVZ (as := [_]) (pc := 11) dX4_readItem_11 (tX4_readNote s1 hr1 hla (by omega)) lk_X4_38 ykX4_readNote vkX4_readNote s1.s rfl rfl rfl (Nat.le_of_ble_eq_true rfl) ⟨by decide, by decide⟩ ⟨Nat.le_refl _, Nat.le_refl _⟩ (fun v11 w2 r11 p11 => ?_)
    refine ex_zret (pc := 14) dX4_readItem_14 ⟨r11, ?_⟩ rfl (Nat.le_refl _)
    have hf : ∀ w3, Fr3 w1 w3 s r a → Fr3 w w3 s r a := fun w3 h q e1 e2 e3 => (h q e1 e2 e3).trans (f1 q e1)
    rcases p11 with ⟨e, c, j, q1, q2, q3, q4, q5, q6, q7⟩ | ⟨e, q1, b, q2, q3, q4⟩
    · exact Or.inl ⟨e, _, _, j, by unfold itemS; rw [if_pos c1, q1]; exact if_pos ⟨q3, q4⟩, q2, q5, q6, hf _ q7⟩
    · refine Or.inr ⟨e, ?_, b, q2, q3, hf _ q4⟩
      unfold itemS
      rw [if_pos c1]
      cases e2 : noteS tx (at_ + 1) with
      | none => rfl
      | some x => exact if_neg (q1 x.1 x.2 e2)
  · refine ex_if_eq (pc := 6) dX4_readItem_6 (tgt := 15) (by decide) (fun c6 => ?_) (fun c6 => by exfalso; omega)
    refine ex_aload_n (pc := 15) dX4_readItem_15 rfl ?_
    refine ex_bipush (pc := 16) dX4_readItem_16 (by decide) ?_
    refine ex_callVZ (as := [_]) (pc := 18) dX4_readItem_18 (lX4_skip hs hat (by omega)) lk_X4_34 ykX4_skip vkX4_skip h_s rfl rfl rfl (Nat.le_of_ble_eq_true rfl) ⟨by decide, by decide⟩ ⟨Nat.le_refl _, Nat.le_refl _⟩ (fun v18 w2 r18 p18 => ?_)
    rcases p18 with ⟨rfl, b2, c2, s2, f2⟩ | ⟨rfl, c2, rfl⟩
    · refine ex_if_eq (pc := 21) dX4_readItem_21 (tgt := 36) (by decide) (fun c21 => by exfalso; omega) (fun c21 => ?_)
      have hr2 : PcAt w2 r a cs mo := hp.fr (f2 r nrs) (f2 a nas)
      refine ex_aload_n (pc := 24) dX4_readItem_24 rfl ?_
      refine ex_aload_n (pc := 25) dX4_readItem_25 rfl ?_
      refine ex_callVZ (as := [_]) (pc := 26) dX4_readItem_26 (tX4_readManner s2 hr2 hla (by omega)) lk_X4_41 ykX4_readManner vkX4_readManner s2.s rfl rfl rfl (Nat.le_of_ble_eq_true rfl) ⟨by decide, by decide⟩ ⟨Nat.le_refl _, Nat.le_refl _⟩ (fun v26 w3 r26 p26 => ?_)
      rcases p26 with ⟨e, m, j, q1, q2, q3, q4, q5⟩ | ⟨e, q1, b, q2, q3, q4⟩
      · refine ex_if_eq (pc := 29) dX4_readItem_29 (tgt := 36) (by decide) (fun c29 => by exfalso; omega) (fun c29 => ?_)
        refine ex_iconst (pc := 32) dX4_readItem_32 (by decide) ?_
        refine ex_goto (pc := 33) dX4_readItem_33 (tgt := 37) (by decide) ?_
        refine ex_zret (pc := 37) dX4_readItem_37 ⟨Or.inr rfl, Or.inl ⟨rfl, cs, m, j, ?_, q2, q3, q4, fun q e1 e2 e3 => (q5 q e1 e2 e3).trans (f2 q e1)⟩⟩ rfl (Nat.le_refl _)
        unfold itemS
        rw [if_neg c1, if_pos c2, q1]
      · refine ex_if_eq (pc := 29) dX4_readItem_29 (tgt := 36) (by decide) (fun c29 => ?_) (fun c29 => by exfalso; omega)
        refine ex_iconst (pc := 36) dX4_readItem_36 (by decide) ?_
        refine ex_zret (pc := 37) dX4_readItem_37 ⟨Or.inl rfl, Or.inr ⟨rfl, ?_, b, q2, q3, fun q e1 e2 e3 => (q4 q e1 e2 e3).trans (f2 q e1)⟩⟩ rfl (Nat.le_refl _)
        unfold itemS
        rw [if_neg c1, if_pos c2, q1]
    · refine ex_if_eq (pc := 21) dX4_readItem_21 (tgt := 36) (by decide) (fun c21 => ?_) (fun c21 => by exfalso; omega)
      refine ex_iconst (pc := 36) dX4_readItem_36 (by decide) ?_
      refine ex_zret (pc := 37) dX4_readItem_37 ⟨Or.inl rfl, Or.inr ⟨rfl, ?_, _, hs, hp, fun q _ _ _ => rfl⟩⟩ rfl (Nat.le_refl _)
      unfold itemS
      rw [if_neg c1, if_neg c2]
abbrev mX4_readInto : xC := mkC yX4_readInto cX4_readInto 4 (some .int) 5 500 0 0
set_option maxHeartbeats 4000000 in
set_option maxRecDepth 100000 in
theorem tX4_readInto {n : Nat} {w0 : xW} {s l r a at_ : Nat} {tx : List Int} {u1 u2 : Int} {f : Nat → Int} (hs : ScAt w0 s l tx at_) (h_r : w0 r = xO 2 [xr a, xi u1, xi u2]) (h_a : w0 a = xA 14 f) (hla : l ≠ a) {RS : Int × List Int × Int} (hRS : rdS tx 200 0 [] 0 = RS) : Ctr mX4_readInto [xr s, xr r] n w0 (pI (fun v w2 => v = RS.1 ∧ PcAt w2 r a RS.2.1 RS.2.2 ∧ Cod RS.2.1 ∧ (0 ≤ RS.2.2 ∧ RS.2.2 ≤ 2) ∧ (∃ b : Nat, ScAt w2 s l tx b) ∧ Fr3 w0 w2 s r a)) := by
  refine Ctr.of ykX4_readInto rfl (Nat.le_of_ble_eq_true rfl) okI (fun hin hW => ?_)
  have loop : ∀ (d k : Nat), k ≤ 200 → 200 ≤ k + d → ∀ (w : xW) (i : Nat) (cs : List Int) (mo : Int) (x3 : Option xV), i ≤ tx.length → k ≤ i → ScAt w s l tx i → PcAt w r a cs mo → Cod cs → (0 ≤ mo ∧ mo ≤ 2) → Fr3 w0 w s r a → rdS tx d i cs mo = RS → Ex mX4_readInto (pI (fun v w2 => v = RS.1 ∧ PcAt w2 r a RS.2.1 RS.2.2 ∧ Cod RS.2.1 ∧ (0 ≤ RS.2.2 ∧ RS.2.2 ≤ 2) ∧ (∃ b : Nat, ScAt w2 s l tx b) ∧ Fr3 w0 w2 s r a)) 0 0 n w 17 [some (xr s), some (xr r), some (xi k), x3] [] := by
    intro d
    induction d with
    | zero =>
      intro k h1 h2 w i cs mo x3 hi hki hs hp hc hm hf he
      refine ex_iload_n (pc := 17) dX4_readInto_17 rfl ?_
      refine ex_sipush (pc := 18) dX4_readInto_18 (by decide) ?_
      refine ex_icmp_ge (pc := 21) dX4_readInto_21 (tgt := 56) (by decide) (fun c21 => ?_) (fun c21 => by exfalso; omega)
      refine ex_bipush (pc := 56) dX4_readInto_56 (by decide) ?_
      rw [← he]
      exact ex_iret (pc := 58) dX4_readInto_58 ⟨rfl, hp, hc, hm, ⟨i, hs⟩, hf⟩ rfl (Nat.le_refl _)
    | succ d ih =>
      intro k h1 h2 w i cs mo x3 hi hki hs hp hc hm hf he
      have hlen : tx.length ≤ 200 := by obtain ⟨t, -, -, -, q⟩ := hs; exact q
      obtain ⟨nrs, nas, nrl⟩ := hp.neS hs
      have h_s := hs.s
      refine ex_iload_n (pc := 17) dX4_readInto_17 rfl ?_
      refine ex_sipush (pc := 18) dX4_readInto_18 (by decide) ?_
      refine ex_icmp_ge (pc := 21) dX4_readInto_21 (tgt := 56) (by decide) (fun c21 => ?_) (fun c21 => ?_)
      · have hii : ¬ i < tx.length := by omega
        unfold rdS at he
        rw [if_neg hii] at he
        refine ex_bipush (pc := 56) dX4_readInto_56 (by decide) ?_
        rw [← he]
        exact ex_iret (pc := 58) dX4_readInto_58 ⟨rfl, hp, hc, hm, ⟨i, hs⟩, hf⟩ rfl (Nat.le_refl _)
      · refine ex_aload_n (pc := 24) dX4_readInto_24 rfl ?_
        refine ex_getfield (pc := 25) dX4_readInto_25 fk_X4_27 h_s (by rfl) ?_
        refine ex_aload_n (pc := 28) dX4_readInto_28 rfl ?_
        refine ex_getfield (pc := 29) dX4_readInto_29 fk_X4_15 h_s (by rfl) ?_
        refine ex_icmp_ge (pc := 32) dX4_readInto_32 (tgt := 56) (by decide) (fun c32 => ?_) (fun c32 => ?_)
        · have hii : ¬ i < tx.length := by omega
          unfold rdS at he
          rw [if_neg hii] at he
          refine ex_bipush (pc := 56) dX4_readInto_56 (by decide) ?_
          rw [← he]
          exact ex_iret (pc := 58) dX4_readInto_58 ⟨rfl, hp, hc, hm, ⟨i, hs⟩, hf⟩ rfl (Nat.le_refl _)
        · have hii : i < tx.length := by omega
          unfold rdS at he
          rw [if_pos hii] at he
          refine ex_aload_n (pc := 35) dX4_readInto_35 rfl ?_
          refine ex_getfield (pc := 36) dX4_readInto_36 fk_X4_27 h_s (by rfl) ?_
          refine ex_istore_n (L2 := [_, _, _, _]) (pc := 39) dX4_readInto_39 rfl (Nat.le_of_ble_eq_true rfl) rfl ?_
          refine ex_aload_n (pc := 40) dX4_readInto_40 rfl ?_
          refine ex_aload_n (pc := 41) dX4_readInto_41 rfl ?_
          refine ex_callVZ (as := [_]) (pc := 42) dX4_readInto_42 (tX4_readItem hs hp hla hi) lk_X4_30 ykX4_readItem vkX4_readItem h_s rfl rfl rfl (Nat.le_of_ble_eq_true rfl) ⟨by decide, by decide⟩ ⟨Nat.le_refl _, Nat.le_refl _⟩ (fun v42 w2 r42 p42 => ?_)
          rcases p42 with ⟨e, cs2, m2, j, q1, q2, q3, q4, q5⟩ | ⟨e, q1, b, q2, q3, q4⟩
          · refine ex_if_ne (pc := 45) dX4_readInto_45 (tgt := 50) (by decide) (fun c45 => ?_) (fun c45 => by exfalso; omega)
            rw [q1] at he
            have hsp := itemS_spec q1 hc hm hp.len
            refine ex_iinc (L2 := [_, _, _, _]) (pc := 50) dX4_readInto_50 rfl rfl (Nat.le_of_ble_eq_true rfl) (by unfold inI; omega) rfl ?_
            refine ex_goto (pc := 53) dX4_readInto_53 (tgt := 17) (by decide) ?_
            exact ih (k + 1) (by omega) (by omega) w2 j cs2 m2 _ q2 (by omega) q3 q4 hsp.2.2.1 hsp.2.2.2.1 (fun q e1 e2 e3 => (q5 q e1 e2 e3).trans (hf q e1 e2 e3)) he
          · refine ex_if_ne (pc := 45) dX4_readInto_45 (tgt := 50) (by decide) (fun c45 => by exfalso; omega) (fun c45 => ?_)
            rw [q1] at he
            refine ex_iload_n (pc := 48) dX4_readInto_48 rfl ?_
            rw [← he]
            refine ex_iret (pc := 49) dX4_readInto_49 ⟨rfl, q3, hc, hm, ?_, fun q e1 e2 e3 => (q4 q e1 e2 e3).trans (hf q e1 e2 e3)⟩ rfl (Nat.le_refl _)
            exact ⟨b, q2⟩
  show Ex _ _ 0 0 n w0 0 [some (xr s), some (xr r), none, none] []
  have hs0 := hs
  obtain ⟨t, h_s, h_l, ht, hlen⟩ := hs
  have nrs : r ≠ s := by rintro rfl; rw [h_r] at h_s; cases h_s
  have nar : a ≠ r := by rintro rfl; rw [h_a] at h_r; cases h_r
  have nas : a ≠ s := by rintro rfl; rw [h_a] at h_s; cases h_s
  have nls : l ≠ s := by rintro rfl; rw [h_l] at h_s; cases h_s
  have nlr : l ≠ r := by rintro rfl; rw [h_l] at h_r; cases h_r
  have nsr : s ≠ r := fun q => nrs q.symm
  have nra : r ≠ a := fun q => nar q.symm
  have nrl : r ≠ l := fun q => nlr q.symm
  refine ex_aload_n (pc := 0) dX4_readInto_0 rfl ?_
  refine ex_iconst (pc := 1) dX4_readInto_1 (by decide) ?_
  refine ex_putA (pc := 2) dX4_readInto_2 fk_X4_19 (ty := tyX2 1) (fun _ _ _ h9 => by cases h9; exact ⟨tyX2_ok 1 (by decide), rfl⟩) h_r (Nat.le_of_ble_eq_true rfl) (fun _ => rfl) (fun _ => rfl) ?_
  refine ex_up (fun w1 e_w1 => ?_)
  have h1_s := ((congrFun e_w1 s).trans (up_n (by first | assumption | decide | omega))).trans h_s
  have h1_l := ((congrFun e_w1 l).trans (up_n (by first | assumption | decide | omega))).trans h_l
  have h1_r := (congrFun e_w1 r).trans up_s
  have h1_a := ((congrFun e_w1 a).trans (up_n (by first | assumption | decide | omega))).trans h_a
  refine ex_aload_n (pc := 5) dX4_readInto_5 rfl ?_
  refine ex_iconst (pc := 6) dX4_readInto_6 (by decide) ?_
  refine ex_putA (pc := 7) dX4_readInto_7 fk_X4_24 (ty := tyX2 2) (fun _ _ _ h9 => by cases h9; exact ⟨tyX2_ok 2 (by decide), rfl⟩) h1_r (Nat.le_of_ble_eq_true rfl) (fun _ => rfl) (fun _ => rfl) ?_
  refine ex_up (fun w2 e_w2 => ?_)
  have h2_s := ((congrFun e_w2 s).trans (up_n (by first | assumption | decide | omega))).trans h1_s
  have h2_l := ((congrFun e_w2 l).trans (up_n (by first | assumption | decide | omega))).trans h1_l
  have h2_r := (congrFun e_w2 r).trans up_s
  have h2_a := ((congrFun e_w2 a).trans (up_n (by first | assumption | decide | omega))).trans h1_a
  refine ex_aload_n (pc := 10) dX4_readInto_10 rfl ?_
  refine ex_iconst (pc := 11) dX4_readInto_11 (by decide) ?_
  refine ex_putA (pc := 12) dX4_readInto_12 fk_X4_27 (ty := tyX4 2) (fun _ _ _ h9 => by cases h9; exact ⟨tyX4_ok 2 (by decide), rfl⟩) h2_s (Nat.le_of_ble_eq_true rfl) (fun _ => rfl) (fun _ => rfl) ?_
  refine ex_up (fun w3 e_w3 => ?_)
  have h3_s := (congrFun e_w3 s).trans up_s
  have h3_l := ((congrFun e_w3 l).trans (up_n (by first | assumption | decide | omega))).trans h2_l
  have h3_r := ((congrFun e_w3 r).trans (up_n (by first | assumption | decide | omega))).trans h2_r
  have h3_a := ((congrFun e_w3 a).trans (up_n (by first | assumption | decide | omega))).trans h2_a
  refine ex_iconst (pc := 15) dX4_readInto_15 (by decide) ?_
  refine ex_istore_n (L2 := [_, _, _, _]) (pc := 16) dX4_readInto_16 rfl (Nat.le_of_ble_eq_true rfl) rfl ?_
  have hP : PcAt w3 r a [] 0 := ⟨f, h3_r, h3_a, (fun i hi => absurd hi (Nat.not_lt_zero _)), by decide⟩
  have hS : ScAt w3 s l tx 0 := ⟨t, h3_s, h3_l, ht, hlen⟩
  exact loop 200 0 (by omega) (by omega) w3 0 [] 0 _ (by omega) (by omega) hS hP (fun i hi => absurd hi (Nat.not_lt_zero _)) (by omega) (fun q e1 e2 e3 => by rw [e_w3, up_n e1, e_w2, up_n e2, e_w1, up_n e2]) hRS
