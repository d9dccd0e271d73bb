/-! ===== piles: an object of a pile at b, its row of references at b + 1, its pieces at b + 2 + 2 k (codes behind each) ===== -/
/-- ps: for each place of the row the number of the piece that lies there, a rearrangement of 0 .. M - 1 -/
def PiX (w : xW) (b M sz : Nat) (ps : Nat → Nat) : Prop := w b = xO 3 [xr (b + 1), xi sz] ∧ w (b + 1) = xQ M (fun i => some (b + 2 + 2 * ps i)) ∧ (∀ i, i < M → ps i < M) ∧ (∀ i j, i < M → j < M → ps i = ps j → i = j) ∧ (∀ k, k < M → ∃ (u1 u2 : Int) (f : Nat → Int), w (b + 2 + 2 * k) = xO 2 [xr (b + 3 + 2 * k), xi u1, xi u2] ∧ w (b + 3 + 2 * k) = xA 14 f) ∧ sz ≤ M
/-- the pieces that lie on a pile -/
def PiAt (w : xW) (b M : Nat) (S : List (List Int × Int)) : Prop := ∃ ps : Nat → Nat, PiX w b M S.length ps ∧ ∀ i, i < S.length → PcAt w (b + 2 + 2 * ps i) (b + 3 + 2 * ps i) (S.getD i ([], 0)).1 (S.getD i ([], 0)).2
theorem PiX.fr {w w2 : xW} {b M sz : Nat} {ps : Nat → Nat} (h : PiX w b M sz ps) (hf : ∀ z, b ≤ z → z < b + 2 + 2 * M → w2 z = w z) (hM : 0 < M) : PiX w2 b M sz ps := by
  obtain ⟨h1, h2, h3, h4, h5, h6⟩ := h
  refine ⟨(hf _ (by omega) (by omega)).trans h1, (hf _ (by omega) (by omega)).trans h2, h3, h4, fun k hk => ?_, h6⟩
  obtain ⟨u1, u2, f, g1, g2⟩ := h5 k hk
  exact ⟨u1, u2, f, (hf _ (by omega) (by omega)).trans g1, (hf _ (by omega) (by omega)).trans g2⟩
theorem PiAt.fr {w w2 : xW} {b M : Nat} {S : List (List Int × Int)} (h : PiAt w b M S) (hf : ∀ z, b ≤ z → z < b + 2 + 2 * M → w2 z = w z) (hM : 0 < M) : PiAt w2 b M S := by
  obtain ⟨ps, h1, h2⟩ := h
  refine ⟨ps, h1.fr hf hM, fun i hi => ?_⟩
  have h3 := h1.2.2.1 i (by have := h1.2.2.2.2.2; omega)
  exact (h2 i hi).fr (hf _ (by omega) (by omega)) (hf _ (by omega) (by omega))
theorem PiAt.b {w : xW} {b M : Nat} {S : List (List Int × Int)} (h : PiAt w b M S) : w b = xO 3 [xr (b + 1), xi S.length] := by
  obtain ⟨ps, h1, -⟩ := h; exact h1.1
theorem PiAt.len {w : xW} {b M : Nat} {S : List (List Int × Int)} (h : PiAt w b M S) : S.length ≤ M := by
  obtain ⟨ps, h1, -⟩ := h; exact h1.2.2.2.2.2
abbrev mX3_dropOldest : xC := mkC yX3_dropOldest cX3_dropOldest 3 none 1 100 0 0
set_option maxHeartbeats 4000000 in
set_option maxRecDepth 100000 in
theorem tX3_dropOldest {n : Nat} {W : xW} {b M sz : Nat} {ps : Nat → Nat} (h : PiX W b M sz ps) (hM : 0 < M) (hM2 : M < 1000) : Ctr mX3_dropOldest [xr b] n W (pV (fun w2 => w2 = va_up (va_up W (b + 1) (xQ M (fun i => some (b + 2 + 2 * (if i + 1 < M then ps (i + 1) else if i + 1 = M then ps 0 else ps i))))) b (xO 3 [xr (b + 1), xi (M - 1 : Nat)]))) := by
  refine Ctr.of ykX3_dropOldest rfl (Nat.le_of_ble_eq_true rfl) okV (fun hin hW => ?_)
  obtain ⟨h_b, h_g, h3, h4, h5, h6⟩ := h
  have hpc : ∀ k, k < M → ∃ u1 u2 : Int, W (b + 2 + 2 * ps k) = xO 2 [xr (b + 3 + 2 * ps k), xi u1, xi u2] := fun k hk => by
    obtain ⟨u1, u2, f, g1, -⟩ := h5 (ps k) (h3 k hk)
    exact ⟨u1, u2, g1⟩
  obtain ⟨o1, o2, h_o⟩ := hpc 0 hM
  have loop : ∀ (d k : Nat), 1 ≤ k → k ≤ M → M + 1 ≤ k + d → Ex mX3_dropOldest (pV (fun w2 => w2 = va_up (va_up W (b + 1) (xQ M (fun i => some (b + 2 + 2 * (if i + 1 < M then ps (i + 1) else if i + 1 = M then ps 0 else ps i))))) b (xO 3 [xr (b + 1), xi (M - 1 : Nat)]))) 0 0 n (va_up W (b + 1) (xQ M (fun i => some (b + 2 + 2 * (if i + 1 < k then ps (i + 1) else ps i))))) 9 [some (xr b), some (xr (b + 2 + 2 * ps 0)), some (xi k)] [] := by
    intro d
    induction d with
    | zero => intro k h0 h1 h2; omega
    | succ d ih =>
      intro k h0 h1 h2
      have g_b : (va_up W (b + 1) (xQ M (fun i => some (b + 2 + 2 * (if i + 1 < k then ps (i + 1) else ps i))))) b = xO 3 [xr (b + 1), xi sz] := (up_n (by omega)).trans h_b
      have g_g : (va_up W (b + 1) (xQ M (fun i => some (b + 2 + 2 * (if i + 1 < k then ps (i + 1) else ps i))))) (b + 1) = xQ M (fun i => some (b + 2 + 2 * (if i + 1 < k then ps (i + 1) else ps i))) := up_s
      refine ex_iload_n (pc := 9) dX3_dropOldest_9 rfl ?_
      refine ex_aload_n (pc := 10) dX3_dropOldest_10 rfl ?_
      refine ex_getfield (pc := 11) dX3_dropOldest_11 fk_X3_15 g_b (by rfl) ?_
      refine ex_alenQ (pc := 14) dX3_dropOldest_14 g_g (by omega) ?_
      refine ex_icmp_ge (pc := 15) dX3_dropOldest_15 (tgt := 38) (by decide) (fun c15 => ?_) (fun c15 => ?_)
      · have hkM : k = M := by omega
        refine ex_aload_n (pc := 38) dX3_dropOldest_38 rfl ?_
        refine ex_getfield (pc := 39) dX3_dropOldest_39 fk_X3_15 g_b (by rfl) ?_
        refine ex_aload_n (pc := 42) dX3_dropOldest_42 rfl ?_
        refine ex_getfield (pc := 43) dX3_dropOldest_43 fk_X3_15 g_b (by rfl) ?_
        refine ex_alenQ (pc := 46) dX3_dropOldest_46 g_g (by omega) ?_
        refine ex_iconst (pc := 47) dX3_dropOldest_47 (by decide) ?_
        refine ex_isub (pc := 48) dX3_dropOldest_48 (by unfold inI; omega) ?_
        refine ex_aload_n (pc := 49) dX3_dropOldest_49 rfl ?_
        refine ex_aastore (pc := 50) dX3_dropOldest_50 g_g ((up_n (by omega)).trans h_o) (by omega) (by omega) ?_
        rw [up_up]
        refine ex_aload_n (pc := 51) dX3_dropOldest_51 rfl ?_
        refine ex_aload_n (pc := 52) dX3_dropOldest_52 rfl ?_
        refine ex_getfield (pc := 53) dX3_dropOldest_53 fk_X3_15 ((up_n (by omega)).trans h_b) (by rfl) ?_
        refine ex_alenQ (pc := 56) dX3_dropOldest_56 up_s (by omega) ?_
        refine ex_iconst (pc := 57) dX3_dropOldest_57 (by decide) ?_
        refine ex_isub (pc := 58) dX3_dropOldest_58 (by unfold inI; omega) ?_
        refine ex_putA (pc := 59) dX3_dropOldest_59 fk_X3_22 (ty := tyX3 1) (fun _ _ _ h9 => by cases h9; exact ⟨tyX3_ok 1 (by decide), rfl⟩) ((up_n (by omega)).trans h_b) (Nat.le_of_ble_eq_true rfl) (fun _ => rfl) (fun _ => rfl) ?_
        refine ex_vret (pc := 62) dX3_dropOldest_62 ?_ rfl (Nat.le_refl _)
        have e1 : ((M : Int) - 1) = ((M - 1 : Nat) : Int) := by omega
        have e2 : ((M : Int) - 1).toNat = M - 1 := by omega
        rw [e2, e1]
        have e3 : va_up (fun i => some (b + 2 + 2 * (if i + 1 < k then ps (i + 1) else ps i))) (M - 1) (some (b + 2 + 2 * ps 0)) = (fun i => some (b + 2 + 2 * (if i + 1 < M then ps (i + 1) else if i + 1 = M then ps 0 else ps i))) := by
          funext i
          by_cases y : i = M - 1
          · rw [y, up_s, if_neg (by omega), if_pos (by omega)]
          · rw [up_n y]
            by_cases y2 : i + 1 < M
            · rw [if_pos y2, if_pos (by omega)]
            · rw [if_neg y2, if_neg (by omega), if_neg (by omega)]
        rw [e3]
        rfl
      · obtain ⟨u1, u2, h_k⟩ := hpc k (by omega)
        refine ex_aload_n (pc := 18) dX3_dropOldest_18 rfl ?_
        refine ex_getfield (pc := 19) dX3_dropOldest_19 fk_X3_15 g_b (by rfl) ?_
        refine ex_iload_n (pc := 22) dX3_dropOldest_22 rfl ?_
        refine ex_iconst (pc := 23) dX3_dropOldest_23 (by decide) ?_
        refine ex_isub (pc := 24) dX3_dropOldest_24 (by unfold inI; omega) ?_
        refine ex_aload_n (pc := 25) dX3_dropOldest_25 rfl ?_
        refine ex_getfield (pc := 26) dX3_dropOldest_26 fk_X3_15 g_b (by rfl) ?_
        refine ex_iload_n (pc := 29) dX3_dropOldest_29 rfl ?_
        have hkk : ((k : Int)).toNat = k := by omega
        have hkk1 : ((k : Int) - 1).toNat = k - 1 := by omega
        refine ex_aaload (pc := 30) dX3_dropOldest_30 g_g (by omega) (by omega) (v := b + 2 + 2 * ps k) (by rw [hkk, if_neg (by omega)]) ?_
        refine ex_aastore (pc := 31) dX3_dropOldest_31 g_g ((up_n (by omega)).trans h_k) (by omega) (by omega) ?_
        rw [up_up, hkk1]
        have e3 : va_up (fun i => some (b + 2 + 2 * (if i + 1 < k then ps (i + 1) else ps i))) (k - 1) (some (b + 2 + 2 * ps k)) = (fun i => some (b + 2 + 2 * (if i + 1 < k + 1 then ps (i + 1) else ps i))) := by
          funext i
          by_cases y : i = k - 1
          · rw [y, up_s, if_pos (by omega), show k - 1 + 1 = k by omega]
          · rw [up_n y]
            by_cases y2 : i + 1 < k
            · rw [if_pos y2, if_pos (by omega)]
            · rw [if_neg y2, if_neg (by omega)]
        rw [e3]
        refine ex_iinc (L2 := [_, _, _]) (pc := 32) dX3_dropOldest_32 rfl rfl (Nat.le_of_ble_eq_true rfl) (by unfold inI; omega) rfl ?_
        refine ex_goto (pc := 35) dX3_dropOldest_35 (tgt := 9) (by decide) ?_
        exact ih (k + 1) (by omega) (by omega) (by omega)
  show Ex _ _ 0 0 n W 0 [some (xr b), none, none] []
  refine ex_aload_n (pc := 0) dX3_dropOldest_0 rfl ?_
  refine ex_getfield (pc := 1) dX3_dropOldest_1 fk_X3_15 h_b (by rfl) ?_
  refine ex_iconst (pc := 4) dX3_dropOldest_4 (by decide) ?_
  refine ex_aaload (pc := 5) dX3_dropOldest_5 h_g (by omega) (by omega) (v := b + 2 + 2 * ps 0) rfl ?_
  refine ex_astore_n (L2 := [_, _, _]) (pc := 6) dX3_dropOldest_6 rfl (Nat.le_of_ble_eq_true rfl) rfl ?_
  refine ex_iconst (pc := 7) dX3_dropOldest_7 (by decide) ?_
  refine ex_istore_n (L2 := [_, _, _]) (pc := 8) dX3_dropOldest_8 rfl (Nat.le_of_ble_eq_true rfl) rfl ?_
  have e0 : W = va_up W (b + 1) (xQ M (fun i => some (b + 2 + 2 * (if i + 1 < 1 then ps (i + 1) else ps i)))) := (up_self h_g).symm
  rw [e0]
  have := loop (M + 1) 1 (by omega) (by omega) (by omega)
  rw [← e0] at this ⊢
  exact this
abbrev mX3_push : xC := mkC yX3_push cX3_push 2 none 2 200 0 0
set_option maxHeartbeats 4000000 in
set_option maxRecDepth 100000 in
theorem tX3_push {n : Nat} {W : xW} {b M r a : Nat} {S : List (List Int × Int)} {cs : List Int} {mo : Int} (hS : PiAt W b M S) (hp : PcAt W r a cs mo) (hM : 0 < M) (hM2 : M < 1000) (hr : r < b ∨ b + 2 + 2 * M ≤ r) (ha : a < b ∨ b + 2 + 2 * M ≤ a) : Ctr mX3_push [xr b, xr r] n W (pV (fun w2 => PiAt w2 b M (if S.length < M then S ++ [(cs, mo)] else S.tail ++ [(cs, mo)]) ∧ ∀ z, (z < b ∨ b + 2 + 2 * M ≤ z) → w2 z = W z)) := by
  refine Ctr.of ykX3_push rfl (Nat.le_of_ble_eq_true rfl) okV (fun hin hW => ?_)
  have tail : ∀ (w : xW) (T : List (List Int × Int)), PiAt w b M T → T.length < M → PcAt w r a cs mo → (∀ z, (z < b ∨ b + 2 + 2 * M ≤ z) → w z = W z) → (if S.length < M then S ++ [(cs, mo)] else S.tail ++ [(cs, mo)]) = T ++ [(cs, mo)] → Ex mX3_push (pV (fun w2 => PiAt w2 b M (if S.length < M then S ++ [(cs, mo)] else S.tail ++ [(cs, mo)]) ∧ ∀ z, (z < b ∨ b + 2 + 2 * M ≤ z) → w2 z = W z)) 0 0 n w 16 [some (xr b), some (xr r)] [] := by
    intro w T hT hl hp hfr hpush
    rw [hpush]
    obtain ⟨ps, ⟨h_b, h_g, h3, h4, h5, h6⟩, hpc⟩ := hT
    have hk : ((T.length : Int)).toNat = T.length := by omega
    have hpl := h3 T.length hl
    obtain ⟨u1, u2, f, g1, g2⟩ := h5 (ps T.length) hpl
    refine ex_aload_n (pc := 16) dX3_push_16 rfl ?_
    refine ex_getfield (pc := 17) dX3_push_17 fk_X3_15 h_b (by rfl) ?_
    refine ex_aload_n (pc := 20) dX3_push_20 rfl ?_
    refine ex_getfield (pc := 21) dX3_push_21 fk_X3_22 h_b (by rfl) ?_
    refine ex_aaload (pc := 24) dX3_push_24 h_g (by omega) (by omega) (v := b + 2 + 2 * ps T.length) (by rw [hk]) ?_
    refine ex_aload_n (pc := 25) dX3_push_25 rfl ?_
    refine ex_callVV (as := [_]) (pc := 26) dX3_push_26 (lX2_copyFrom g1 g2 hp (by omega) (by omega)) lk_X3_29 ykX2_copyFrom vkX2_copyFrom g1 rfl rfl rfl (Nat.le_of_ble_eq_true rfl) ⟨by decide, by decide⟩ ⟨Nat.le_refl _, Nat.le_refl _⟩ (fun w2 p26 => ?_)
    obtain ⟨p9, f9⟩ := p26
    have k_b := (f9 b (by omega) (by omega)).trans h_b
    refine ex_aload_n (pc := 29) dX3_push_29 rfl ?_
    refine ex_dup (pc := 30) dX3_push_30 rfl ?_
    refine ex_getfield (pc := 31) dX3_push_31 fk_X3_22 k_b (by rfl) ?_
    refine ex_iconst (pc := 34) dX3_push_34 (by decide) ?_
    refine ex_iadd (pc := 35) dX3_push_35 (by unfold inI; omega) ?_
    refine ex_putA (pc := 36) dX3_push_36 fk_X3_22 (ty := tyX3 1) (fun _ _ _ h9 => by cases h9; exact ⟨tyX3_ok 1 (by decide), rfl⟩) k_b (Nat.le_of_ble_eq_true rfl) (fun _ => rfl) (fun _ => rfl) ?_
    refine ex_vret (pc := 39) dX3_push_39 ⟨⟨ps, ⟨by rw [up_s, List.length_append]; rfl, (up_n (by omega)).trans ((f9 _ (by omega) (by omega)).trans h_g), h3, h4, fun k hk => ?_, by rw [List.length_append]; show T.length + 1 ≤ M; omega⟩, fun i hi => ?_⟩, fun z hz => (up_n (by omega)).trans ((f9 z (by omega) (by omega)).trans (hfr z hz))⟩ rfl (Nat.le_refl _)
    · by_cases y : k = ps T.length
      · subst y
        obtain ⟨f8, q1, q2, -⟩ := p9
        exact ⟨_, _, f8, (up_n (by omega)).trans q1, (up_n (by omega)).trans q2⟩
      · obtain ⟨v1, v2, f8, q1, q2⟩ := h5 k hk
        exact ⟨v1, v2, f8, (up_n (by omega)).trans ((f9 _ (by omega) (by omega)).trans q1), (up_n (by omega)).trans ((f9 _ (by omega) (by omega)).trans q2)⟩
    · rw [List.length_append] at hi
      by_cases y : i < T.length
      · rw [getD_ap1 y]
        have hne : ps i ≠ ps T.length := fun e => by have := h4 i T.length (by omega) hl e; omega
        have hpi := h3 i (by omega)
        exact (hpc i y).fr ((up_n (by omega)).trans (f9 _ (by omega) (by omega))) ((up_n (by omega)).trans (f9 _ (by omega) (by omega)))
      · have y2 : i = T.length := by simp at hi; omega
        rw [y2, getD_ap2]
        exact p9.fr (up_n (by omega)) (up_n (by omega))
  show Ex _ _ 0 0 n W 0 [some (xr b), some (xr r)] []
  have hS0 := hS
  obtain ⟨ps, ⟨h_b, h_g, h3, h4, h5, h6⟩, hpc⟩ := hS
  refine ex_aload_n (pc := 0) dX3_push_0 rfl ?_
  refine ex_getfield (pc := 1) dX3_push_1 fk_X3_22 h_b (by rfl) ?_
  refine ex_aload_n (pc := 4) dX3_push_4 rfl ?_
  refine ex_getfield (pc := 5) dX3_push_5 fk_X3_15 h_b (by rfl) ?_
  refine ex_alenQ (pc := 8) dX3_push_8 h_g (by omega) ?_
  refine ex_icmp_lt (pc := 9) dX3_push_9 (tgt := 16) (by decide) (fun c9 => ?_) (fun c9 => ?_)
  · exact tail W S hS0 (by omega) hp (fun _ _ => rfl) (if_pos (by omega))
  · have hfull : S.length = M := by omega
    refine ex_aload_n (pc := 12) dX3_push_12 rfl ?_
    refine ex_callVV (as := []) (pc := 13) dX3_push_13 (tX3_dropOldest ⟨h_b, h_g, h3, h4, h5, h6⟩ hM hM2) lk_X3_26 ykX3_dropOldest vkX3_dropOldest h_b rfl rfl rfl (Nat.le_of_ble_eq_true rfl) ⟨by decide, by decide⟩ ⟨Nat.le_refl _, Nat.le_refl _⟩ (fun w2 p13 => ?_)
    have hfr : ∀ z, z ≠ b → z ≠ b + 1 → w2 z = W z := fun z z1 z2 => by rw [p13, up_n z1, up_n z2]
    have htl : S.tail.length = M - 1 := by rw [List.length_tail, hfull]
    refine tail w2 S.tail ⟨fun i => if i + 1 < M then ps (i + 1) else if i + 1 = M then ps 0 else ps i, ⟨by rw [p13, up_s, htl], by rw [p13, up_n (by omega), up_s], fun i hi => ?_, fun i j hi hj e => ?_, fun k hk => ?_, by omega⟩, fun i hi => ?_⟩ (by omega) (hp.fr (hfr r (by omega) (by omega)) (hfr a (by omega) (by omega))) (fun z hz => hfr z (by omega) (by omega)) (if_neg (by omega))
    · show (if i + 1 < M then ps (i + 1) else if i + 1 = M then ps 0 else ps i) < M
      split
      · exact h3 _ (by omega)
      · split
        · exact h3 _ hM
        · exact h3 _ hi
    · have e : (if i + 1 < M then ps (i + 1) else if i + 1 = M then ps 0 else ps i) = (if j + 1 < M then ps (j + 1) else if j + 1 = M then ps 0 else ps j) := e
      by_cases y1 : i + 1 < M
      · rw [if_pos y1] at e
        by_cases y2 : j + 1 < M
        · rw [if_pos y2] at e
          have := h4 _ _ y1 y2 e; omega
        · rw [if_neg y2, if_pos (by omega)] at e
          have := h4 _ _ y1 hM e; omega
      · rw [if_neg y1, if_pos (by omega)] at e
        by_cases y2 : j + 1 < M
        · rw [if_pos y2] at e
          have := h4 _ _ hM y2 e; omega
        · omega
    · obtain ⟨v1, v2, f8, q1, q2⟩ := h5 k hk
      exact ⟨v1, v2, f8, (hfr _ (by omega) (by omega)).trans q1, (hfr _ (by omega) (by omega)).trans q2⟩
    · have hi2 : i + 1 < M := by omega
      show PcAt w2 (b + 2 + 2 * (if i + 1 < M then ps (i + 1) else if i + 1 = M then ps 0 else ps i)) (b + 3 + 2 * (if i + 1 < M then ps (i + 1) else if i + 1 = M then ps 0 else ps i)) _ _
      rw [if_pos hi2]
      have e1 : S.tail.getD i ([], 0) = S.getD (i + 1) ([], 0) := by cases S <;> simp [List.getD]
      rw [e1]
      exact (hpc (i + 1) (by omega)).fr (hfr _ (by omega) (by omega)) (hfr _ (by omega) (by omega))
abbrev mX3_popInto : xC := mkC yX3_popInto cX3_popInto 2 none 2 200 0 0
set_option maxHeartbeats 4000000 in
set_option maxRecDepth 100000 in
theorem tX3_popInto {n : Nat} {W : xW} {b M r a : Nat} {S : List (List Int × Int)} {x : List Int × Int} {u1 u2 : xV} {g : Nat → Int} (hS : PiAt W b M (S ++ [x])) (h_r : W r = xO 2 [xr a, u1, u2]) (h_a : W a = xA 14 g) (hM : 0 < M) (hM2 : M < 1000) (hr : r < b ∨ b + 2 + 2 * M ≤ r) (ha : a < b ∨ b + 2 + 2 * M ≤ a) : Ctr mX3_popInto [xr b, xr r] n W (pV (fun w2 => PiAt w2 b M S ∧ PcAt w2 r a x.1 x.2 ∧ ∀ z, z ≠ b → z ≠ r → z ≠ a → w2 z = W z)) := by
  refine Ctr.of ykX3_popInto rfl (Nat.le_of_ble_eq_true rfl) okV (fun hin hW => ?_)
  show Ex _ _ 0 0 n W 0 [some (xr b), some (xr r)] []
  obtain ⟨ps, ⟨h_b, h_g, h3, h4, h5, h6⟩, hpc⟩ := hS
  have hlen : (S ++ [x]).length = S.length + 1 := by rw [List.length_append]; rfl
  rw [hlen] at h_b h6 hpc
  refine ex_aload_n (pc := 0) dX3_popInto_0 rfl ?_
  refine ex_getfield (pc := 1) dX3_popInto_1 fk_X3_22 h_b (by rfl) ?_
  refine ex_if_le (pc := 4) dX3_popInto_4 (tgt := 30) (by decide) (fun c4 => by exfalso; omega) (fun c4 => ?_)
  refine ex_aload_n (pc := 7) dX3_popInto_7 rfl ?_
  refine ex_dup (pc := 8) dX3_popInto_8 rfl ?_
  refine ex_getfield (pc := 9) dX3_popInto_9 fk_X3_22 h_b (by rfl) ?_
  refine ex_iconst (pc := 12) dX3_popInto_12 (by decide) ?_
  refine ex_isub (pc := 13) dX3_popInto_13 (by unfold inI; omega) ?_
  rw [show (((S.length + 1 : Nat) : Int) - 1) = (S.length : Int) by omega]
  refine ex_putA (pc := 14) dX3_popInto_14 fk_X3_22 (ty := tyX3 1) (fun _ _ _ h9 => by cases h9; exact ⟨tyX3_ok 1 (by decide), rfl⟩) h_b (Nat.le_of_ble_eq_true rfl) (fun _ => rfl) (fun _ => rfl) ?_
  refine ex_up (fun w1 e_w1 => ?_)
  have k_b := (congrFun e_w1 b).trans up_s
  have kf : ∀ z, z ≠ b → w1 z = W z := fun z hz => (congrFun e_w1 z).trans (up_n hz)
  have hk : ((S.length : Int)).toNat = S.length := by omega
  have hpl := h3 S.length (by omega)
  have hx : PcAt w1 (b + 2 + 2 * ps S.length) (b + 3 + 2 * ps S.length) x.1 x.2 := by
    have := hpc S.length (by omega)
    rw [getD_ap2] at this
    exact this.fr (kf _ (by omega)) (kf _ (by omega))
  refine ex_aload_n (pc := 17) dX3_popInto_17 rfl ?_
  refine ex_aload_n (pc := 18) dX3_popInto_18 rfl ?_
  refine ex_getfield (pc := 19) dX3_popInto_19 fk_X3_15 k_b (by rfl) ?_
  refine ex_aload_n (pc := 22) dX3_popInto_22 rfl ?_
  refine ex_getfield (pc := 23) dX3_popInto_23 fk_X3_22 k_b (by rfl) ?_
  refine ex_aaload (pc := 26) dX3_popInto_26 ((kf _ (by omega)).trans h_g) (by omega) (by omega) (v := b + 2 + 2 * ps S.length) (by rw [hk]) ?_
  have kr := (kf r (by omega)).trans h_r
  refine ex_callVV (as := [_]) (pc := 27) dX3_popInto_27 (lX2_copyFrom kr ((kf a (by omega)).trans h_a) hx (by omega) (by omega)) lk_X3_29 ykX2_copyFrom vkX2_copyFrom kr rfl rfl rfl (Nat.le_of_ble_eq_true rfl) ⟨by decide, by decide⟩ ⟨Nat.le_refl _, Nat.le_refl _⟩ (fun w2 p27 => ?_)
  obtain ⟨p9, f9⟩ := p27
  refine ex_vret (pc := 30) dX3_popInto_30 ⟨⟨ps, ⟨(f9 b (by omega) (by omega)).trans k_b, (f9 _ (by omega) (by omega)).trans ((kf _ (by omega)).trans h_g), h3, h4, fun k hk => ?_, by omega⟩, fun i hi => ?_⟩, p9, fun z z1 z2 z3 => (f9 z z2 z3).trans (kf z z1)⟩ rfl (Nat.le_refl _)
  · obtain ⟨v1, v2, f8, q1, q2⟩ := h5 k hk
    exact ⟨v1, v2, f8, (f9 _ (by omega) (by omega)).trans ((kf _ (by omega)).trans q1), (f9 _ (by omega) (by omega)).trans ((kf _ (by omega)).trans q2)⟩
  · have h8 := hpc i (by omega)
    rw [getD_ap1 hi] at h8
    have hpi := h3 i (by omega)
    exact h8.fr ((f9 _ (by omega) (by omega)).trans (kf _ (by omega))) ((f9 _ (by omega) (by omega)).trans (kf _ (by omega)))
