abbrev ptO (t : Nat) (sz rest price : Int) : xE := xO 1 [xr (t + 1), xr (t + 2), xr (t + 3), xi sz, xi rest, xi price]
def PtX (w : xW) (t : Nat) : Prop := ∃ (a b c : Int) (f g h : Nat → Int), w t = ptO t a b c ∧ w (t + 1) = xA 14 f ∧ w (t + 2) = xA 14 g ∧ w (t + 3) = xA 14 h
def PtAt (w : xW) (t : Nat) (L : List (Nat × Nat × Nat)) (rest : Nat) (price : Int) : Prop := ∃ (f g h : Nat → Int), w t = ptO t L.length rest price ∧ w (t + 1) = xA 14 f ∧ w (t + 2) = xA 14 g ∧ w (t + 3) = xA 14 h ∧ ∀ i, i < L.length → f i = ((L.getD i (0, 0, 0)).1 : Int) ∧ g i = ((L.getD i (0, 0, 0)).2.1 : Int) ∧ h i = ((L.getD i (0, 0, 0)).2.2 : Int)
theorem PtAt.X {w : xW} {t : Nat} {L : List (Nat × Nat × Nat)} {rest : Nat} {price : Int} (h : PtAt w t L rest price) : PtX w t := by
  obtain ⟨f, g, h, h1, h2, h3, h4, -⟩ := h
  exact ⟨_, _, _, f, g, h, h1, h2, h3, h4⟩
theorem PtX.fr {w w2 : xW} {t : Nat} (h : PtX w t) (hf : ∀ z, t ≤ z → z ≤ t + 3 → w2 z = w z) : PtX w2 t := by
  obtain ⟨a, b, c, f, g, h, h1, h2, h3, h4⟩ := h
  exact ⟨a, b, c, f, g, h, (hf _ (by omega) (by omega)).trans h1, (hf _ (by omega) (by omega)).trans h2, (hf _ (by omega) (by omega)).trans h3, (hf _ (by omega) (by omega)).trans h4⟩
theorem PtAt.fr {w w2 : xW} {t : Nat} {L : List (Nat × Nat × Nat)} {rest : Nat} {price : Int} (h : PtAt w t L rest price) (hf : ∀ z, t ≤ z → z ≤ t + 3 → w2 z = w z) : PtAt w2 t L rest price := by
  obtain ⟨f, g, h, h1, h2, h3, h4, h5⟩ := h
  exact ⟨f, g, h, (hf _ (by omega) (by omega)).trans h1, (hf _ (by omega) (by omega)).trans h2, (hf _ (by omega) (by omega)).trans h3, (hf _ (by omega) (by omega)).trans h4, h5⟩
def ptN (cs : List Int) (mo : Int) (rest : Nat) : Nat := (shL cs mo rest).getD (bestS cs mo rest).toNat 0
def ptS (cs : List Int) (mo : Int) : Nat → Nat → List (Nat × Nat × Nat) → Int → List (Nat × Nat × Nat) × Nat × Int
  | 0, rest, acc, pc => (acc, rest, pc)
  | d + 1, rest, acc, pc => if 0 ≤ bestS cs mo rest ∧ 0 < gI cs mo rest (bestS cs mo rest).toNat then ptS cs mo d (dif rest (pcS cs mo rest (ptN cs mo rest)).2) (acc ++ [(ptN cs mo rest, (pcS cs mo rest (ptN cs mo rest)).1, (pcS cs mo rest (ptN cs mo rest)).2)]) (pc + (pc14 (ptN cs mo rest) + (pcS cs mo rest (ptN cs mo rest)).1 - 1)) else (acc, rest, pc)
theorem getD_ap1 {α : Type} {L : List α} {x d : α} {i : Nat} (h : i < L.length) : (L ++ [x]).getD i d = L.getD i d := by simp [List.getD, List.getElem?_append_left h]
theorem getD_ap2 {α : Type} {L : List α} {x d : α} : (L ++ [x]).getD L.length d = x := by simp [List.getD]
abbrev mX1_setAside : xC := mkC yX1_setAside cX1_setAside 3 none 2 200 0 0
set_option maxHeartbeats 4000000 in
set_option maxRecDepth 100000 in
theorem tX1_setAside {n : Nat} {w : xW} {q t : Nat} {cs : List Int} {mo : Int} {pr : Nat} {L : List (Nat × Nat × Nat)} {rest : Nat} {pc : Int} (hs : SeAt w q cs mo pr) (ht : PtAt w t L rest pc) (hl : cs.length ≤ 14) (hL : L.length < 14) (hr : rest < 16384) (hpc : -100000 ≤ pc ∧ pc ≤ 100000) (hqt : q + 8 < t ∨ t + 3 < q) {k : Nat} (hk : k < (shL cs mo pr).length) : Ctr mX1_setAside [xr t, xr q, xi k] n w (pV (fun w2 => PtAt w2 t (L ++ [((shL cs mo pr).getD k 0, (pcS cs mo pr ((shL cs mo pr).getD k 0)).1, (pcS cs mo pr ((shL cs mo pr).getD k 0)).2)]) (dif rest (pcS cs mo pr ((shL cs mo pr).getD k 0)).2) (pc + (pc14 ((shL cs mo pr).getD k 0) + (pcS cs mo pr ((shL cs mo pr).getD k 0)).1 - 1)) ∧ ∀ z, (z < t ∨ t + 3 < z) → w2 z = w z)) := by
  refine Ctr.of ykX1_setAside rfl (Nat.le_of_ble_eq_true rfl) okV (fun hin hW => ?_)
  have hs0 := hs
  have h448 := sh448 cs mo pr
  obtain ⟨tf, pf, nu, lb, wi, ss, sp, sv, h_q, h_T, h_P, h_N, h_A, h_W, h_S, h_U, h_V, hlb, hb, htf, hnu, hlg, hsh⟩ := hs
  obtain ⟨f, g, h, h_t, h_f, h_g, h_h, hpt⟩ := ht
  show Ex _ _ 0 0 n w 0 [some (xr t), some (xr q), some (xi k)] []
  refine ex_aload_n (pc := 0) dX1_setAside_0 rfl ?_
  refine ex_getfield (pc := 1) dX1_setAside_1 fk_X1_21 h_t (by rfl) ?_
  refine ex_bipush (pc := 4) dX1_setAside_4 (by decide) ?_
  refine ex_icmp_ge (pc := 6) dX1_setAside_6 (tgt := 21) (by decide) (fun c6 => by exfalso; omega) (fun c6 => ?_)
  refine ex_iload_n (pc := 9) dX1_setAside_9 rfl ?_
  refine ex_if_lt (pc := 10) dX1_setAside_10 (tgt := 21) (by decide) (fun c10 => by exfalso; omega) (fun c10 => ?_)
  refine ex_iload_n (pc := 13) dX1_setAside_13 rfl ?_
  refine ex_aload_n (pc := 14) dX1_setAside_14 rfl ?_
  refine ex_getfield (pc := 15) dX1_setAside_15 fk_X1_59 h_q (by rfl) ?_
  refine ex_icmp_lt (pc := 18) dX1_setAside_18 (tgt := 22) (by decide) (fun c18 => ?_) (fun c18 => by exfalso; omega)
  have hkk : ((k : Int)).toNat = k := by omega
  have hkl : ((L.length : Int)).toNat = L.length := by omega
  have h9 := hsh k hk
  have h8 := sh_lt (cs := cs) (mo := mo) (pr := pr) hk
  have h7 := pcS_lt (mo := mo) (pr := pr) hl ((shL cs mo pr).getD k 0)
  have h6 := pc_le ((shL cs mo pr).getD k 0)
  refine ex_aload_n (pc := 22) dX1_setAside_22 rfl ?_
  refine ex_getfield (pc := 23) dX1_setAside_23 fk_X1_9 h_t (by rfl) ?_
  refine ex_aload_n (pc := 26) dX1_setAside_26 rfl ?_
  refine ex_getfield (pc := 27) dX1_setAside_27 fk_X1_21 h_t (by rfl) ?_
  refine ex_aload_n (pc := 30) dX1_setAside_30 rfl ?_
  refine ex_getfield (pc := 31) dX1_setAside_31 fk_X1_62 h_q (by rfl) ?_
  refine ex_iload_n (pc := 34) dX1_setAside_34 rfl ?_
  refine ex_iaload (pc := 35) dX1_setAside_35 h_S (by omega) (by omega) ?_
  rw [hkk, h9.1]
  refine ex_iastore (pc := 36) dX1_setAside_36 h_f (by omega) (by omega) ?_
  refine ex_up (fun w1 e_w1 => ?_)
  have h1_q := ((congrFun e_w1 q).trans (up_n (by omega))).trans h_q
  have h1_S := ((congrFun e_w1 (q + 6)).trans (up_n (by omega))).trans h_S
  have h1_U := ((congrFun e_w1 (q + 7)).trans (up_n (by omega))).trans h_U
  have h1_V := ((congrFun e_w1 (q + 8)).trans (up_n (by omega))).trans h_V
  have h1_t := ((congrFun e_w1 t).trans (up_n (by omega))).trans h_t
  have h1_f := (congrFun e_w1 (t + 1)).trans up_s
  have h1_g := ((congrFun e_w1 (t + 2)).trans (up_n (by omega))).trans h_g
  have h1_h := ((congrFun e_w1 (t + 3)).trans (up_n (by omega))).trans h_h
  refine ex_aload_n (pc := 37) dX1_setAside_37 rfl ?_
  refine ex_getfield (pc := 38) dX1_setAside_38 fk_X1_15 h1_t (by rfl) ?_
  refine ex_aload_n (pc := 41) dX1_setAside_41 rfl ?_
  refine ex_getfield (pc := 42) dX1_setAside_42 fk_X1_21 h1_t (by rfl) ?_
  refine ex_aload_n (pc := 45) dX1_setAside_45 rfl ?_
  refine ex_getfield (pc := 46) dX1_setAside_46 fk_X1_65 h1_q (by rfl) ?_
  refine ex_iload_n (pc := 49) dX1_setAside_49 rfl ?_
  refine ex_iaload (pc := 50) dX1_setAside_50 h1_U (by omega) (by omega) ?_
  rw [hkk, h9.2.1]
  refine ex_iastore (pc := 51) dX1_setAside_51 h1_g (by omega) (by omega) ?_
  refine ex_up (fun w2 e_w2 => ?_)
  have h2_q := ((congrFun e_w2 q).trans (up_n (by omega))).trans h1_q
  have h2_S := ((congrFun e_w2 (q + 6)).trans (up_n (by omega))).trans h1_S
  have h2_U := ((congrFun e_w2 (q + 7)).trans (up_n (by omega))).trans h1_U
  have h2_V := ((congrFun e_w2 (q + 8)).trans (up_n (by omega))).trans h1_V
  have h2_t := ((congrFun e_w2 t).trans (up_n (by omega))).trans h1_t
  have h2_f := ((congrFun e_w2 (t + 1)).trans (up_n (by omega))).trans h1_f
  have h2_g := (congrFun e_w2 (t + 2)).trans up_s
  have h2_h := ((congrFun e_w2 (t + 3)).trans (up_n (by omega))).trans h1_h
  refine ex_aload_n (pc := 52) dX1_setAside_52 rfl ?_
  refine ex_getfield (pc := 53) dX1_setAside_53 fk_X1_18 h2_t (by rfl) ?_
  refine ex_aload_n (pc := 56) dX1_setAside_56 rfl ?_
  refine ex_getfield (pc := 57) dX1_setAside_57 fk_X1_21 h2_t (by rfl) ?_
  refine ex_aload_n (pc := 60) dX1_setAside_60 rfl ?_
  refine ex_getfield (pc := 61) dX1_setAside_61 fk_X1_68 h2_q (by rfl) ?_
  refine ex_iload_n (pc := 64) dX1_setAside_64 rfl ?_
  refine ex_iaload (pc := 65) dX1_setAside_65 h2_V (by omega) (by omega) ?_
  rw [hkk, h9.2.2]
  refine ex_iastore (pc := 66) dX1_setAside_66 h2_h (by omega) (by omega) ?_
  refine ex_up (fun w3 e_w3 => ?_)
  have h3_q := ((congrFun e_w3 q).trans (up_n (by omega))).trans h2_q
  have h3_S := ((congrFun e_w3 (q + 6)).trans (up_n (by omega))).trans h2_S
  have h3_U := ((congrFun e_w3 (q + 7)).trans (up_n (by omega))).trans h2_U
  have h3_V := ((congrFun e_w3 (q + 8)).trans (up_n (by omega))).trans h2_V
  have h3_t := ((congrFun e_w3 t).trans (up_n (by omega))).trans h2_t
  have h3_f := ((congrFun e_w3 (t + 1)).trans (up_n (by omega))).trans h2_f
  have h3_g := ((congrFun e_w3 (t + 2)).trans (up_n (by omega))).trans h2_g
  have h3_h := (congrFun e_w3 (t + 3)).trans up_s
  refine ex_aload_n (pc := 67) dX1_setAside_67 rfl ?_
  refine ex_dup (pc := 68) dX1_setAside_68 rfl ?_
  refine ex_getfield (pc := 69) dX1_setAside_69 fk_X1_25 h3_t (by rfl) ?_
  refine ex_aload_n (pc := 72) dX1_setAside_72 rfl ?_
  refine ex_getfield (pc := 73) dX1_setAside_73 fk_X1_9 h3_t (by rfl) ?_
  refine ex_aload_n (pc := 76) dX1_setAside_76 rfl ?_
  refine ex_getfield (pc := 77) dX1_setAside_77 fk_X1_21 h3_t (by rfl) ?_
  refine ex_iaload (pc := 80) dX1_setAside_80 h3_f (by omega) (by omega) ?_
  rw [hkl, up_s]
  refine ex_callSI (as := [_]) (pc := 81) dX1_setAside_81 (tJ6_bitCount_0f7a4 h8) lk_X1_54 ykJ6_bitCount_0f7a4 zkJ6_bitCount_0f7a4 rfl rfl (Nat.le_of_ble_eq_true rfl) ⟨by decide, by decide⟩ ⟨Nat.le_refl _, Nat.le_refl _⟩ (fun i81 w4 r81 p81 => ?_)
  obtain ⟨e81, p81⟩ := p81
  rw [e81]
  refine ex_aload_n (pc := 84) dX1_setAside_84 rfl ?_
  refine ex_getfield (pc := 85) dX1_setAside_85 fk_X1_15 h3_t (by rfl) ?_
  refine ex_aload_n (pc := 88) dX1_setAside_88 rfl ?_
  refine ex_getfield (pc := 89) dX1_setAside_89 fk_X1_21 h3_t (by rfl) ?_
  refine ex_iaload (pc := 92) dX1_setAside_92 h3_g (by omega) (by omega) ?_
  rw [hkl, up_s]
  refine ex_iadd (pc := 93) dX1_setAside_93 (by unfold inI; omega) ?_
  refine ex_iconst (pc := 94) dX1_setAside_94 (by decide) ?_
  refine ex_isub (pc := 95) dX1_setAside_95 (by unfold inI; omega) ?_
  refine ex_iadd (pc := 96) dX1_setAside_96 (by unfold inI; omega) ?_
  refine ex_putA (pc := 97) dX1_setAside_97 fk_X1_25 (ty := tyX1 5) (fun _ _ _ h9 => by cases h9; exact ⟨tyX1_ok 5 (by decide), rfl⟩) h3_t (Nat.le_of_ble_eq_true rfl) (fun _ => rfl) (fun _ => rfl) ?_
  refine ex_up (fun w4 e_w4 => ?_)
  have h4_q := ((congrFun e_w4 q).trans (up_n (by omega))).trans h3_q
  have h4_S := ((congrFun e_w4 (q + 6)).trans (up_n (by omega))).trans h3_S
  have h4_U := ((congrFun e_w4 (q + 7)).trans (up_n (by omega))).trans h3_U
  have h4_V := ((congrFun e_w4 (q + 8)).trans (up_n (by omega))).trans h3_V
  have h4_t := (congrFun e_w4 t).trans up_s
  have h4_f := ((congrFun e_w4 (t + 1)).trans (up_n (by omega))).trans h3_f
  have h4_g := ((congrFun e_w4 (t + 2)).trans (up_n (by omega))).trans h3_g
  have h4_h := ((congrFun e_w4 (t + 3)).trans (up_n (by omega))).trans h3_h
  refine ex_aload_n (pc := 100) dX1_setAside_100 rfl ?_
  refine ex_dup (pc := 101) dX1_setAside_101 rfl ?_
  refine ex_getfield (pc := 102) dX1_setAside_102 fk_X1_34 h4_t (by rfl) ?_
  refine ex_aload_n (pc := 105) dX1_setAside_105 rfl ?_
  refine ex_getfield (pc := 106) dX1_setAside_106 fk_X1_18 h4_t (by rfl) ?_
  refine ex_aload_n (pc := 109) dX1_setAside_109 rfl ?_
  refine ex_getfield (pc := 110) dX1_setAside_110 fk_X1_21 h4_t (by rfl) ?_
  refine ex_iaload (pc := 113) dX1_setAside_113 h4_h (by omega) (by omega) ?_
  rw [hkl, up_s]
  refine ex_iconst (pc := 114) dX1_setAside_114 (by decide) ?_
  refine ex_ixor (pc := 115) dX1_setAside_115 ?_
  refine ex_iand (pc := 116) dX1_setAside_116 ?_
  refine ex_eq (xdif_n (b := (pcS cs mo pr ((shL cs mo pr).getD k 0)).2) (by omega)) ?_
  refine ex_putA (pc := 117) dX1_setAside_117 fk_X1_34 (ty := tyX1 4) (fun _ _ _ h9 => by cases h9; exact ⟨tyX1_ok 4 (by decide), rfl⟩) h4_t (Nat.le_of_ble_eq_true rfl) (fun _ => rfl) (fun _ => rfl) ?_
  refine ex_up (fun w5 e_w5 => ?_)
  have h5_q := ((congrFun e_w5 q).trans (up_n (by omega))).trans h4_q
  have h5_S := ((congrFun e_w5 (q + 6)).trans (up_n (by omega))).trans h4_S
  have h5_U := ((congrFun e_w5 (q + 7)).trans (up_n (by omega))).trans h4_U
  have h5_V := ((congrFun e_w5 (q + 8)).trans (up_n (by omega))).trans h4_V
  have h5_t := (congrFun e_w5 t).trans up_s
  have h5_f := ((congrFun e_w5 (t + 1)).trans (up_n (by omega))).trans h4_f
  have h5_g := ((congrFun e_w5 (t + 2)).trans (up_n (by omega))).trans h4_g
  have h5_h := ((congrFun e_w5 (t + 3)).trans (up_n (by omega))).trans h4_h
  refine ex_aload_n (pc := 120) dX1_setAside_120 rfl ?_
  refine ex_dup (pc := 121) dX1_setAside_121 rfl ?_
  refine ex_getfield (pc := 122) dX1_setAside_122 fk_X1_21 h5_t (by rfl) ?_
  refine ex_iconst (pc := 125) dX1_setAside_125 (by decide) ?_
  refine ex_iadd (pc := 126) dX1_setAside_126 (by unfold inI; omega) ?_
  refine ex_putA (pc := 127) dX1_setAside_127 fk_X1_21 (ty := tyX1 3) (fun _ _ _ h9 => by cases h9; exact ⟨tyX1_ok 3 (by decide), rfl⟩) h5_t (Nat.le_of_ble_eq_true rfl) (fun _ => rfl) (fun _ => rfl) ?_
  refine ex_up (fun w6 e_w6 => ?_)
  have h6_q := ((congrFun e_w6 q).trans (up_n (by omega))).trans h5_q
  have h6_S := ((congrFun e_w6 (q + 6)).trans (up_n (by omega))).trans h5_S
  have h6_U := ((congrFun e_w6 (q + 7)).trans (up_n (by omega))).trans h5_U
  have h6_V := ((congrFun e_w6 (q + 8)).trans (up_n (by omega))).trans h5_V
  have h6_t := (congrFun e_w6 t).trans up_s
  have h6_f := ((congrFun e_w6 (t + 1)).trans (up_n (by omega))).trans h5_f
  have h6_g := ((congrFun e_w6 (t + 2)).trans (up_n (by omega))).trans h5_g
  have h6_h := ((congrFun e_w6 (t + 3)).trans (up_n (by omega))).trans h5_h
  have hfin : ∀ i, i < (L ++ [((shL cs mo pr).getD k 0, (pcS cs mo pr ((shL cs mo pr).getD k 0)).1, (pcS cs mo pr ((shL cs mo pr).getD k 0)).2)]).length → va_up f L.length ((shL cs mo pr).getD k 0 : Int) i = (((L ++ [((shL cs mo pr).getD k 0, (pcS cs mo pr ((shL cs mo pr).getD k 0)).1, (pcS cs mo pr ((shL cs mo pr).getD k 0)).2)]).getD i (0, 0, 0)).1 : Int) ∧ va_up g L.length ((pcS cs mo pr ((shL cs mo pr).getD k 0)).1 : Int) i = (((L ++ [((shL cs mo pr).getD k 0, (pcS cs mo pr ((shL cs mo pr).getD k 0)).1, (pcS cs mo pr ((shL cs mo pr).getD k 0)).2)]).getD i (0, 0, 0)).2.1 : Int) ∧ va_up h L.length ((pcS cs mo pr ((shL cs mo pr).getD k 0)).2 : Int) i = (((L ++ [((shL cs mo pr).getD k 0, (pcS cs mo pr ((shL cs mo pr).getD k 0)).1, (pcS cs mo pr ((shL cs mo pr).getD k 0)).2)]).getD i (0, 0, 0)).2.2 : Int) := by
    intro i hi
    rw [List.length_append] at hi
    by_cases y : i < L.length
    · rw [getD_ap1 y, up_n (by omega), up_n (by omega), up_n (by omega)]; exact hpt i y
    · have y2 : i = L.length := by simp at hi; omega
      rw [y2, getD_ap2, up_s, up_s, up_s]; exact ⟨rfl, rfl, rfl⟩
  exact ex_vret (pc := 130) dX1_setAside_130 ⟨⟨_, _, _, by rw [h6_t, List.length_append, p81]; rfl, by rw [h6_f, hkl], by rw [h6_g, hkl], by rw [h6_h, hkl], hfin⟩, fun z hz => by rw [e_w6, up_n (by omega), e_w5, up_n (by omega), e_w4, up_n (by omega), e_w3, up_n (by omega), e_w2, up_n (by omega), e_w1, up_n (by omega)]⟩ rfl (Nat.le_refl _)

