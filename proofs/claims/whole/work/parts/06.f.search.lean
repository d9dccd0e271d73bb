/-- a search's cells, whatever they hold -/
def SeX (w : xW) (q : Nat) : Prop := ∃ (wc mo pr sc : Int) (tf pf nu : Nat → Int) (lb : Nat → Nat) (wi ss sp sv : Nat → Int), w q = seO q wc mo pr sc ∧ w (q + 1) = xA 14 tf ∧ w (q + 2) = xA 14 pf ∧ w (q + 3) = xA 240 nu ∧ w (q + 4) = xA 897 (fun i => (lb i : Int)) ∧ w (q + 5) = xA 897 wi ∧ w (q + 6) = xA 448 ss ∧ w (q + 7) = xA 448 sp ∧ w (q + 8) = xA 448 sv ∧ (∀ k, lb k < 16384) ∧ (∀ k, k < 14 → -100 ≤ tf k ∧ tf k ≤ 100 ∧ -100 ≤ pf k ∧ pf k ≤ 100)
/-- a search that has looked over the notes pr of the piece cs in the mode mo -/
def SeAt (w : xW) (q : Nat) (cs : List Int) (mo : Int) (pr : Nat) : Prop := ∃ (tf pf nu : Nat → Int) (lb : Nat → Nat) (wi ss sp sv : Nat → Int), w q = seO q (wdL cs mo pr).length mo pr (shL cs mo pr).length ∧ w (q + 1) = xA 14 tf ∧ w (q + 2) = xA 14 pf ∧ w (q + 3) = xA 240 nu ∧ w (q + 4) = xA 897 (fun i => (lb i : Int)) ∧ w (q + 5) = xA 897 wi ∧ w (q + 6) = xA 448 ss ∧ w (q + 7) = xA 448 sp ∧ w (q + 8) = xA 448 sv ∧ (∀ k, lb k < 16384) ∧ (∀ k, k < 14 → -100 ≤ tf k ∧ tf k ≤ 100 ∧ -100 ≤ pf k ∧ pf k ≤ 100)
  ∧ (∀ i, i < cs.length → tf i = tmL cs i ∧ pf i = ptL cs i) ∧ (∀ i, i < 240 → nu i = nuS cs pr cs.length i) ∧ (∀ k, k < 897 → lb k = lgS cs mo pr k)
  ∧ (∀ i, i < (shL cs mo pr).length → ss i = (((shL cs mo pr).getD i 0 : Nat) : Int) ∧ sp i = ((pcS cs mo pr ((shL cs mo pr).getD i 0)).1 : Int) ∧ sv i = ((pcS cs mo pr ((shL cs mo pr).getD i 0)).2 : Int))
theorem SeAt.X {w : xW} {q : Nat} {cs : List Int} {mo : Int} {pr : Nat} (h : SeAt w q cs mo pr) : SeX w q := by
  obtain ⟨tf, pf, nu, lb, wi, ss, sp, sv, h1, h2, h3, h4, h5, h6, h7, h8, h9, h10, h11, -⟩ := h
  exact ⟨_, _, _, _, tf, pf, nu, lb, wi, ss, sp, sv, h1, h2, h3, h4, h5, h6, h7, h8, h9, h10, h11⟩
theorem SeX.fr {w w2 : xW} {q : Nat} (h : SeX w q) (hf : ∀ z, q ≤ z → z ≤ q + 8 → w2 z = w z) : SeX w2 q := by
  obtain ⟨a1, a2, a3, a4, tf, pf, nu, lb, wi, ss, sp, sv, h1, h2, h3, h4, h5, h6, h7, h8, h9, h10⟩ := h
  exact ⟨a1, a2, a3, a4, tf, pf, nu, lb, wi, ss, sp, sv, (hf _ (by omega) (by omega)).trans h1, (hf _ (by omega) (by omega)).trans h2, (hf _ (by omega) (by omega)).trans h3, (hf _ (by omega) (by omega)).trans h4, (hf _ (by omega) (by omega)).trans h5, (hf _ (by omega) (by omega)).trans h6, (hf _ (by omega) (by omega)).trans h7, (hf _ (by omega) (by omega)).trans h8, (hf _ (by omega) (by omega)).trans h9, h10⟩
theorem SeAt.fr {w w2 : xW} {q : Nat} {cs : List Int} {mo : Int} {pr : Nat} (h : SeAt w q cs mo pr) (hf : ∀ z, q ≤ z → z ≤ q + 8 → w2 z = w z) : SeAt w2 q cs mo pr := by
  obtain ⟨tf, pf, nu, lb, wi, ss, sp, sv, h1, h2, h3, h4, h5, h6, h7, h8, h9, h10⟩ := h
  exact ⟨tf, pf, nu, lb, wi, ss, sp, sv, (hf _ (by omega) (by omega)).trans h1, (hf _ (by omega) (by omega)).trans h2, (hf _ (by omega) (by omega)).trans h3, (hf _ (by omega) (by omega)).trans h4, (hf _ (by omega) (by omega)).trans h5, (hf _ (by omega) (by omega)).trans h6, (hf _ (by omega) (by omega)).trans h7, (hf _ (by omega) (by omega)).trans h8, (hf _ (by omega) (by omega)).trans h9, h10⟩
theorem nuS_rng (cs : List Int) (pr : Nat) : ∀ i z, nuS cs pr i z = -4 ∨ (0 ≤ nuS cs pr i z ∧ nuS cs pr i z < i) := by
  intro i
  induction i with
  | zero => intro z; exact Or.inl rfl
  | succ i ih =>
    intro z
    unfold nuS
    split
    · by_cases y : z = (cs.getD i 0).toNat
      · rw [y, up_s]; right; omega
      · rw [up_n y]; rcases ih z with q | q
        · exact Or.inl q
        · right; omega
    · rcases ih z with q | q
      · exact Or.inl q
      · right; omega
theorem nA_congr {nu n2 : Nat → Int} (h : ∀ i, i < 240 → nu i = n2 i) (t b : Int) : nA nu t b = nA n2 t b := by
  unfold nA
  split
  · exact h _ (by omega)
  · rfl
theorem metF_congr {tf pf t2 p2 nu n2 : Nat → Int} {mo : Int} {b : Nat} {d e : Int} (h : ∀ i, i < 240 → nu i = n2 i) (h1 : tf b = t2 b) (h2 : pf b = p2 b) : metF tf pf nu mo b d e = metF t2 p2 n2 mo b d e := by
  unfold metF
  rw [h1, h2, nA_congr h, nA_congr h, nA_congr h, nA_congr h]
theorem metF_lt {tf pf nu : Nat → Int} {mo : Int} {b : Nat} {d e : Int} (h : ∀ i, i < 240 → nu i < 14) : metF tf pf nu mo b d e < 14 := by
  have h0 : ∀ t b, nA nu t b < 14 := by
    intro t b
    unfold nA
    split
    · exact h _ (by omega)
    · omega
  unfold metF
  split
  · exact h0 _ _
  · split
    · split
      · exact h0 _ _
      · exact h0 _ _
    · exact h0 _ _
theorem hitB_iff {cs : List Int} {mo : Int} {b m k : Nat} : hitB cs mo b m k = true ↔ hitP mo (tmL cs m - tmL cs b) (ptL cs m - ptL cs b) k := by
  unfold hitB hitP
  rw [Bool.and_eq_true, decide_eq_true_eq]
  by_cases h1 : mo = 1
  · rw [if_pos h1, if_pos h1, decide_eq_true_eq]
  · rw [if_neg h1, if_neg h1]
    by_cases h2 : mo = 2
    · rw [if_pos h2, if_pos h2, Bool.or_eq_true, Bool.or_eq_true, decide_eq_true_eq, decide_eq_true_eq, decide_eq_true_eq]
    · rw [if_neg h2, if_neg h2, decide_eq_true_eq]
theorem lgS_bit {cs : List Int} {mo : Int} {pr k b : Nat} : (lgS cs mo pr k).testBit b = true ↔ (b < 14 ∧ pr.testBit b = true ∧ ∃ m, m < 14 ∧ pr.testBit m = true ∧ hitP mo (tmL cs m - tmL cs b) (ptL cs m - ptL cs b) k) := by
  unfold lgS
  rw [bs_bit, Bool.and_eq_true, Bool.and_eq_true, decide_eq_true_eq, List.any_eq_true]
  constructor
  · rintro ⟨h1, h2, m, h3, h4⟩
    rw [Bool.and_eq_true] at h4
    exact ⟨h1, h2, m, List.mem_range.mp h3, h4.1, hitB_iff.mp h4.2⟩
  · rintro ⟨h1, h2, m, h3, h4, h5⟩
    exact ⟨h1, h2, m, List.mem_range.mpr h3, by rw [Bool.and_eq_true]; exact ⟨h4, hitB_iff.mpr h5⟩⟩
theorem lgI_eq {tf pf : Nat → Int} {mo : Int} {pr : Nat} {lb : Nat → Nat} {cs : List Int} (h : lgI tf pf mo pr 14 0 lb) (hp : pr < 2 ^ cs.length) (ht : ∀ i, i < cs.length → tf i = tmL cs i ∧ pf i = ptL cs i) {k : Nat} (hk : k < 897) : lb k = lgS cs mo pr k := by
  have hbit : ∀ b, pr.testBit b = true → b < cs.length := by
    intro b hb
    rcases Nat.lt_or_ge b cs.length with q | q
    · exact q
    · rw [Nat.testBit_lt_two_pow (Nat.lt_of_lt_of_le hp (Nat.pow_le_pow_right (by decide) q))] at hb; cases hb
  apply Nat.eq_of_testBit_eq
  intro b
  have e1 : ∀ {x y : Bool}, (x = true ↔ y = true) → x = y := by intro x y; cases x <;> cases y <;> simp
  apply e1
  rw [h k hk b, lgS_bit]
  constructor
  · rintro ⟨h1, m, h2, h3, h4, h5⟩
    rw [(ht m (hbit m h3)).1, (ht m (hbit m h3)).2, (ht b (hbit b h1)).1, (ht b (hbit b h1)).2] at h4
    exact ⟨by omega, h1, m, h2, h3, h4⟩
  · rintro ⟨h0, h1, m, h2, h3, h4⟩
    refine ⟨h1, m, h2, h3, ?_, Or.inl h0⟩
    rw [(ht m (hbit m h3)).1, (ht m (hbit m h3)).2, (ht b (hbit b h1)).1, (ht b (hbit b h1)).2]
    exact h4
theorem addS_mem {acc : List Nat} {s z : Nat} (h : z ∈ addS acc s) : z ∈ acc ∨ z = s := by
  unfold addS at h
  split at h
  · exact Or.inl h
  · rcases List.mem_append.mp h with q | q
    · exact Or.inl q
    · exact Or.inr (List.mem_singleton.mp q)
theorem fold_addS_mem (l : List Nat) : ∀ (acc : List Nat) (z : Nat), z ∈ l.foldl addS acc → z ∈ acc ∨ z ∈ l := by
  induction l with
  | nil => intro acc z h; exact Or.inl h
  | cons a l ih =>
    intro acc z h
    rcases ih (addS acc a) z h with q | q
    · rcases addS_mem q with q | q
      · exact Or.inl q
      · right; rw [q]; exact List.mem_cons_self
    · right; exact List.mem_cons_of_mem _ q
theorem shG_mem {lg : Nat → Nat} {L : List Nat} {z : Nat} (h : z ∈ shG lg L) : ∃ k ∈ L, 448 < k ∧ z = lg k := by
  rcases fold_addS_mem _ _ _ h with q | q
  · cases q
  · obtain ⟨k, k1, k2⟩ := List.mem_map.mp q
    obtain ⟨k3, k4⟩ := List.mem_filter.mp k1
    exact ⟨k, k3, of_decide_eq_true k4, k2.symm⟩
theorem pcG_congr {lg l2 : Nat → Nat} {mt m2 : Nat → Nat → Int} {L : List Nat} {set : Nat} (h1 : ∀ k ∈ L, lg k = l2 k) (h2 : ∀ j k, j < 14 → set.testBit j = true → mt j k = m2 j k) : pcG lg mt L set = pcG l2 m2 L set := by
  unfold pcG
  rw [List.filter_congr (fun k hk => by rw [h1 k hk] : ∀ k ∈ L, (lg k &&& set == set) = (l2 k &&& set == set))]
  congr 1
  funext a k
  rw [cvG_congr 14 a.2 (fun j hj hs => h2 j k hj hs)]
theorem shG_congr {lg l2 : Nat → Nat} {L : List Nat} (h1 : ∀ k ∈ L, lg k = l2 k) : shG lg L = shG l2 L := by
  unfold shG
  rw [List.map_congr_left (fun k hk => h1 k (List.mem_filter.mp hk).1)]
abbrev mX5_lookOver : xC := mkC yX5_lookOver cX5_lookOver 4 none 5 500 0 0
theorem nuS_s {cs : List Int} {pr i : Nat} {z : Nat} : nuS cs pr (i + 1) z = if pr.testBit i then va_up (nuS cs pr i) (cs.getD i 0).toNat (i : Int) z else nuS cs pr i z := by
  show (if pr.testBit i then va_up (nuS cs pr i) (cs.getD i 0).toNat (i : Int) else nuS cs pr i) z = _
  split <;> rfl
set_option maxHeartbeats 4000000 in
set_option maxRecDepth 100000 in
theorem tX5_lookOver {n : Nat} {W : xW} {q r a : Nat} {cs : List Int} {mo : Int} {pr : Nat} (hX : SeX W q) (hp0 : PcAt W r a cs mo) (hcod : Cod cs) (hr : r < q ∨ q + 8 < r) (ha : a < q ∨ q + 8 < a) (hprl : pr < 2 ^ cs.length) : Ctr mX5_lookOver [xr q, xr r, xi pr] n W (pV (fun w2 => SeAt w2 q cs mo pr ∧ ∀ z, (z < q ∨ q + 8 < z) → w2 z = W z)) := by
  refine Ctr.of ykX5_lookOver rfl (Nat.le_of_ble_eq_true rfl) okV (fun hin hW => ?_)
  obtain ⟨wc0, mo0, pr0, sc, tf, pf, nu, lb, wi, ss, sp, sv, h_q, h_T, h_P, h_N, h_A, h_W, h_S, h_U, h_V, hlb, hb⟩ := hX
  have h_r := hp0.r
  have hlen0 := hp0.len
  have hpr : pr < 16384 := Nat.lt_of_lt_of_le hprl (two14 hlen0)
  obtain ⟨wc, hwc⟩ : ∃ wc, wc = wc0 := ⟨_, rfl⟩
  subst hwc
  show Ex _ _ 0 0 n W 0 [some (xr q), some (xr r), some (xi pr), none] []
  have loop : ∀ (d x : Nat), x ≤ cs.length → cs.length + 1 ≤ x + d → ∀ (w : xW) (tf pf nu : Nat → Int), w q = seO q wc mo pr sc → w (q + 1) = xA 14 tf → w (q + 2) = xA 14 pf → w (q + 3) = xA 240 nu → w (q + 4) = xA 897 (fun i => (lb i : Int)) → w (q + 5) = xA 897 wi → w (q + 6) = xA 448 ss → w (q + 7) = xA 448 sp → w (q + 8) = xA 448 sv → w r = xO 2 [xr a, xi cs.length, xi mo] → PcAt w r a cs mo → (∀ k, k < 14 → -100 ≤ tf k ∧ tf k ≤ 100 ∧ -100 ≤ pf k ∧ pf k ≤ 100) → (∀ i, i < x → tf i = tmL cs i ∧ pf i = ptL cs i) → (∀ i, i < 240 → nu i = nuS cs pr x i) → (∀ z, (z < q ∨ q + 8 < z) → w z = W z) → Ex mX5_lookOver (pV (fun w2 => SeAt w2 q cs mo pr ∧ ∀ z, (z < q ∨ q + 8 < z) → w2 z = W z)) 0 0 n w 29 [some (xr q), some (xr r), some (xi pr), some (xi x)] [] := by
    intro d
    induction d with
    | zero => intro x h1 h2; omega
    | succ d ih =>
      intro x h1 h2 w tf pf nu h_q h_T h_P h_N h_A h_W h_S h_U h_V h_r hp hb htf hnu hfr
      have hlen := hp.len
      refine ex_iload_n (pc := 29) dX5_lookOver_29 rfl ?_
      refine ex_aload_n (pc := 30) dX5_lookOver_30 rfl ?_
      refine ex_getfield (pc := 31) dX5_lookOver_31 fk_X5_56 h_r (by rfl) ?_
      refine ex_icmp_ge (pc := 34) dX5_lookOver_34 (tgt := 97) (by decide) (fun c34 => ?_) (fun c34 => ?_)
      · have hxl : x = cs.length := by omega
        rw [hxl] at hnu htf
        have hlen := hp.len
        have hnul : ∀ i, i < 240 → nu i < 14 := fun i hi => by rw [hnu i hi]; rcases nuS_rng cs pr cs.length i with q | q <;> omega
        refine ex_aload_n (pc := 97) dX5_lookOver_97 rfl ?_
        refine ex_callVV (as := []) (pc := 98) dX5_lookOver_98 (tX5_findLargests h_q h_T h_P h_A hpr hlb hb) lk_X5_74 ykX5_findLargests vkX5_findLargests h_q rfl rfl rfl (Nat.le_of_ble_eq_true rfl) ⟨by decide, by decide⟩ ⟨Nat.le_refl _, Nat.le_refl _⟩ (fun w1 p98 => ?_)
        obtain ⟨lb2, hlb2, hI, e1⟩ := p98
        have hlg : ∀ k, k < 897 → lb2 k = lgS cs mo pr k := fun k hk => lgI_eq hI hprl htf hk
        refine ex_aload_n (pc := 101) dX5_lookOver_101 rfl ?_
        have g1_q := (congrFun e1 q).trans ((up_n (by omega)).trans h_q)
        have g1_A := (congrFun e1 (q + 4)).trans up_s
        have g1_W := (congrFun e1 (q + 5)).trans ((up_n (by omega)).trans h_W)
        refine ex_callVV (as := []) (pc := 102) dX5_lookOver_102 (tX5_findWideShifts g1_q g1_A g1_W hlb2) lk_X5_77 ykX5_findWideShifts vkX5_findWideShifts g1_q rfl rfl rfl (Nat.le_of_ble_eq_true rfl) ⟨by decide, by decide⟩ ⟨Nat.le_refl _, Nat.le_refl _⟩ (fun w2 p102 => ?_)
        obtain ⟨wi2, g2_q, g2_W, hwi2, f2⟩ := p102
        refine ex_aload_n (pc := 105) dX5_lookOver_105 rfl ?_
        have g2 : ∀ z, z ≠ q → z ≠ q + 4 → z ≠ q + 5 → w2 z = w z := fun z z1 z2 z3 => (f2 z z1 z3).trans ((congrFun e1 z).trans (up_n z2))
        have hL : ∀ k ∈ (List.range 897).filter (fun k => two (lb2 k)), k < 897 := fun k hk => List.mem_range.mp (List.mem_filter.mp hk).1
        refine ex_callVV (as := []) (pc := 106) dX5_lookOver_106 (tX5_findShapes (mt := fun i k => metF tf pf nu mo i (dK k) (eK k)) g2_q ((g2 _ (by omega) (by omega) (by omega)).trans h_T) ((g2 _ (by omega) (by omega) (by omega)).trans h_P) ((g2 _ (by omega) (by omega) (by omega)).trans h_N) ((f2 _ (by omega) (by omega)).trans g1_A) g2_W ((g2 _ (by omega) (by omega) (by omega)).trans h_S) ((g2 _ (by omega) (by omega) (by omega)).trans h_U) ((g2 _ (by omega) (by omega) (by omega)).trans h_V) (fun _ _ => rfl) (fun i k _ => metF_lt hnul) hL hwi2 hlb2 (fun k hk => by have := hb k hk; omega)) lk_X5_80 ykX5_findShapes vkX5_findShapes g2_q rfl rfl rfl (Nat.le_of_ble_eq_true rfl) ⟨by decide, by decide⟩ ⟨Nat.le_refl _, Nat.le_refl _⟩ (fun w3 p106 => ?_)
        obtain ⟨ss2, sp2, sv2, g3_q, g3_S, g3_U, g3_V, hsh, f3⟩ := p106
        have eL : (List.range 897).filter (fun k => two (lb2 k)) = wdL cs mo pr := List.filter_congr (fun k hk => by rw [hlg k (List.mem_range.mp hk)])
        rw [eL] at g3_q hsh hL
        have eS : shG lb2 (wdL cs mo pr) = shL cs mo pr := shG_congr (fun k hk => hlg k (hL k hk))
        rw [eS] at g3_q hsh
        have g3 : ∀ z, z ≠ q → z ≠ q + 4 → z ≠ q + 5 → z ≠ q + 6 → z ≠ q + 7 → z ≠ q + 8 → w3 z = w z := fun z z1 z2 z3 z4 z5 z6 => (f3 z z1 z4 z5 z6).trans (g2 z z1 z2 z3)
        refine ex_vret (pc := 109) dX5_lookOver_109 ⟨⟨tf, pf, nu, lb2, wi2, ss2, sp2, sv2, g3_q, (g3 _ (by omega) (by omega) (by omega) (by omega) (by omega) (by omega)).trans h_T, (g3 _ (by omega) (by omega) (by omega) (by omega) (by omega) (by omega)).trans h_P, (g3 _ (by omega) (by omega) (by omega) (by omega) (by omega) (by omega)).trans h_N, (f3 _ (by omega) (by omega) (by omega) (by omega)).trans ((f2 _ (by omega) (by omega)).trans g1_A), (f3 _ (by omega) (by omega) (by omega) (by omega)).trans g2_W, g3_S, g3_U, g3_V, hlb2, hb, htf, hnu, hlg, fun i hi => ?_⟩, fun z hz => (g3 z (by omega) (by omega) (by omega) (by omega) (by omega) (by omega)).trans (hfr z hz)⟩ rfl (Nat.le_refl _)
        have h9 := hsh i hi
        have hmem : (shL cs mo pr).getD i 0 ∈ shL cs mo pr := by
          have k4 : (shL cs mo pr).getD i 0 = (shL cs mo pr)[i] := by simp [List.getD, hi]
          rw [k4]; exact List.getElem_mem hi
        obtain ⟨k0, -, -, hk0⟩ := shG_mem hmem
        have hbits : ∀ b, ((shL cs mo pr).getD i 0).testBit b = true → b < cs.length := by
          intro b hb9
          rw [hk0] at hb9
          have hb8 := (lgS_bit.mp hb9).2.1
          rcases Nat.lt_or_ge b cs.length with z | z
          · exact z
          · rw [Nat.testBit_lt_two_pow (Nat.lt_of_lt_of_le hprl (Nat.pow_le_pow_right (by decide) z))] at hb8; cases hb8
        have e9 : pcG lb2 (fun i k => metF tf pf nu mo i (dK k) (eK k)) (wdL cs mo pr) ((shL cs mo pr).getD i 0) = pcS cs mo pr ((shL cs mo pr).getD i 0) := pcG_congr (fun k hk => hlg k (hL k hk)) (fun j k _ hj => metF_congr hnu (htf j (hbits j hj)).1 (htf j (hbits j hj)).2)
        rw [e9] at h9
        exact h9
      · have hkx : ((x : Int)).toNat = x := by omega
        have hcx := hcod x (by omega)
        refine ex_aload_n (pc := 37) dX5_lookOver_37 rfl ?_
        refine ex_getfield (pc := 38) dX5_lookOver_38 fk_X5_9 h_q (by rfl) ?_
        refine ex_iload_n (pc := 41) dX5_lookOver_41 rfl ?_
        refine ex_aload_n (pc := 42) dX5_lookOver_42 rfl ?_
        refine ex_iload_n (pc := 43) dX5_lookOver_43 rfl ?_
        refine ex_callVI (as := [_]) (pc := 44) dX5_lookOver_44 (lX2_timeOf hp hcod) lk_X5_59 ykX2_timeOf vkX2_timeOf h_r rfl rfl rfl (Nat.le_of_ble_eq_true rfl) ⟨by decide, by decide⟩ ⟨Nat.le_refl _, Nat.le_refl _⟩ (fun i44 w1 r44 p44 => ?_)
        obtain ⟨e44, p44⟩ := p44
        rw [e44]
        rw [if_pos (by omega), hkx] at p44
        refine ex_iastore (pc := 47) dX5_lookOver_47 h_T (by omega) (by omega) ?_
        refine ex_up (fun w1 e_w1 => ?_)
        have h1_q := ((congrFun e_w1 q).trans (up_n (by omega))).trans h_q
        have h1_T := (congrFun e_w1 (q + 1)).trans up_s
        have h1_P := ((congrFun e_w1 (q + 2)).trans (up_n (by omega))).trans h_P
        have h1_N := ((congrFun e_w1 (q + 3)).trans (up_n (by omega))).trans h_N
        have h1_A := ((congrFun e_w1 (q + 4)).trans (up_n (by omega))).trans h_A
        have h1_W := ((congrFun e_w1 (q + 5)).trans (up_n (by omega))).trans h_W
        have h1_S := ((congrFun e_w1 (q + 6)).trans (up_n (by omega))).trans h_S
        have h1_U := ((congrFun e_w1 (q + 7)).trans (up_n (by omega))).trans h_U
        have h1_V := ((congrFun e_w1 (q + 8)).trans (up_n (by omega))).trans h_V
        have h1_r := ((congrFun e_w1 r).trans (up_n (by omega))).trans h_r
        have hp1 : PcAt w1 r a cs mo := hp.fr ((congrFun e_w1 r).trans (up_n (by omega))) ((congrFun e_w1 a).trans (up_n (by omega)))
        refine ex_aload_n (pc := 48) dX5_lookOver_48 rfl ?_
        refine ex_getfield (pc := 49) dX5_lookOver_49 fk_X5_15 h1_q (by rfl) ?_
        refine ex_iload_n (pc := 52) dX5_lookOver_52 rfl ?_
        refine ex_aload_n (pc := 53) dX5_lookOver_53 rfl ?_
        refine ex_iload_n (pc := 54) dX5_lookOver_54 rfl ?_
        refine ex_callVI (as := [_]) (pc := 55) dX5_lookOver_55 (lX2_pitchOf hp1 hcod) lk_X5_63 ykX2_pitchOf vkX2_pitchOf h1_r rfl rfl rfl (Nat.le_of_ble_eq_true rfl) ⟨by decide, by decide⟩ ⟨Nat.le_refl _, Nat.le_refl _⟩ (fun i55 w2 r55 p55 => ?_)
        obtain ⟨e55, p55⟩ := p55
        rw [e55]
        rw [if_pos (by omega), hkx] at p55
        refine ex_iastore (pc := 58) dX5_lookOver_58 h1_P (by omega) (by omega) ?_
        refine ex_up (fun w2 e_w2 => ?_)
        have h2_q := ((congrFun e_w2 q).trans (up_n (by omega))).trans h1_q
        have h2_T := ((congrFun e_w2 (q + 1)).trans (up_n (by omega))).trans h1_T
        have h2_P := (congrFun e_w2 (q + 2)).trans up_s
        have h2_N := ((congrFun e_w2 (q + 3)).trans (up_n (by omega))).trans h1_N
        have h2_A := ((congrFun e_w2 (q + 4)).trans (up_n (by omega))).trans h1_A
        have h2_W := ((congrFun e_w2 (q + 5)).trans (up_n (by omega))).trans h1_W
        have h2_S := ((congrFun e_w2 (q + 6)).trans (up_n (by omega))).trans h1_S
        have h2_U := ((congrFun e_w2 (q + 7)).trans (up_n (by omega))).trans h1_U
        have h2_V := ((congrFun e_w2 (q + 8)).trans (up_n (by omega))).trans h1_V
        have h2_r := ((congrFun e_w2 r).trans (up_n (by omega))).trans h1_r
        refine ex_aload_n (pc := 59) dX5_lookOver_59 rfl ?_
        refine ex_getfield (pc := 60) dX5_lookOver_60 fk_X5_47 h2_q (by rfl) ?_
        refine ex_iload_n (pc := 63) dX5_lookOver_63 rfl ?_
        refine ex_callSZ (as := [_, _]) (pc := 64) dX5_lookOver_64 (tX5_has (a := pr) (q := x) (by omega) (by omega)) lk_X5_66 ykX5_has zkX5_has rfl rfl (Nat.le_of_ble_eq_true rfl) ⟨by decide, by decide⟩ ⟨Nat.le_refl _, Nat.le_refl _⟩ (fun i64 w3 r64 p64 => ?_)
        obtain ⟨e64, p64⟩ := p64
        rw [e64]
        refine ex_if_eq (pc := 67) dX5_lookOver_67 (tgt := 91) (by decide) (fun c67 => ?_) (fun c67 => ?_)
        · refine ex_iinc (L2 := [_, _, _, _]) (pc := 91) dX5_lookOver_91 rfl rfl (Nat.le_of_ble_eq_true rfl) (by unfold inI; omega) rfl ?_
          refine ex_goto (pc := 94) dX5_lookOver_94 (tgt := 29) (by decide) ?_
          have hfr9 : ∀ z, (z < q ∨ q + 8 < z) → w2 z = W z := fun z hz => by rw [e_w2, up_n (by omega)]; rw [e_w1, up_n (by omega)]; exact hfr z hz
          have hp9 : PcAt w2 r a cs mo := hp0.fr (hfr9 r hr) (hfr9 a ha)
          have htx : ∀ i, i < x + 1 → va_up tf (x : Int).toNat i44 i = tmL cs i ∧ va_up pf (x : Int).toNat i55 i = ptL cs i := by
            intro i hi
            by_cases y : i = x
            · rw [y, hkx, up_s, up_s, p44, p55]; exact ⟨rfl, rfl⟩
            · rw [hkx, up_n y, up_n y]; exact htf i (by omega)
          have hbx : ∀ k, k < 14 → -100 ≤ va_up tf (x : Int).toNat i44 k ∧ va_up tf (x : Int).toNat i44 k ≤ 100 ∧ -100 ≤ va_up pf (x : Int).toNat i55 k ∧ va_up pf (x : Int).toNat i55 k ≤ 100 := by
            intro i hi
            by_cases y : i = x
            · rw [y, hkx, up_s, up_s]; omega
            · rw [hkx, up_n y, up_n y]; exact hb i hi
          have hnx : ∀ i, i < 240 → nu i = nuS cs pr (x + 1) i := fun i hi => by rw [hnu i hi, nuS_s, if_neg (by intro z; have := p64.mpr z; omega)]
          exact ih (x + 1) (by omega) (by omega) w2 _ _ _ h2_q h2_T h2_P h2_N h2_A h2_W h2_S h2_U h2_V h2_r hp9 hbx htx hnx hfr9
        · refine ex_aload_n (pc := 70) dX5_lookOver_70 rfl ?_
          refine ex_getfield (pc := 71) dX5_lookOver_71 fk_X5_18 h2_q (by rfl) ?_
          refine ex_aload_n (pc := 74) dX5_lookOver_74 rfl ?_
          refine ex_getfield (pc := 75) dX5_lookOver_75 fk_X5_9 h2_q (by rfl) ?_
          refine ex_iload_n (pc := 78) dX5_lookOver_78 rfl ?_
          refine ex_iaload (pc := 79) dX5_lookOver_79 h2_T (by omega) (by omega) ?_
          rw [hkx, up_s, p44]
          refine ex_aload_n (pc := 80) dX5_lookOver_80 rfl ?_
          refine ex_getfield (pc := 81) dX5_lookOver_81 fk_X5_15 h2_q (by rfl) ?_
          refine ex_iload_n (pc := 84) dX5_lookOver_84 rfl ?_
          refine ex_iaload (pc := 85) dX5_lookOver_85 h2_P (by omega) (by omega) ?_
          rw [hkx, up_s, p55]
          refine ex_callSI (as := [_, _]) (pc := 86) dX5_lookOver_86 (tX6_codeOf (by omega)) lk_X5_70 ykX6_codeOf zkX6_codeOf rfl rfl (Nat.le_of_ble_eq_true rfl) ⟨by decide, by decide⟩ ⟨Nat.le_refl _, Nat.le_refl _⟩ (fun i86 w3 r86 p86 => ?_)
          obtain ⟨e86, p86⟩ := p86
          rw [e86]
          have h86 : i86 = cs.getD x 0 := by omega
          rw [h86]
          refine ex_iload_n (pc := 89) dX5_lookOver_89 rfl ?_
          refine ex_iastore (pc := 90) dX5_lookOver_90 h2_N (by omega) (by omega) ?_
          refine ex_up (fun w3 e_w3 => ?_)
          have h3_q := ((congrFun e_w3 q).trans (up_n (by omega))).trans h2_q
          have h3_T := ((congrFun e_w3 (q + 1)).trans (up_n (by omega))).trans h2_T
          have h3_P := ((congrFun e_w3 (q + 2)).trans (up_n (by omega))).trans h2_P
          have h3_N := (congrFun e_w3 (q + 3)).trans up_s
          have h3_A := ((congrFun e_w3 (q + 4)).trans (up_n (by omega))).trans h2_A
          have h3_W := ((congrFun e_w3 (q + 5)).trans (up_n (by omega))).trans h2_W
          have h3_S := ((congrFun e_w3 (q + 6)).trans (up_n (by omega))).trans h2_S
          have h3_U := ((congrFun e_w3 (q + 7)).trans (up_n (by omega))).trans h2_U
          have h3_V := ((congrFun e_w3 (q + 8)).trans (up_n (by omega))).trans h2_V
          have h3_r := ((congrFun e_w3 r).trans (up_n (by omega))).trans h2_r
          refine ex_iinc (L2 := [_, _, _, _]) (pc := 91) dX5_lookOver_91 rfl rfl (Nat.le_of_ble_eq_true rfl) (by unfold inI; omega) rfl ?_
          refine ex_goto (pc := 94) dX5_lookOver_94 (tgt := 29) (by decide) ?_
          have hfr9 : ∀ z, (z < q ∨ q + 8 < z) → w3 z = W z := fun z hz => by rw [e_w3, up_n (by omega)]; rw [e_w2, up_n (by omega)]; rw [e_w1, up_n (by omega)]; exact hfr z hz
          have hp9 : PcAt w3 r a cs mo := hp0.fr (hfr9 r hr) (hfr9 a ha)
          have htx : ∀ i, i < x + 1 → va_up tf (x : Int).toNat i44 i = tmL cs i ∧ va_up pf (x : Int).toNat i55 i = ptL cs i := by
            intro i hi
            by_cases y : i = x
            · rw [y, hkx, up_s, up_s, p44, p55]; exact ⟨rfl, rfl⟩
            · rw [hkx, up_n y, up_n y]; exact htf i (by omega)
          have hbx : ∀ k, k < 14 → -100 ≤ va_up tf (x : Int).toNat i44 k ∧ va_up tf (x : Int).toNat i44 k ≤ 100 ∧ -100 ≤ va_up pf (x : Int).toNat i55 k ∧ va_up pf (x : Int).toNat i55 k ≤ 100 := by
            intro i hi
            by_cases y : i = x
            · rw [y, hkx, up_s, up_s]; omega
            · rw [hkx, up_n y, up_n y]; exact hb i hi
          have hnx : ∀ i, i < 240 → va_up nu (cs.getD x 0).toNat (x : Int) i = nuS cs pr (x + 1) i := by
            intro i hi
            rw [nuS_s, if_pos (p64.mp (by omega))]
            by_cases y : i = (cs.getD x 0).toNat
            · rw [y, up_s, up_s]
            · rw [up_n y, up_n y]; exact hnu i hi
          exact ih (x + 1) (by omega) (by omega) w3 _ _ _ h3_q h3_T h3_P h3_N h3_A h3_W h3_S h3_U h3_V h3_r hp9 hbx htx hnx hfr9
  refine ex_aload_n (pc := 0) dX5_lookOver_0 rfl ?_
  refine ex_aload_n (pc := 1) dX5_lookOver_1 rfl ?_
  refine ex_getfield (pc := 2) dX5_lookOver_2 fk_X5_36 h_r (by rfl) ?_
  refine ex_putA (pc := 5) dX5_lookOver_5 fk_X5_42 (ty := tyX5 6) (fun _ _ _ h9 => by cases h9; exact ⟨tyX5_ok 6 (by decide), rfl⟩) h_q (Nat.le_of_ble_eq_true rfl) (fun _ => rfl) (fun _ => rfl) ?_
  refine ex_up (fun w1 e_w1 => ?_)
  have h1_q := (congrFun e_w1 q).trans up_s
  have h1_T := ((congrFun e_w1 (q + 1)).trans (up_n (by omega))).trans h_T
  have h1_P := ((congrFun e_w1 (q + 2)).trans (up_n (by omega))).trans h_P
  have h1_N := ((congrFun e_w1 (q + 3)).trans (up_n (by omega))).trans h_N
  have h1_A := ((congrFun e_w1 (q + 4)).trans (up_n (by omega))).trans h_A
  have h1_W := ((congrFun e_w1 (q + 5)).trans (up_n (by omega))).trans h_W
  have h1_S := ((congrFun e_w1 (q + 6)).trans (up_n (by omega))).trans h_S
  have h1_U := ((congrFun e_w1 (q + 7)).trans (up_n (by omega))).trans h_U
  have h1_V := ((congrFun e_w1 (q + 8)).trans (up_n (by omega))).trans h_V
  have h1_r := ((congrFun e_w1 r).trans (up_n (by omega))).trans h_r
  have hp1 : PcAt w1 r a cs mo := hp0.fr ((congrFun e_w1 r).trans (up_n (by omega))) ((congrFun e_w1 a).trans (up_n (by omega)))
  refine ex_aload_n (pc := 8) dX5_lookOver_8 rfl ?_
  refine ex_iload_n (pc := 9) dX5_lookOver_9 rfl ?_
  refine ex_aload_n (pc := 10) dX5_lookOver_10 rfl ?_
  refine ex_callVI (as := []) (pc := 11) dX5_lookOver_11 (lX2_allNotes hp1) lk_X5_43 ykX2_allNotes vkX2_allNotes h1_r rfl rfl rfl (Nat.le_of_ble_eq_true rfl) ⟨by decide, by decide⟩ ⟨Nat.le_refl _, Nat.le_refl _⟩ (fun i11 w2 r11 p11 => ?_)
  obtain ⟨e11, p11⟩ := p11
  rw [e11]
  subst p11
  refine ex_iand (pc := 14) dX5_lookOver_14 ?_
  refine ex_eq (xand_n (by omega)) ?_
  rw [show pr &&& (2 ^ cs.length - 1) = pr by rw [Nat.and_two_pow_sub_one_eq_mod, Nat.mod_eq_of_lt hprl]]
  refine ex_putA (pc := 15) dX5_lookOver_15 fk_X5_47 (ty := tyX5 7) (fun _ _ _ h9 => by cases h9; exact ⟨tyX5_ok 7 (by decide), rfl⟩) h1_q (Nat.le_of_ble_eq_true rfl) (fun _ => rfl) (fun _ => rfl) ?_
  refine ex_up (fun w2 e_w2 => ?_)
  have h2_q := (congrFun e_w2 q).trans up_s
  have h2_T := ((congrFun e_w2 (q + 1)).trans (up_n (by omega))).trans h1_T
  have h2_P := ((congrFun e_w2 (q + 2)).trans (up_n (by omega))).trans h1_P
  have h2_N := ((congrFun e_w2 (q + 3)).trans (up_n (by omega))).trans h1_N
  have h2_A := ((congrFun e_w2 (q + 4)).trans (up_n (by omega))).trans h1_A
  have h2_W := ((congrFun e_w2 (q + 5)).trans (up_n (by omega))).trans h1_W
  have h2_S := ((congrFun e_w2 (q + 6)).trans (up_n (by omega))).trans h1_S
  have h2_U := ((congrFun e_w2 (q + 7)).trans (up_n (by omega))).trans h1_U
  have h2_V := ((congrFun e_w2 (q + 8)).trans (up_n (by omega))).trans h1_V
  have h2_r := ((congrFun e_w2 r).trans (up_n (by omega))).trans h1_r
  refine ex_aload_n (pc := 18) dX5_lookOver_18 rfl ?_
  refine ex_getfield (pc := 19) dX5_lookOver_19 fk_X5_18 h2_q (by rfl) ?_
  refine ex_bipush (pc := 22) dX5_lookOver_22 (by decide) ?_
  refine ex_callSV (as := [_, _]) (pc := 24) dX5_lookOver_24 (tJ7_fill_53178 h2_N (by omega)) lk_X5_50 ykJ7_fill_53178 zkJ7_fill_53178 rfl rfl (Nat.le_of_ble_eq_true rfl) ⟨by decide, by decide⟩ ⟨Nat.le_refl _, Nat.le_refl _⟩ (fun w3 p24 => ?_)
  have e24 : w3 = _ := p24
  have h3_q := (congrFun e24 q).trans ((up_n (by omega)).trans h2_q)
  have h3_T := (congrFun e24 (q + 1)).trans ((up_n (by omega)).trans h2_T)
  have h3_P := (congrFun e24 (q + 2)).trans ((up_n (by omega)).trans h2_P)
  have h3_A := (congrFun e24 (q + 4)).trans ((up_n (by omega)).trans h2_A)
  have h3_W := (congrFun e24 (q + 5)).trans ((up_n (by omega)).trans h2_W)
  have h3_S := (congrFun e24 (q + 6)).trans ((up_n (by omega)).trans h2_S)
  have h3_U := (congrFun e24 (q + 7)).trans ((up_n (by omega)).trans h2_U)
  have h3_V := (congrFun e24 (q + 8)).trans ((up_n (by omega)).trans h2_V)
  have h3_r := (congrFun e24 r).trans ((up_n (by omega)).trans h2_r)
  have h3_N := (congrFun e24 (q + 3)).trans up_s
  refine ex_iconst (pc := 27) dX5_lookOver_27 (by decide) ?_
  refine ex_istore_n (L2 := [_, _, _, _]) (pc := 28) dX5_lookOver_28 rfl (Nat.le_of_ble_eq_true rfl) rfl ?_
  have hfr9 : ∀ z, (z < q ∨ q + 8 < z) → w3 z = W z := fun z hz => by rw [e24, up_n (by omega), e_w2, up_n (by omega), e_w1, up_n (by omega)]
  exact loop (cs.length + 1) 0 (by omega) (by omega) w3 _ _ _ h3_q h3_T h3_P h3_N h3_A h3_W h3_S h3_U h3_V h3_r (hp0.fr (hfr9 r hr) (hfr9 a ha)) hb (fun i hi => absurd hi (Nat.not_lt_zero _)) (fun i hi => by show (if i < 240 then (-4 : Int) else nu i) = -4; rw [if_pos hi]) hfr9

