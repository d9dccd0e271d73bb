theorem bit_len {pr : Nat} {cs : List Int} (hp : pr < 2 ^ cs.length) {b : Nat} (hb : pr.testBit b = true) : b < cs.length := by
  rcases Nat.lt_or_ge b cs.length with q | q
  · exact q
  · rw [Nat.testBit_lt_two_pow (Nat.lt_of_lt_of_le hp (Nat.pow_le_pow_right (by decide) q))] at hb; cases hb
theorem nuS_ex (cs : List Int) (pr : Nat) : ∀ i z, 0 ≤ nuS cs pr i z ↔ ∃ m, m < i ∧ pr.testBit m = true ∧ (cs.getD m 0).toNat = z := by
  intro i
  induction i with
  | zero =>
    intro z
    constructor
    · intro h
      have h : (0 : Int) ≤ -4 := h
      omega
    · rintro ⟨m, h, -⟩; omega
  | succ i ih =>
    intro z
    rw [nuS_s]
    by_cases h : pr.testBit i = true
    · rw [if_pos h]
      by_cases e : z = (cs.getD i 0).toNat
      · rw [e, up_s]
        constructor
        · intro _; exact ⟨i, by omega, h, rfl⟩
        · intro _; omega
      · rw [up_n e, ih]
        constructor
        · rintro ⟨m, h1, h2, h3⟩; exact ⟨m, by omega, h2, h3⟩
        · rintro ⟨m, h1, h2, h3⟩
          refine ⟨m, ?_, h2, h3⟩
          rcases Nat.lt_or_ge m i with q | q
          · exact q
          · have : m = i := by omega
            subst this
            exact absurd h3.symm e
    · rw [if_neg h, ih]
      constructor
      · rintro ⟨m, h1, h2, h3⟩; exact ⟨m, by omega, h2, h3⟩
      · rintro ⟨m, h1, h2, h3⟩
        refine ⟨m, ?_, h2, h3⟩
        rcases Nat.lt_or_ge m i with q | q
        · exact q
        · have : m = i := by omega
          subst this
          exact absurd h2 h
theorem nA_ex {cs : List Int} {pr : Nat} (hc : Cod cs) (t b : Int) : 0 ≤ nA (nuS cs pr cs.length) t b ↔ ∃ m, m < cs.length ∧ pr.testBit m = true ∧ tmL cs m = t ∧ ptL cs m = b := by
  unfold nA tmL ptL
  constructor
  · intro h
    split at h
    · rw [nuS_ex] at h
      obtain ⟨m, h1, h2, h3⟩ := h
      have := hc m h1
      exact ⟨m, h1, h2, by omega, by omega⟩
    · omega
  · rintro ⟨m, h1, h2, h3, h4⟩
    have := hc m h1
    rw [if_pos (by omega), nuS_ex]
    exact ⟨m, h1, h2, by omega⟩
theorem metS_ex {cs : List Int} {mo : Int} {pr : Nat} (hc : Cod cs) {b k : Nat} (hb : b < cs.length) (hk : k < 897) (hm : ¬ (mo = 1 ∧ eK k < 0)) : 0 ≤ mtS cs mo pr b k ↔ ∃ m, m < cs.length ∧ pr.testBit m = true ∧ hitP mo (tmL cs m - tmL cs b) (ptL cs m - ptL cs b) k := by
  have hcb := hc b hb
  have hpb : 0 ≤ ptL cs b ∧ ptL cs b < 12 := by unfold ptL; omega
  have hek : -11 ≤ eK k ∧ eK k ≤ 11 := by unfold eK; omega
  have hpm : ∀ m, m < cs.length → 0 ≤ ptL cs m ∧ ptL cs m < 12 := by
    intro m hm
    have := hc m hm
    unfold ptL; omega
  unfold mtS metS metF hitP
  by_cases h1 : mo = 1
  · rw [if_pos h1, nA_ex hc]
    constructor
    · rintro ⟨m, q1, q2, q3, q4⟩
      have := hpm m q1
      refine ⟨m, q1, q2, by omega, ?_⟩
      rw [if_pos h1]; omega
    · rintro ⟨m, q1, q2, q3, q4⟩
      rw [if_pos h1] at q4
      have := hpm m q1
      exact ⟨m, q1, q2, by omega, by omega⟩
  · rw [if_neg h1]
    by_cases h2 : mo = 2
    · have key : ∀ x : Int, 0 ≤ nA (nuS cs pr cs.length) (tmL cs b + dK k) x ↔ ∃ m, m < cs.length ∧ pr.testBit m = true ∧ tmL cs m = tmL cs b + dK k ∧ ptL cs m = x := fun x => nA_ex hc _ _
      constructor
      · intro h
        split at h
        · split at h
          · obtain ⟨m, q1, q2, q3, q4⟩ := (key _).mp h
            refine ⟨m, q1, q2, by omega, ?_⟩
            rw [if_neg h1, if_pos h2]; omega
          · obtain ⟨m, q1, q2, q3, q4⟩ := (key _).mp h
            refine ⟨m, q1, q2, by omega, ?_⟩
            rw [if_neg h1, if_pos h2]; omega
        · obtain ⟨m, q1, q2, q3, q4⟩ := (key _).mp h
          refine ⟨m, q1, q2, by omega, ?_⟩
          rw [if_neg h1, if_pos h2]; omega
      · rintro ⟨m, q1, q2, q3, q4⟩
        rw [if_neg h1, if_pos h2] at q4
        by_cases z1 : nA (nuS cs pr cs.length) (tmL cs b + dK k) (ptL cs b + eK k) < 0
        · rw [if_pos ⟨z1, h2⟩]
          by_cases z2 : nA (nuS cs pr cs.length) (tmL cs b + dK k) (ptL cs b + eK k - 1) < 0
          · rw [if_pos z2, key]
            refine ⟨m, q1, q2, by omega, ?_⟩
            rcases q4 with q | q | q
            · have := (key (ptL cs b + eK k)).mpr ⟨m, q1, q2, by omega, by omega⟩; omega
            · omega
            · have := (key (ptL cs b + eK k - 1)).mpr ⟨m, q1, q2, by omega, by omega⟩; omega
          · rw [if_neg z2]; omega
        · rw [if_neg (fun q => z1 q.1)]; omega
    · rw [if_neg (fun q => h2 q.2), nA_ex hc]
      constructor
      · rintro ⟨m, q1, q2, q3, q4⟩
        refine ⟨m, q1, q2, by omega, ?_⟩
        rw [if_neg h1, if_neg h2]; omega
      · rintro ⟨m, q1, q2, q3, q4⟩
        rw [if_neg h1, if_neg h2] at q4
        exact ⟨m, q1, q2, by omega, by omega⟩
theorem lgS_met {cs : List Int} {mo : Int} {pr : Nat} (hc : Cod cs) (hl : cs.length ≤ 14) (hp : pr < 2 ^ cs.length) {k : Nat} (hk : k < 897) (hm : ¬ (mo = 1 ∧ eK k < 0)) (b : Nat) : (lgS cs mo pr k).testBit b = true ↔ pr.testBit b = true ∧ 0 ≤ mtS cs mo pr b k := by
  rw [lgS_bit]
  constructor
  · rintro ⟨-, h1, m, h2, h3, h4⟩
    exact ⟨h1, (metS_ex hc (bit_len hp h1) hk hm).mpr ⟨m, bit_len hp h3, h3, h4⟩⟩
  · rintro ⟨h1, h2⟩
    obtain ⟨m, q1, q2, q3⟩ := (metS_ex hc (bit_len hp h1) hk hm).mp h2
    exact ⟨Nat.lt_of_lt_of_le (bit_len hp h1) hl, h1, m, by omega, q2, q3⟩
theorem lgS_neg {cs : List Int} {mo : Int} {pr k : Nat} (hm : mo = 1 ∧ eK k < 0) : lgS cs mo pr k = 0 := by
  apply Nat.eq_of_testBit_eq
  intro b
  rw [Nat.zero_testBit]
  cases e : (lgS cs mo pr k).testBit b with
  | false => rfl
  | true =>
    exfalso
    obtain ⟨-, -, m, -, -, h⟩ := lgS_bit.mp e
    unfold hitP at h
    rw [if_pos hm.1] at h
    omega
theorem bool_ext {x y : Bool} (h : x = true ↔ y = true) : x = y := by cases x <;> cases y <;> simp at h ⊢
theorem lgS_bs {cs : List Int} {mo : Int} {pr : Nat} (hc : Cod cs) (hl : cs.length ≤ 14) (hp : pr < 2 ^ cs.length) {k : Nat} (hk : k < 897) (hm : ¬ (mo = 1 ∧ eK k < 0)) : lgS cs mo pr k = bs (fun b => pr.testBit b && decide (0 ≤ mtS cs mo pr b k)) cs.length := by
  apply eq_bs
  intro i
  apply bool_ext
  rw [lgS_met hc hl hp hk hm, Bool.and_eq_true, Bool.and_eq_true, decide_eq_true_eq, decide_eq_true_eq]
  exact ⟨fun h => ⟨bit_len hp h.1, h⟩, fun h => h.2⟩
theorem bs_s {P : Nat → Bool} {n : Nat} : bs P (n + 1) = if P n then bs P n ||| 2 ^ n else bs P n := rfl
theorem nA_rng {nu : Nat → Int} (h : ∀ z, z < 240 → nu z = -4 ∨ 0 ≤ nu z) (t b : Int) : nA nu t b = -4 ∨ 0 ≤ nA nu t b := by
  unfold nA
  split
  · exact h _ (by omega)
  · exact Or.inl rfl
/-- the rows are laid for these notes -/
def LdAt (w : xW) (cs : List Int) (mo : Int) (pr : Nat) : Prop := ∃ nu lg, w 62 = xA 240 nu ∧ (∀ z, z < 240 → nu z = nuS cs pr cs.length z) ∧ w 63 = xA 897 lg ∧ ∀ k, k < 897 → lg k = (lgS cs mo pr k : Int)
theorem LdAt.fr {w w2 : xW} {cs : List Int} {mo : Int} {pr : Nat} (h : LdAt w cs mo pr) (h1 : w2 62 = w 62) (h2 : w2 63 = w 63) : LdAt w2 cs mo pr := by
  obtain ⟨nu, lg, q1, q2, q3, q4⟩ := h
  exact ⟨nu, lg, h1.trans q1, q2, h2.trans q3, q4⟩
abbrev mX7_standsAt : xC := mkC yX7_standsAt cX7_standsAt 3 (some .int) 3 300 0 0
set_option maxHeartbeats 4000000 in
set_option maxRecDepth 100000 in
theorem tX7_standsAt {n : Nat} {w : xW} {nu : Nat → Int} {uu kk ln pl mn pq cv sh be bg bc bp pa re px : Int} (h_o : w 55 = rO uu kk ln pl mn pq cv sh be bg bc bp pa re px) (h_A : w 62 = xA 240 nu) {x y : Int} (hx : -1000 ≤ x ∧ x ≤ 1000 ∧ -1000 ≤ y ∧ y ≤ 1000) : Ctr mX7_standsAt [xr 55, xi x, xi y] n w (pI (fun v w2 => w2 = w ∧ v = nA nu x y)) := by
  refine Ctr.of ykX7_standsAt rfl (Nat.le_of_ble_eq_true rfl) okI (fun hin hW => ?_)
  show Ex _ _ 0 0 n w 0 [some (xr 55), some (xi x), some (xi y)] []
  refine ex_iload_n (pc := 0) dX7_standsAt_0 rfl ?_
  refine ex_iload_n (pc := 1) dX7_standsAt_1 rfl ?_
  refine ex_callSZ (as := [_, _]) (pc := 2) dX7_standsAt_2 (tX7_isThere) lk_X7_96 ykX7_isThere zkX7_isThere rfl rfl (Nat.le_of_ble_eq_true rfl) ⟨by decide, by decide⟩ ⟨Nat.le_refl _, Nat.le_refl _⟩ (fun i2 w1 r2 p2 => ?_)
  obtain ⟨e2, p2⟩ := p2
  rw [e2]
  refine ex_if_eq (pc := 5) dX7_standsAt_5 (tgt := 22) (by decide) (fun c5 => ?_) (fun c5 => ?_)
  · refine ex_bipush (pc := 22) dX7_standsAt_22 (by decide) ?_
    exact ex_iret (pc := 24) dX7_standsAt_24 ⟨rfl, by unfold nA; rw [if_neg (by omega)]⟩ rfl (Nat.le_refl _)
  · refine ex_aload_n (pc := 8) dX7_standsAt_8 rfl ?_
    refine ex_getfield (pc := 9) dX7_standsAt_9 fk_X7_28 h_o (by rfl) ?_
    refine ex_bipush (pc := 12) dX7_standsAt_12 (by decide) ?_
    refine ex_iload_n (pc := 14) dX7_standsAt_14 rfl ?_
    refine ex_imul (pc := 15) dX7_standsAt_15 (by unfold inI; omega) ?_
    refine ex_iload_n (pc := 16) dX7_standsAt_16 rfl ?_
    refine ex_iadd (pc := 17) dX7_standsAt_17 (by unfold inI; omega) ?_
    refine ex_iaload (pc := 18) dX7_standsAt_18 h_A (by omega) (by omega) ?_
    refine ex_goto (pc := 19) dX7_standsAt_19 (tgt := 24) (by decide) ?_
    exact ex_iret (pc := 24) dX7_standsAt_24 ⟨rfl, by unfold nA; rw [if_pos (by omega), show x * 12 + y = 12 * x + y by omega]⟩ rfl (Nat.le_refl _)

abbrev mX7_firstPitch : xC := mkC yX7_firstPitch cX7_firstPitch 1 (some .int) 1 100 0 0
set_option maxHeartbeats 4000000 in
set_option maxRecDepth 100000 in
theorem tX7_firstPitch {n : Nat} {w : xW} {uu kk ln pl mn pq cv sh be bg bc bp pa re px : Int} (h_o : w 55 = rO uu kk ln pl mn pq cv sh be bg bc bp pa re px) : Ctr mX7_firstPitch [xr 55] n w (pI (fun v w2 => w2 = w ∧ v = if mn = 1 then 0 else -11)) := by
  refine Ctr.of ykX7_firstPitch rfl (Nat.le_of_ble_eq_true rfl) okI (fun hin hW => ?_)
  show Ex _ _ 0 0 n w 0 [some (xr 55)] []
  refine ex_aload_n (pc := 0) dX7_firstPitch_0 rfl ?_
  refine ex_getfield (pc := 1) dX7_firstPitch_1 fk_X7_110 h_o (by rfl) ?_
  refine ex_iconst (pc := 4) dX7_firstPitch_4 (by decide) ?_
  refine ex_icmp_ne (pc := 5) dX7_firstPitch_5 (tgt := 12) (by decide) (fun c5 => ?_) (fun c5 => ?_)
  · refine ex_bipush (pc := 12) dX7_firstPitch_12 (by decide) ?_
    exact ex_iret (pc := 14) dX7_firstPitch_14 ⟨rfl, by rw [if_neg (by omega)]⟩ rfl (Nat.le_refl _)
  · refine ex_iconst (pc := 8) dX7_firstPitch_8 (by decide) ?_
    refine ex_goto (pc := 9) dX7_firstPitch_9 (tgt := 14) (by decide) ?_
    exact ex_iret (pc := 14) dX7_firstPitch_14 ⟨rfl, by rw [if_pos (by omega)]⟩ rfl (Nat.le_refl _)

abbrev mX7_metBy : xC := mkC yX7_metBy cX7_metBy 8 (some .int) 4 400 0 0
set_option maxHeartbeats 4000000 in
set_option maxRecDepth 100000 in
theorem tX7_metBy {n : Nat} {w : xW} {a : Nat} {f nu : Nat → Int} {cs : List Int} {mo m9 : Int} {uu kk ln pl pq cv sh be bg bc bp pa re px : Int} (h_o : w 55 = rO uu kk ln pl (mo) pq cv sh be bg bc bp pa re px) (h_T : w a = xA 30 f) (hR : RowL f 0 cs m9) (h_A : w 62 = xA 240 nu) (hl : cs.length ≤ 14) (hcd : Cod cs) (hnu : ∀ z, z < 240 → nu z = -4 ∨ 0 ≤ nu z) {q : Nat} (hq : q < cs.length) {d e : Int} (hde : -100 ≤ d ∧ d ≤ 100 ∧ -12 ≤ e ∧ e ≤ 100) : Ctr mX7_metBy [xr 55, xr a, xi q, xi d, xi e] n w (pI (fun v w2 => w2 = w ∧ v = metF (tmL cs) (ptL cs) nu mo q d e)) := by
  refine Ctr.of ykX7_metBy rfl (Nat.le_of_ble_eq_true rfl) okI (fun hin hW => ?_)
  show Ex _ _ 0 0 n w 0 [some (xr 55), some (xr a), some (xi q), some (xi d), some (xi e), none, none, none] []
  have h9 := hR.2.2 q (by omega)
  have e2 : f ((2 : Int) + (q : Int)).toNat = tmL cs q := by rw [← h9.1, show ((2 : Int) + (q : Int)).toNat = 0 + 2 + q by omega]
  have e16 : f ((16 : Int) + (q : Int)).toNat = ptL cs q := by rw [← h9.2, show ((16 : Int) + (q : Int)).toNat = 0 + 16 + q by omega]
  have hck := hcd q (by omega)
  have htm : 0 ≤ tmL cs q ∧ tmL cs q < 20 ∧ 0 ≤ ptL cs q ∧ ptL cs q < 12 := by unfold tmL ptL; omega
  have hnA := nA_rng hnu
  refine ex_aload_n (pc := 0) dX7_metBy_0 rfl ?_
  refine ex_iconst (pc := 1) dX7_metBy_1 (by decide) ?_
  refine ex_iload_n (pc := 2) dX7_metBy_2 rfl ?_
  refine ex_iadd (pc := 3) dX7_metBy_3 (by unfold inI; omega) ?_
  refine ex_iaload (pc := 4) dX7_metBy_4 h_T (by omega) (by omega) ?_
  rw [e2]
  refine ex_iload_n (pc := 5) dX7_metBy_5 rfl ?_
  refine ex_iadd (pc := 6) dX7_metBy_6 (by unfold inI; omega) ?_
  refine ex_istore (L2 := [_, _, _, _, _, _, _, _]) (pc := 7) dX7_metBy_7 rfl (Nat.le_of_ble_eq_true rfl) rfl ?_
  refine ex_aload_n (pc := 9) dX7_metBy_9 rfl ?_
  refine ex_bipush (pc := 10) dX7_metBy_10 (by decide) ?_
  refine ex_iload_n (pc := 12) dX7_metBy_12 rfl ?_
  refine ex_iadd (pc := 13) dX7_metBy_13 (by unfold inI; omega) ?_
  refine ex_iaload (pc := 14) dX7_metBy_14 h_T (by omega) (by omega) ?_
  rw [e16]
  refine ex_iload (pc := 15) dX7_metBy_15 rfl ?_
  refine ex_iadd (pc := 17) dX7_metBy_17 (by unfold inI; omega) ?_
  refine ex_istore (L2 := [_, _, _, _, _, _, _, _]) (pc := 18) dX7_metBy_18 rfl (Nat.le_of_ble_eq_true rfl) rfl ?_
  refine ex_aload_n (pc := 20) dX7_metBy_20 rfl ?_
  refine ex_getfield (pc := 21) dX7_metBy_21 fk_X7_110 h_o (by rfl) ?_
  refine ex_iconst (pc := 24) dX7_metBy_24 (by decide) ?_
  refine ex_icmp_ne (pc := 25) dX7_metBy_25 (tgt := 43) (by decide) (fun c25 => ?_) (fun c25 => ?_)
  · refine ex_aload_n (pc := 43) dX7_metBy_43 rfl ?_
    refine ex_iload (pc := 44) dX7_metBy_44 rfl ?_
    refine ex_iload (pc := 46) dX7_metBy_46 rfl ?_
    refine ex_callVI (as := [_, _]) (pc := 48) dX7_metBy_48 (tX7_standsAt h_o h_A (by omega)) lk_X7_113 ykX7_standsAt vkX7_standsAt h_o rfl rfl rfl (Nat.le_of_ble_eq_true rfl) ⟨by decide, by decide⟩ ⟨Nat.le_refl _, Nat.le_refl _⟩ (fun i48 w1 r48 p48 => ?_)
    obtain ⟨e48, p48⟩ := p48
    rw [e48]
    have z48 := hnA (tmL cs q + d) (ptL cs q + e)
    refine ex_istore (L2 := [_, _, _, _, _, _, _, _]) (pc := 51) dX7_metBy_51 rfl (Nat.le_of_ble_eq_true rfl) rfl ?_
    refine ex_iload (pc := 53) dX7_metBy_53 rfl ?_
    refine ex_bipush (pc := 55) dX7_metBy_55 (by decide) ?_
    refine ex_icmp_ne (pc := 57) dX7_metBy_57 (tgt := 104) (by decide) (fun c57 => ?_) (fun c57 => ?_)
    · refine ex_iload (pc := 104) dX7_metBy_104 rfl ?_
      exact ex_iret (pc := 106) dX7_metBy_106 ⟨rfl, by unfold metF; rw [if_neg (by omega), if_neg (by omega)]; exact p48⟩ rfl (Nat.le_refl _)
    · refine ex_aload_n (pc := 60) dX7_metBy_60 rfl ?_
      refine ex_getfield (pc := 61) dX7_metBy_61 fk_X7_110 h_o (by rfl) ?_
      refine ex_iconst (pc := 64) dX7_metBy_64 (by decide) ?_
      refine ex_icmp_ne (pc := 65) dX7_metBy_65 (tgt := 104) (by decide) (fun c65 => ?_) (fun c65 => ?_)
      · refine ex_iload (pc := 104) dX7_metBy_104 rfl ?_
        exact ex_iret (pc := 106) dX7_metBy_106 ⟨rfl, by unfold metF; rw [if_neg (by omega), if_neg (by omega)]; exact p48⟩ rfl (Nat.le_refl _)
      · refine ex_aload_n (pc := 68) dX7_metBy_68 rfl ?_
        refine ex_iload (pc := 69) dX7_metBy_69 rfl ?_
        refine ex_iload (pc := 71) dX7_metBy_71 rfl ?_
        refine ex_iconst (pc := 73) dX7_metBy_73 (by decide) ?_
        refine ex_isub (pc := 74) dX7_metBy_74 (by unfold inI; omega) ?_
        refine ex_callVI (as := [_, _]) (pc := 75) dX7_metBy_75 (tX7_standsAt h_o h_A (by omega)) lk_X7_113 ykX7_standsAt vkX7_standsAt h_o rfl rfl rfl (Nat.le_of_ble_eq_true rfl) ⟨by decide, by decide⟩ ⟨Nat.le_refl _, Nat.le_refl _⟩ (fun i75 w1 r75 p75 => ?_)
        obtain ⟨e75, p75⟩ := p75
        rw [e75]
        have z75 := hnA (tmL cs q + d) (ptL cs q + e - 1)
        refine ex_istore (L2 := [_, _, _, _, _, _, _, _]) (pc := 78) dX7_metBy_78 rfl (Nat.le_of_ble_eq_true rfl) rfl ?_
        refine ex_iload (pc := 80) dX7_metBy_80 rfl ?_
        refine ex_bipush (pc := 82) dX7_metBy_82 (by decide) ?_
        refine ex_icmp_ne (pc := 84) dX7_metBy_84 (tgt := 100) (by decide) (fun c84 => ?_) (fun c84 => ?_)
        · refine ex_iload (pc := 100) dX7_metBy_100 rfl ?_
          refine ex_istore (L2 := [_, _, _, _, _, _, _, _]) (pc := 102) dX7_metBy_102 rfl (Nat.le_of_ble_eq_true rfl) rfl ?_
          refine ex_iload (pc := 104) dX7_metBy_104 rfl ?_
          exact ex_iret (pc := 106) dX7_metBy_106 ⟨rfl, by unfold metF; rw [if_neg (by omega), if_pos ⟨by omega, by omega⟩, if_neg (by omega)]; exact p75⟩ rfl (Nat.le_refl _)
        · refine ex_aload_n (pc := 87) dX7_metBy_87 rfl ?_
          refine ex_iload (pc := 88) dX7_metBy_88 rfl ?_
          refine ex_iload (pc := 90) dX7_metBy_90 rfl ?_
          refine ex_iconst (pc := 92) dX7_metBy_92 (by decide) ?_
          refine ex_iadd (pc := 93) dX7_metBy_93 (by unfold inI; omega) ?_
          refine ex_callVI (as := [_, _]) (pc := 94) dX7_metBy_94 (tX7_standsAt h_o h_A (by omega)) lk_X7_113 ykX7_standsAt vkX7_standsAt h_o rfl rfl rfl (Nat.le_of_ble_eq_true rfl) ⟨by decide, by decide⟩ ⟨Nat.le_refl _, Nat.le_refl _⟩ (fun i94 w1 r94 p94 => ?_)
          obtain ⟨e94, p94⟩ := p94
          rw [e94]
          refine ex_goto (pc := 97) dX7_metBy_97 (tgt := 102) (by decide) ?_
          refine ex_istore (L2 := [_, _, _, _, _, _, _, _]) (pc := 102) dX7_metBy_102 rfl (Nat.le_of_ble_eq_true rfl) rfl ?_
          refine ex_iload (pc := 104) dX7_metBy_104 rfl ?_
          exact ex_iret (pc := 106) dX7_metBy_106 ⟨rfl, by unfold metF; rw [if_neg (by omega), if_pos ⟨by omega, by omega⟩, if_pos (by omega)]; exact p94⟩ rfl (Nat.le_refl _)
  · refine ex_aload_n (pc := 28) dX7_metBy_28 rfl ?_
    refine ex_iload (pc := 29) dX7_metBy_29 rfl ?_
    refine ex_iload (pc := 31) dX7_metBy_31 rfl ?_
    refine ex_bipush (pc := 33) dX7_metBy_33 (by decide) ?_
    refine ex_iadd (pc := 35) dX7_metBy_35 (by unfold inI; omega) ?_
    refine ex_bipush (pc := 36) dX7_metBy_36 (by decide) ?_
    refine ex_irem (pc := 38) dX7_metBy_38 (by omega) (by omega) ?_
    refine ex_callVI (as := [_, _]) (pc := 39) dX7_metBy_39 (tX7_standsAt h_o h_A (by omega)) lk_X7_113 ykX7_standsAt vkX7_standsAt h_o rfl rfl rfl (Nat.le_of_ble_eq_true rfl) ⟨by decide, by decide⟩ ⟨Nat.le_refl _, Nat.le_refl _⟩ (fun i39 w1 r39 p39 => ?_)
    obtain ⟨e39, p39⟩ := p39
    rw [e39]
    exact ex_iret (pc := 42) dX7_metBy_42 ⟨rfl, by unfold metF; rw [if_pos (by omega), show (ptL cs q + e) % 12 = (ptL cs q + e + 12) % 12 by omega]; exact p39⟩ rfl (Nat.le_refl _)

