theorem pigeon : ∀ (n : Nat) (L : List Int), (∀ k : Nat, k < n → (k : Int) ∈ L) → n ≤ L.length := by
  intro n
  induction n with
  | zero => intro L _; exact Nat.zero_le _
  | succ n ih =>
    intro L h
    have h1 : (n : Int) ∈ L := h n (by omega)
    have h2 := ih (L.erase (n : Int)) (fun k hk => (List.mem_erase_of_ne (by omega)).mpr (h k (by omega)))
    have h3 := List.length_erase_of_mem h1
    have h4 := List.length_pos_of_mem h1
    omega
theorem numL_mem {c : Int} {cs : List Int} (h : 0 ≤ numL c cs) : c ∈ cs := by
  unfold numL at h
  cases e : cs.findIdx? (fun x => x == c) with
  | none => rw [e] at h; have h : (0 : Int) ≤ -4 := h; omega
  | some k =>
    obtain ⟨h1, h2, -⟩ := List.findIdx?_eq_some_iff_getElem.mp e
    have : cs[k] = c := beq_iff_eq.mp h2
    rw [← this]; exact List.getElem_mem h1
theorem btS_y {cs : List Int} {mo : Int} {k : Nat} (h : numL k cs < 0 ∧ ((btS cs mo k).1 < 0 ∨ (btS cs mo k).2 < gainB (insL k cs) mo)) : btS cs mo (k + 1) = ((k : Int), gainB (insL k cs) mo) := by
  rw [btS, if_pos h]
theorem btS_n {cs : List Int} {mo : Int} {k : Nat} (h : ¬ (numL k cs < 0 ∧ ((btS cs mo k).1 < 0 ∨ (btS cs mo k).2 < gainB (insL k cs) mo))) : btS cs mo (k + 1) = btS cs mo k := by
  rw [btS, if_neg h]
theorem btS_neg {cs : List Int} {mo : Int} : ∀ k, (btS cs mo k).1 < 0 → (btS cs mo k).2 = -10000 := by
  intro k
  induction k with
  | zero => intro _; rfl
  | succ k ih =>
    by_cases h : numL k cs < 0 ∧ ((btS cs mo k).1 < 0 ∨ (btS cs mo k).2 < gainB (insL k cs) mo)
    · rw [btS_y h]; intro q
      have q : (k : Int) < 0 := q
      omega
    · rw [btS_n h]; exact ih
theorem btS_up {cs : List Int} {mo : Int} {k : Nat} (hk : numL k cs < 0) : ∀ d, 0 ≤ (btS cs mo (k + 1 + d)).1 := by
  intro d
  induction d with
  | zero =>
    show 0 ≤ (btS cs mo (k + 1)).1
    by_cases h : (btS cs mo k).1 < 0 ∨ (btS cs mo k).2 < gainB (insL k cs) mo
    · rw [btS_y ⟨hk, h⟩]; show (0 : Int) ≤ (k : Int); omega
    · rw [btS_n (fun q => h q.2)]
      rcases Int.lt_or_le (btS cs mo k).1 0 with q | q
      · exact absurd (Or.inl q) h
      · exact q
  | succ d ih =>
    show 0 ≤ (btS cs mo (k + 1 + d + 1)).1
    by_cases h : numL ((k + 1 + d : Nat) : Int) cs < 0 ∧ ((btS cs mo (k + 1 + d)).1 < 0 ∨ (btS cs mo (k + 1 + d)).2 < gainB (insL ((k + 1 + d : Nat) : Int) cs) mo)
    · rw [btS_y h]; show (0 : Int) ≤ ((k + 1 + d : Nat) : Int); omega
    · rw [btS_n h]; exact ih
theorem btS_ge {cs : List Int} {mo : Int} (hl : cs.length < 14) : 0 ≤ (btS cs mo 240).1 := by
  apply Classical.byContradiction
  intro hno
  have := pigeon 15 cs (fun k hk => by
    apply Classical.byContradiction
    intro hm
    have hneg : numL (k : Int) cs < 0 := by
      rcases Int.lt_or_le (numL (k : Int) cs) 0 with q | q
      · exact q
      · exact absurd (numL_mem q) hm
    have := btS_up (mo := mo) hneg (239 - k)
    rw [show k + 1 + (239 - k) = 240 by omega] at this
    exact hno this)
  omega
/-- what is told of a best place -/
def btW (b : Int) : Int := if b < 0 then -4 else 100 * (b / 12) + b % 12
def btG (g : Int) : Int := if g = -10000 then -4 else g + 100
abbrev mX7_better : xC := mkC yX7_better cX7_better 8 (some .int) 8 800 0 0
set_option maxHeartbeats 4000000 in
set_option maxRecDepth 100000 in
theorem tX7_better {n : Nat} {w : xW} {s : St} (hS : RefS w s) {a : Int} : Ctr mX7_better [xr 55, xi a] n w (pI (fun v w2 => v = opBetter s a ∧ RefS w2 s ∧ FrR w w2)) := by
  refine Ctr.of ykX7_better rfl (Nat.le_of_ble_eq_true rfl) okI (fun hin hW => ?_)
  have hS0 := hS
  obtain ⟨hv, hsc, ⟨pl, mn, pq, cv, sh, be, bg, bc, bp, pa, re, px, h_o⟩, ⟨f, h_n, hR⟩, ⟨g, h_p, hU⟩, hu8, ⟨kf, h_k, hK⟩, hk2, ⟨t, h_t, ht⟩, hlen⟩ := hS
  have hl : s.1.length ≤ 14 := hv.1.2.2.1
  have hl1 : 1 ≤ s.1.length := hv.1.2.1
  have hcd : Cod s.1 := hv.1.1
  have hsc0 := hsc
  obtain ⟨⟨f57, h_r⟩, ⟨f58, h_a⟩, ⟨f62, h_A⟩, ⟨f63, h_G⟩, ⟨f64, h_S⟩, ⟨f65, h_P⟩, ⟨f66, h_F⟩, ⟨f67, h_V⟩⟩ := hsc
  have hal := Al_lt s.1
  have hal2 := Al_16 hl
  have hAl : Al s.1 = 2 ^ s.1.length - 1 := rfl
  show Ex _ _ 0 0 n w 0 [some (xr 55), some (xi a), none, none, none, none, none, none] []
  have loop : s.1.length < 14 → (0 ≤ a ∧ a ≤ 1) → ∀ (d k : Nat), k ≤ 240 → 241 ≤ k + d → ∀ (w9 : xW) (fa fA fG fS fP fF fV : Nat → Int) (mn pq cv sh be bg bc bp pa re : Int) (wh gn an : Int) (x6 x7 : Option xV), w9 55 = rO (s.2.2.1.length) (s.2.2.2.1.length) (s.2.2.2.2.length) pl mn pq cv sh be bg bc bp pa re px → w9 56 = xA 30 f → w9 58 = xA 30 fa → w9 62 = xA 240 fA → w9 63 = xA 897 fG → w9 64 = xA 448 fS → w9 65 = xA 21 fP → w9 66 = xA 16384 fF → w9 67 = xA 448 fV → wh = btW (btS s.1 s.2.1 k).1 → gn = btG (btS s.1 s.2.1 k).2 → (an = 1 ↔ (btS s.1 s.2.1 k).2 ≠ -10000) → (an = 0 ∨ an = 1) → (∀ y, y < 62 → y ≠ 55 → y ≠ 58 → w9 y = w y) → Ex mX7_better (pI (fun v w2 => v = opBetter s a ∧ RefS w2 s ∧ FrR w w2)) 0 0 n w9 37 [some (xr 55), some (xi a), some (xi wh), some (xi gn), some (xi an), some (xi k), x6, x7] [] := by
    intro hl14 ha d
    induction d with
    | zero => intro k h1 h2; omega
    | succ d ih =>
      intro k h1 h2 w9 fa fA fG fS fP fF fV mn pq cv sh be bg bc bp pa re wh gn an x6 x7 h_o h_n h_a h_A h_G h_S h_P h_F h_V hwh hgn han han2 hfr
      refine ex_iload (pc := 37) dX7_better_37 rfl ?_
      refine ex_sipush (pc := 39) dX7_better_39 (by decide) ?_
      refine ex_icmp_ge (pc := 42) dX7_better_42 (tgt := 226) (by decide) (fun c42 => ?_) (fun c42 => ?_)
      · have hk240 : k = 240 := by omega
        subst hk240
        have hge := btS_ge (cs := s.1) (mo := s.2.1) hl14
        refine ex_iload_n (pc := 226) dX7_better_226 rfl ?_
        refine ex_if_ne (pc := 227) dX7_better_227 (tgt := 234) (by decide) (fun c227 => ?_) (fun c227 => ?_)
        · refine ex_iload_n (pc := 234) dX7_better_234 rfl ?_
          exact ex_iret (pc := 235) dX7_better_235 ⟨by unfold opBetter; rw [if_neg (by omega), if_neg (by omega), if_neg (by omega), hgn]; rfl, RefS.qq hS0 h_o ⟨_, h_a⟩ ⟨_, h_A⟩ ⟨_, h_G⟩ ⟨_, h_S⟩ ⟨_, h_P⟩ ⟨_, h_F⟩ ⟨_, h_V⟩ hfr⟩ rfl (Nat.le_refl _)
        · refine ex_iload_n (pc := 230) dX7_better_230 rfl ?_
          refine ex_goto (pc := 231) dX7_better_231 (tgt := 235) (by decide) ?_
          exact ex_iret (pc := 235) dX7_better_235 ⟨by unfold opBetter; rw [if_neg (by omega), if_neg (by omega), if_pos (by omega), hwh]; unfold btW; rw [if_neg (by omega)], RefS.qq hS0 h_o ⟨_, h_a⟩ ⟨_, h_A⟩ ⟨_, h_G⟩ ⟨_, h_S⟩ ⟨_, h_P⟩ ⟨_, h_F⟩ ⟨_, h_V⟩ hfr⟩ rfl (Nat.le_refl _)
      · have hkc : (k : Int) / 12 * 12 + (k : Int) % 12 = (k : Int) := by omega
        refine ex_aload_n (pc := 45) dX7_better_45 rfl ?_
        refine ex_getfield (pc := 46) dX7_better_46 fk_X7_7 h_o (by rfl) ?_
        refine ex_iload (pc := 49) dX7_better_49 rfl ?_
        refine ex_bipush (pc := 51) dX7_better_51 (by decide) ?_
        refine ex_idiv (pc := 53) dX7_better_53 (by omega) (by omega) ?_
        refine ex_iload (pc := 54) dX7_better_54 rfl ?_
        refine ex_bipush (pc := 56) dX7_better_56 (by decide) ?_
        refine ex_irem (pc := 58) dX7_better_58 (by omega) (by omega) ?_
        refine ex_callSI (as := [_, _, _]) (pc := 59) dX7_better_59 (tX7_numberOf h_n hR hl hcd (by omega)) lk_X7_76 ykX7_numberOf zkX7_numberOf rfl rfl (Nat.le_of_ble_eq_true rfl) ⟨by decide, by decide⟩ ⟨Nat.le_refl _, Nat.le_refl _⟩ (fun i59 w1 r59 p59 => ?_)
        obtain ⟨e59, p59⟩ := p59
        rw [e59]
        rw [hkc] at p59
        have hnr := numL_rng (k : Int) s.1
        refine ex_bipush (pc := 62) dX7_better_62 (by decide) ?_
        refine ex_icmp_ne (pc := 64) dX7_better_64 (tgt := 220) (by decide) (fun c64 => ?_) (fun c64 => ?_)
        · refine ex_iinc (L2 := [_, _, _, _, _, _, _, _]) (pc := 220) dX7_better_220 rfl rfl (Nat.le_of_ble_eq_true rfl) (by unfold inI; omega) rfl ?_
          refine ex_goto (pc := 223) dX7_better_223 (tgt := 37) (by decide) ?_
          have hb : btS s.1 s.2.1 (k + 1) = btS s.1 s.2.1 k := btS_n (fun q => by omega)
          exact ih (k + 1) (by omega) (by omega) w9 _ _ _ _ _ _ _ _ _ _ _ _ _ _ _ _ _ wh gn an _ _ h_o h_n h_a h_A h_G h_S h_P h_F h_V (by rw [hb]; exact hwh) (by rw [hb]; exact hgn) (by rw [hb]; exact han) han2 hfr
        · have hgz : (btS s.1 s.2.1 k).2 = -10000 ∨ gn = (btS s.1 s.2.1 k).2 + 100 := by rw [hgn]; unfold btG; split <;> omega
          have hwz : ((btS s.1 s.2.1 k).1 < 0 ∧ wh = -4) ∨ (0 ≤ (btS s.1 s.2.1 k).1 ∧ wh ≠ -4) := by rw [hwh]; unfold btW; split <;> omega
          have hbr9 := btS_rng (cs := s.1) (mo := s.2.1) hl14 k
          refine ex_aload_n (pc := 67) dX7_better_67 rfl ?_
          refine ex_getfield (pc := 68) dX7_better_68 fk_X7_7 h_o (by rfl) ?_
          refine ex_iconst (pc := 71) dX7_better_71 (by decide) ?_
          refine ex_aload_n (pc := 72) dX7_better_72 rfl ?_
          refine ex_getfield (pc := 73) dX7_better_73 fk_X7_16 h_o (by rfl) ?_
          refine ex_iconst (pc := 76) dX7_better_76 (by decide) ?_
          refine ex_callSV (as := [_, _, _, _]) (pc := 77) dX7_better_77 (tX7_copies (x := 0) (y := 0) h_n h_a (by decide) (by omega) (by omega) (by omega) (by omega)) lk_X7_49 ykX7_copies zkX7_copies rfl rfl (Nat.le_of_ble_eq_true rfl) ⟨by decide, by decide⟩ ⟨Nat.le_refl _, Nat.le_refl _⟩ (fun w1 p77 => ?_)
          have h1_o := ((congrFun p77 55).trans (up_n (by decide))).trans h_o
          have h1_n := ((congrFun p77 56).trans (up_n (by decide))).trans h_n
          have h1_a := (congrFun p77 58).trans up_s
          have h1_A := ((congrFun p77 62).trans (up_n (by decide))).trans h_A
          have h1_G := ((congrFun p77 63).trans (up_n (by decide))).trans h_G
          have h1_S := ((congrFun p77 64).trans (up_n (by decide))).trans h_S
          have h1_P := ((congrFun p77 65).trans (up_n (by decide))).trans h_P
          have h1_F := ((congrFun p77 66).trans (up_n (by decide))).trans h_F
          have h1_V := ((congrFun p77 67).trans (up_n (by decide))).trans h_V
          have hRa := row_of (f := fa) hR hl
          refine ex_aload_n (pc := 80) dX7_better_80 rfl ?_
          refine ex_getfield (pc := 81) dX7_better_81 fk_X7_16 h1_o (by rfl) ?_
          refine ex_iload (pc := 84) dX7_better_84 rfl ?_
          refine ex_bipush (pc := 86) dX7_better_86 (by decide) ?_
          refine ex_idiv (pc := 88) dX7_better_88 (by omega) (by omega) ?_
          refine ex_iload (pc := 89) dX7_better_89 rfl ?_
          refine ex_bipush (pc := 91) dX7_better_91 (by decide) ?_
          refine ex_irem (pc := 93) dX7_better_93 (by omega) (by omega) ?_
          refine ex_callSI (as := [_, _, _]) (pc := 94) dX7_better_94 (tX7_puts h1_a hRa hl14 hcd (by omega)) lk_X7_53 ykX7_puts zkX7_puts rfl rfl (Nat.le_of_ble_eq_true rfl) ⟨by decide, by decide⟩ ⟨Nat.le_refl _, Nat.le_refl _⟩ (fun i94 w2 r94 p94 => ?_)
          obtain ⟨ev94, e94⟩ := p94
          have h2_o := ((congrFun e94 55).trans (up_n (by decide))).trans h1_o
          have h2_n := ((congrFun e94 56).trans (up_n (by decide))).trans h1_n
          have h2_a := (congrFun e94 58).trans up_s
          have h2_A := ((congrFun e94 62).trans (up_n (by decide))).trans h1_A
          have h2_G := ((congrFun e94 63).trans (up_n (by decide))).trans h1_G
          have h2_S := ((congrFun e94 64).trans (up_n (by decide))).trans h1_S
          have h2_P := ((congrFun e94 65).trans (up_n (by decide))).trans h1_P
          have h2_F := ((congrFun e94 66).trans (up_n (by decide))).trans h1_F
          have h2_V := ((congrFun e94 67).trans (up_n (by decide))).trans h1_V
          have hRb := putF_row (t := (k : Int) / 12) (b := (k : Int) % 12) hRa (by omega) hl14
          rw [hkc] at hRb h2_a
          have hlb : (insL (k : Int) s.1).length ≤ 14 := by rw [insL_len]; omega
          have hcb : Cod (insL (k : Int) s.1) := Cod_ins hcd (by omega)
          refine ex_istore (L2 := [_, _, _, _, _, _, _, _]) (pc := 97) dX7_better_97 rfl (Nat.le_of_ble_eq_true rfl) rfl ?_
          refine ex_aload_n (pc := 99) dX7_better_99 rfl ?_
          refine ex_aload_n (pc := 100) dX7_better_100 rfl ?_
          refine ex_getfield (pc := 101) dX7_better_101 fk_X7_16 h2_o (by rfl) ?_
          refine ex_aload_n (pc := 104) dX7_better_104 rfl ?_
          refine ex_getfield (pc := 105) dX7_better_105 fk_X7_16 h2_o (by rfl) ?_
          refine ex_callSI (as := [_]) (pc := 108) dX7_better_108 (tX7_allOf h2_a (by decide) hRb.1 hlb) lk_X7_166 ykX7_allOf zkX7_allOf rfl rfl (Nat.le_of_ble_eq_true rfl) ⟨by decide, by decide⟩ ⟨Nat.le_refl _, Nat.le_refl _⟩ (fun i108 w3 r108 p108 => ?_)
          obtain ⟨ew, ep⟩ := p108
          rw [ew, ep]
          refine ex_callVV (as := [_, _]) (pc := 111) dX7_better_111 (tX7_findsBest h2_o h2_a hRb h2_A h2_G h2_S (by decide) hlb hcb (Al_lt (insL (k : Int) s.1))) lk_X7_170 ykX7_findsBest vkX7_findsBest h2_o rfl rfl rfl (Nat.le_of_ble_eq_true rfl) ⟨by decide, by decide⟩ ⟨Nat.le_refl _, Nat.le_refl _⟩ (fun w3 p111 => ?_)
          obtain ⟨⟨nu, lg, h3_A, hnu, h3_G, hlg⟩, ⟨ss, h3_S, hss⟩, ⟨pq2, cv2, be2, bg2, bc2, bp2, hBE, h3_o⟩, hfL⟩ := p111
          have h3_n := (hfL 56 (by decide) (by decide) (by decide) (by decide)).trans h2_n
          have h3_a := (hfL 58 (by decide) (by decide) (by decide) (by decide)).trans h2_a
          have h3_P := (hfL 65 (by decide) (by decide) (by decide) (by decide)).trans h2_P
          have h3_F := (hfL 66 (by decide) (by decide) (by decide) (by decide)).trans h2_F
          have h3_V := (hfL 67 (by decide) (by decide) (by decide) (by decide)).trans h2_V
          have hgr := gainB_rng (mo := s.2.1) (show (insL (k : Int) s.1).length ≤ 14 by rw [insL_len]; omega)
          have hb0 := hBE.1
          have hbr := bestS_rng (insL (k : Int) s.1) s.2.1 (Al (insL (k : Int) s.1))
          have hbn := btS_neg (cs := s.1) (mo := s.2.1) k
          have hgB : (be2 = -4 ∧ gainB (insL (k : Int) s.1) s.2.1 = -10000) ∨ (be2 ≠ -4 ∧ bg2 = gainB (insL (k : Int) s.1) s.2.1 ∧ -1000 ≤ gainB (insL (k : Int) s.1) s.2.1) := by
            unfold gainB
            rcases hbr with q | q
            · left; rw [if_neg (by omega)]; exact ⟨by omega, rfl⟩
            · right; rw [if_pos (by omega)]; exact ⟨by omega, (hBE.2 (by omega)).1, (gnS_rng (by rw [insL_len]; omega) _).1⟩
          refine ex_aload_n (pc := 114) dX7_better_114 rfl ?_
          refine ex_getfield (pc := 115) dX7_better_115 fk_X7_148 h3_o (by rfl) ?_
          refine ex_bipush (pc := 118) dX7_better_118 (by decide) ?_
          refine ex_icmp_eq (pc := 120) dX7_better_120 (tgt := 148) (by decide) (fun c120 => ?_) (fun c120 => ?_)
          · refine ex_iconst (pc := 148) dX7_better_148 (by decide) ?_
            refine ex_istore (L2 := [_, _, _, _, _, _, _, _]) (pc := 149) dX7_better_149 rfl (Nat.le_of_ble_eq_true rfl) rfl ?_
            refine ex_iload_n (pc := 151) dX7_better_151 rfl ?_
            refine ex_bipush (pc := 152) dX7_better_152 (by decide) ?_
            refine ex_icmp_eq (pc := 154) dX7_better_154 (tgt := 162) (by decide) (fun c154 => ?_) (fun c154 => ?_)
            · refine ex_bipush (pc := 162) dX7_better_162 (by decide) ?_
              refine ex_iload (pc := 164) dX7_better_164 rfl ?_
              refine ex_bipush (pc := 166) dX7_better_166 (by decide) ?_
              refine ex_idiv (pc := 168) dX7_better_168 (by omega) (by omega) ?_
              refine ex_imul (pc := 169) dX7_better_169 (by unfold inI; omega) ?_
              refine ex_iload (pc := 170) dX7_better_170 rfl ?_
              refine ex_bipush (pc := 172) dX7_better_172 (by decide) ?_
              refine ex_irem (pc := 174) dX7_better_174 (by omega) (by omega) ?_
              refine ex_iadd (pc := 175) dX7_better_175 (by unfold inI; omega) ?_
              refine ex_istore_n (L2 := [_, _, _, _, _, _, _, _]) (pc := 176) dX7_better_176 rfl (Nat.le_of_ble_eq_true rfl) rfl ?_
              refine ex_aload_n (pc := 177) dX7_better_177 rfl ?_
              refine ex_getfield (pc := 178) dX7_better_178 fk_X7_148 h3_o (by rfl) ?_
              refine ex_bipush (pc := 181) dX7_better_181 (by decide) ?_
              refine ex_icmp_ne (pc := 183) dX7_better_183 (tgt := 191) (by decide) (fun c183 => by exfalso; omega) (fun c183 => ?_)
              refine ex_bipush (pc := 186) dX7_better_186 (by decide) ?_
              refine ex_goto (pc := 188) dX7_better_188 (tgt := 198) (by decide) ?_
              refine ex_istore_n (L2 := [_, _, _, _, _, _, _, _]) (pc := 198) dX7_better_198 rfl (Nat.le_of_ble_eq_true rfl) rfl ?_
              refine ex_iload (pc := 199) dX7_better_199 rfl ?_
              refine ex_if_ne (pc := 201) dX7_better_201 (tgt := 213) (by decide) (fun c201 => ?_) (fun c201 => ?_)
              · refine ex_iconst (pc := 213) dX7_better_213 (by decide) ?_
                refine ex_goto (pc := 214) dX7_better_214 (tgt := 218) (by decide) ?_
                refine ex_istore (L2 := [_, _, _, _, _, _, _, _]) (pc := 218) dX7_better_218 rfl (Nat.le_of_ble_eq_true rfl) rfl ?_
                refine ex_iinc (L2 := [_, _, _, _, _, _, _, _]) (pc := 220) dX7_better_220 rfl rfl (Nat.le_of_ble_eq_true rfl) (by unfold inI; omega) rfl ?_
                refine ex_goto (pc := 223) dX7_better_223 (tgt := 37) (by decide) ?_
                have hb : btS s.1 s.2.1 (k + 1) = ((k : Int), gainB (insL (k : Int) s.1) s.2.1) := btS_y ⟨by omega, by omega⟩
                exact ih (k + 1) (by omega) (by omega) w3 _ _ _ _ _ _ _ _ _ _ _ _ _ _ _ _ _ _ _ _ _ _ h3_o h3_n h3_a h3_A h3_G h3_S h3_P h3_F h3_V (by rw [hb]; show _ = btW (k : Int); unfold btW; rw [if_neg (by omega)]) (by rw [hb]; show _ = btG (gainB (insL (k : Int) s.1) s.2.1); unfold btG; rw [if_pos (by omega)]) (by rw [hb]; show _ ↔ gainB (insL (k : Int) s.1) s.2.1 ≠ -10000; omega) (by omega) (fun y hy y1 y2 => (hfL y y1 (by omega) (by omega) (by omega)).trans (by rw [e94, up_n y2, p77, up_n y2]; exact hfr y hy y1 y2))
              · refine ex_aload_n (pc := 204) dX7_better_204 rfl ?_
                refine ex_getfield (pc := 205) dX7_better_205 fk_X7_148 h3_o (by rfl) ?_
                refine ex_bipush (pc := 208) dX7_better_208 (by decide) ?_
                refine ex_icmp_eq (pc := 210) dX7_better_210 (tgt := 217) (by decide) (fun c210 => ?_) (fun c210 => by exfalso; omega)
                refine ex_iconst (pc := 217) dX7_better_217 (by decide) ?_
                refine ex_istore (L2 := [_, _, _, _, _, _, _, _]) (pc := 218) dX7_better_218 rfl (Nat.le_of_ble_eq_true rfl) rfl ?_
                refine ex_iinc (L2 := [_, _, _, _, _, _, _, _]) (pc := 220) dX7_better_220 rfl rfl (Nat.le_of_ble_eq_true rfl) (by unfold inI; omega) rfl ?_
                refine ex_goto (pc := 223) dX7_better_223 (tgt := 37) (by decide) ?_
                have hb : btS s.1 s.2.1 (k + 1) = ((k : Int), gainB (insL (k : Int) s.1) s.2.1) := btS_y ⟨by omega, by omega⟩
                exact ih (k + 1) (by omega) (by omega) w3 _ _ _ _ _ _ _ _ _ _ _ _ _ _ _ _ _ _ _ _ _ _ h3_o h3_n h3_a h3_A h3_G h3_S h3_P h3_F h3_V (by rw [hb]; show _ = btW (k : Int); unfold btW; rw [if_neg (by omega)]) (by rw [hb]; show _ = btG (gainB (insL (k : Int) s.1) s.2.1); unfold btG; rw [if_pos (by omega)]) (by rw [hb]; show _ ↔ gainB (insL (k : Int) s.1) s.2.1 ≠ -10000; omega) (by omega) (fun y hy y1 y2 => (hfL y y1 (by omega) (by omega) (by omega)).trans (by rw [e94, up_n y2, p77, up_n y2]; exact hfr y hy y1 y2))
            · refine ex_iload (pc := 157) dX7_better_157 rfl ?_
              refine ex_if_eq (pc := 159) dX7_better_159 (tgt := 199) (by decide) (fun c159 => ?_) (fun c159 => by exfalso; omega)
              refine ex_iload (pc := 199) dX7_better_199 rfl ?_
              refine ex_if_ne (pc := 201) dX7_better_201 (tgt := 213) (by decide) (fun c201 => ?_) (fun c201 => ?_)
              · refine ex_iconst (pc := 213) dX7_better_213 (by decide) ?_
                refine ex_goto (pc := 214) dX7_better_214 (tgt := 218) (by decide) ?_
                refine ex_istore (L2 := [_, _, _, _, _, _, _, _]) (pc := 218) dX7_better_218 rfl (Nat.le_of_ble_eq_true rfl) rfl ?_
                refine ex_iinc (L2 := [_, _, _, _, _, _, _, _]) (pc := 220) dX7_better_220 rfl rfl (Nat.le_of_ble_eq_true rfl) (by unfold inI; omega) rfl ?_
                refine ex_goto (pc := 223) dX7_better_223 (tgt := 37) (by decide) ?_
                have hb : btS s.1 s.2.1 (k + 1) = btS s.1 s.2.1 k := btS_n (fun q => by omega)
                exact ih (k + 1) (by omega) (by omega) w3 _ _ _ _ _ _ _ _ _ _ _ _ _ _ _ _ _ _ _ _ _ _ h3_o h3_n h3_a h3_A h3_G h3_S h3_P h3_F h3_V (by rw [hb]; exact hwh) (by rw [hb]; exact hgn) (by rw [hb]; omega) (by omega) (fun y hy y1 y2 => (hfL y y1 (by omega) (by omega) (by omega)).trans (by rw [e94, up_n y2, p77, up_n y2]; exact hfr y hy y1 y2))
              · refine ex_aload_n (pc := 204) dX7_better_204 rfl ?_
                refine ex_getfield (pc := 205) dX7_better_205 fk_X7_148 h3_o (by rfl) ?_
                refine ex_bipush (pc := 208) dX7_better_208 (by decide) ?_
                refine ex_icmp_eq (pc := 210) dX7_better_210 (tgt := 217) (by decide) (fun c210 => ?_) (fun c210 => by exfalso; omega)
                refine ex_iconst (pc := 217) dX7_better_217 (by decide) ?_
                refine ex_istore (L2 := [_, _, _, _, _, _, _, _]) (pc := 218) dX7_better_218 rfl (Nat.le_of_ble_eq_true rfl) rfl ?_
                refine ex_iinc (L2 := [_, _, _, _, _, _, _, _]) (pc := 220) dX7_better_220 rfl rfl (Nat.le_of_ble_eq_true rfl) (by unfold inI; omega) rfl ?_
                refine ex_goto (pc := 223) dX7_better_223 (tgt := 37) (by decide) ?_
                have hb : btS s.1 s.2.1 (k + 1) = btS s.1 s.2.1 k := btS_n (fun q => by omega)
                exact ih (k + 1) (by omega) (by omega) w3 _ _ _ _ _ _ _ _ _ _ _ _ _ _ _ _ _ _ _ _ _ _ h3_o h3_n h3_a h3_A h3_G h3_S h3_P h3_F h3_V (by rw [hb]; exact hwh) (by rw [hb]; exact hgn) (by rw [hb]; omega) (by omega) (fun y hy y1 y2 => (hfL y y1 (by omega) (by omega) (by omega)).trans (by rw [e94, up_n y2, p77, up_n y2]; exact hfr y hy y1 y2))
          · refine ex_iload (pc := 123) dX7_better_123 rfl ?_
            refine ex_if_lt (pc := 125) dX7_better_125 (tgt := 148) (by decide) (fun c125 => by exfalso; omega) (fun c125 => ?_)
            refine ex_iload (pc := 128) dX7_better_128 rfl ?_
            refine ex_if_eq (pc := 130) dX7_better_130 (tgt := 144) (by decide) (fun c130 => ?_) (fun c130 => ?_)
            · refine ex_iconst (pc := 144) dX7_better_144 (by decide) ?_
              refine ex_goto (pc := 145) dX7_better_145 (tgt := 149) (by decide) ?_
              refine ex_istore (L2 := [_, _, _, _, _, _, _, _]) (pc := 149) dX7_better_149 rfl (Nat.le_of_ble_eq_true rfl) rfl ?_
              refine ex_iload_n (pc := 151) dX7_better_151 rfl ?_
              refine ex_bipush (pc := 152) dX7_better_152 (by decide) ?_
              refine ex_icmp_eq (pc := 154) dX7_better_154 (tgt := 162) (by decide) (fun c154 => ?_) (fun c154 => ?_)
              · refine ex_bipush (pc := 162) dX7_better_162 (by decide) ?_
                refine ex_iload (pc := 164) dX7_better_164 rfl ?_
                refine ex_bipush (pc := 166) dX7_better_166 (by decide) ?_
                refine ex_idiv (pc := 168) dX7_better_168 (by omega) (by omega) ?_
                refine ex_imul (pc := 169) dX7_better_169 (by unfold inI; omega) ?_
                refine ex_iload (pc := 170) dX7_better_170 rfl ?_
                refine ex_bipush (pc := 172) dX7_better_172 (by decide) ?_
                refine ex_irem (pc := 174) dX7_better_174 (by omega) (by omega) ?_
                refine ex_iadd (pc := 175) dX7_better_175 (by unfold inI; omega) ?_
                refine ex_istore_n (L2 := [_, _, _, _, _, _, _, _]) (pc := 176) dX7_better_176 rfl (Nat.le_of_ble_eq_true rfl) rfl ?_
                refine ex_aload_n (pc := 177) dX7_better_177 rfl ?_
                refine ex_getfield (pc := 178) dX7_better_178 fk_X7_148 h3_o (by rfl) ?_
                refine ex_bipush (pc := 181) dX7_better_181 (by decide) ?_
                refine ex_icmp_ne (pc := 183) dX7_better_183 (tgt := 191) (by decide) (fun c183 => ?_) (fun c183 => by exfalso; omega)
                refine ex_aload_n (pc := 191) dX7_better_191 rfl ?_
                refine ex_getfield (pc := 192) dX7_better_192 fk_X7_151 h3_o (by rfl) ?_
                refine ex_bipush (pc := 195) dX7_better_195 (by decide) ?_
                refine ex_iadd (pc := 197) dX7_better_197 (by unfold inI; omega) ?_
                refine ex_istore_n (L2 := [_, _, _, _, _, _, _, _]) (pc := 198) dX7_better_198 rfl (Nat.le_of_ble_eq_true rfl) rfl ?_
                refine ex_iload (pc := 199) dX7_better_199 rfl ?_
                refine ex_if_ne (pc := 201) dX7_better_201 (tgt := 213) (by decide) (fun c201 => ?_) (fun c201 => ?_)
                · refine ex_iconst (pc := 213) dX7_better_213 (by decide) ?_
                  refine ex_goto (pc := 214) dX7_better_214 (tgt := 218) (by decide) ?_
                  refine ex_istore (L2 := [_, _, _, _, _, _, _, _]) (pc := 218) dX7_better_218 rfl (Nat.le_of_ble_eq_true rfl) rfl ?_
                  refine ex_iinc (L2 := [_, _, _, _, _, _, _, _]) (pc := 220) dX7_better_220 rfl rfl (Nat.le_of_ble_eq_true rfl) (by unfold inI; omega) rfl ?_
                  refine ex_goto (pc := 223) dX7_better_223 (tgt := 37) (by decide) ?_
                  have hb : btS s.1 s.2.1 (k + 1) = ((k : Int), gainB (insL (k : Int) s.1) s.2.1) := btS_y ⟨by omega, by omega⟩
                  exact ih (k + 1) (by omega) (by omega) w3 _ _ _ _ _ _ _ _ _ _ _ _ _ _ _ _ _ _ _ _ _ _ h3_o h3_n h3_a h3_A h3_G h3_S h3_P h3_F h3_V (by rw [hb]; show _ = btW (k : Int); unfold btW; rw [if_neg (by omega)]) (by rw [hb]; show _ = btG (gainB (insL (k : Int) s.1) s.2.1); unfold btG; rw [if_neg (by omega)]; omega) (by rw [hb]; show _ ↔ gainB (insL (k : Int) s.1) s.2.1 ≠ -10000; omega) (by omega) (fun y hy y1 y2 => (hfL y y1 (by omega) (by omega) (by omega)).trans (by rw [e94, up_n y2, p77, up_n y2]; exact hfr y hy y1 y2))
                · refine ex_aload_n (pc := 204) dX7_better_204 rfl ?_
                  refine ex_getfield (pc := 205) dX7_better_205 fk_X7_148 h3_o (by rfl) ?_
                  refine ex_bipush (pc := 208) dX7_better_208 (by decide) ?_
                  refine ex_icmp_eq (pc := 210) dX7_better_210 (tgt := 217) (by decide) (fun c210 => by exfalso; omega) (fun c210 => ?_)
                  refine ex_iconst (pc := 213) dX7_better_213 (by decide) ?_
                  refine ex_goto (pc := 214) dX7_better_214 (tgt := 218) (by decide) ?_
                  refine ex_istore (L2 := [_, _, _, _, _, _, _, _]) (pc := 218) dX7_better_218 rfl (Nat.le_of_ble_eq_true rfl) rfl ?_
                  refine ex_iinc (L2 := [_, _, _, _, _, _, _, _]) (pc := 220) dX7_better_220 rfl rfl (Nat.le_of_ble_eq_true rfl) (by unfold inI; omega) rfl ?_
                  refine ex_goto (pc := 223) dX7_better_223 (tgt := 37) (by decide) ?_
                  have hb : btS s.1 s.2.1 (k + 1) = ((k : Int), gainB (insL (k : Int) s.1) s.2.1) := btS_y ⟨by omega, by omega⟩
                  exact ih (k + 1) (by omega) (by omega) w3 _ _ _ _ _ _ _ _ _ _ _ _ _ _ _ _ _ _ _ _ _ _ h3_o h3_n h3_a h3_A h3_G h3_S h3_P h3_F h3_V (by rw [hb]; show _ = btW (k : Int); unfold btW; rw [if_neg (by omega)]) (by rw [hb]; show _ = btG (gainB (insL (k : Int) s.1) s.2.1); unfold btG; rw [if_neg (by omega)]; omega) (by rw [hb]; show _ ↔ gainB (insL (k : Int) s.1) s.2.1 ≠ -10000; omega) (by omega) (fun y hy y1 y2 => (hfL y y1 (by omega) (by omega) (by omega)).trans (by rw [e94, up_n y2, p77, up_n y2]; exact hfr y hy y1 y2))
              · refine ex_iload (pc := 157) dX7_better_157 rfl ?_
                refine ex_if_eq (pc := 159) dX7_better_159 (tgt := 199) (by decide) (fun c159 => by exfalso; omega) (fun c159 => ?_)
                refine ex_bipush (pc := 162) dX7_better_162 (by decide) ?_
                refine ex_iload (pc := 164) dX7_better_164 rfl ?_
                refine ex_bipush (pc := 166) dX7_better_166 (by decide) ?_
                refine ex_idiv (pc := 168) dX7_better_168 (by omega) (by omega) ?_
                refine ex_imul (pc := 169) dX7_better_169 (by unfold inI; omega) ?_
                refine ex_iload (pc := 170) dX7_better_170 rfl ?_
                refine ex_bipush (pc := 172) dX7_better_172 (by decide) ?_
                refine ex_irem (pc := 174) dX7_better_174 (by omega) (by omega) ?_
                refine ex_iadd (pc := 175) dX7_better_175 (by unfold inI; omega) ?_
                refine ex_istore_n (L2 := [_, _, _, _, _, _, _, _]) (pc := 176) dX7_better_176 rfl (Nat.le_of_ble_eq_true rfl) rfl ?_
                refine ex_aload_n (pc := 177) dX7_better_177 rfl ?_
                refine ex_getfield (pc := 178) dX7_better_178 fk_X7_148 h3_o (by rfl) ?_
                refine ex_bipush (pc := 181) dX7_better_181 (by decide) ?_
                refine ex_icmp_ne (pc := 183) dX7_better_183 (tgt := 191) (by decide) (fun c183 => ?_) (fun c183 => by exfalso; omega)
                refine ex_aload_n (pc := 191) dX7_better_191 rfl ?_
                refine ex_getfield (pc := 192) dX7_better_192 fk_X7_151 h3_o (by rfl) ?_
                refine ex_bipush (pc := 195) dX7_better_195 (by decide) ?_
                refine ex_iadd (pc := 197) dX7_better_197 (by unfold inI; omega) ?_
                refine ex_istore_n (L2 := [_, _, _, _, _, _, _, _]) (pc := 198) dX7_better_198 rfl (Nat.le_of_ble_eq_true rfl) rfl ?_
                refine ex_iload (pc := 199) dX7_better_199 rfl ?_
                refine ex_if_ne (pc := 201) dX7_better_201 (tgt := 213) (by decide) (fun c201 => ?_) (fun c201 => ?_)
                · refine ex_iconst (pc := 213) dX7_better_213 (by decide) ?_
                  refine ex_goto (pc := 214) dX7_better_214 (tgt := 218) (by decide) ?_
                  refine ex_istore (L2 := [_, _, _, _, _, _, _, _]) (pc := 218) dX7_better_218 rfl (Nat.le_of_ble_eq_true rfl) rfl ?_
                  refine ex_iinc (L2 := [_, _, _, _, _, _, _, _]) (pc := 220) dX7_better_220 rfl rfl (Nat.le_of_ble_eq_true rfl) (by unfold inI; omega) rfl ?_
                  refine ex_goto (pc := 223) dX7_better_223 (tgt := 37) (by decide) ?_
                  have hb : btS s.1 s.2.1 (k + 1) = ((k : Int), gainB (insL (k : Int) s.1) s.2.1) := btS_y ⟨by omega, by omega⟩
                  exact ih (k + 1) (by omega) (by omega) w3 _ _ _ _ _ _ _ _ _ _ _ _ _ _ _ _ _ _ _ _ _ _ h3_o h3_n h3_a h3_A h3_G h3_S h3_P h3_F h3_V (by rw [hb]; show _ = btW (k : Int); unfold btW; rw [if_neg (by omega)]) (by rw [hb]; show _ = btG (gainB (insL (k : Int) s.1) s.2.1); unfold btG; rw [if_neg (by omega)]; omega) (by rw [hb]; show _ ↔ gainB (insL (k : Int) s.1) s.2.1 ≠ -10000; omega) (by omega) (fun y hy y1 y2 => (hfL y y1 (by omega) (by omega) (by omega)).trans (by rw [e94, up_n y2, p77, up_n y2]; exact hfr y hy y1 y2))
                · refine ex_aload_n (pc := 204) dX7_better_204 rfl ?_
                  refine ex_getfield (pc := 205) dX7_better_205 fk_X7_148 h3_o (by rfl) ?_
                  refine ex_bipush (pc := 208) dX7_better_208 (by decide) ?_
                  refine ex_icmp_eq (pc := 210) dX7_better_210 (tgt := 217) (by decide) (fun c210 => by exfalso; omega) (fun c210 => ?_)
                  refine ex_iconst (pc := 213) dX7_better_213 (by decide) ?_
                  refine ex_goto (pc := 214) dX7_better_214 (tgt := 218) (by decide) ?_
                  refine ex_istore (L2 := [_, _, _, _, _, _, _, _]) (pc := 218) dX7_better_218 rfl (Nat.le_of_ble_eq_true rfl) rfl ?_
                  refine ex_iinc (L2 := [_, _, _, _, _, _, _, _]) (pc := 220) dX7_better_220 rfl rfl (Nat.le_of_ble_eq_true rfl) (by unfold inI; omega) rfl ?_
                  refine ex_goto (pc := 223) dX7_better_223 (tgt := 37) (by decide) ?_
                  have hb : btS s.1 s.2.1 (k + 1) = ((k : Int), gainB (insL (k : Int) s.1) s.2.1) := btS_y ⟨by omega, by omega⟩
                  exact ih (k + 1) (by omega) (by omega) w3 _ _ _ _ _ _ _ _ _ _ _ _ _ _ _ _ _ _ _ _ _ _ h3_o h3_n h3_a h3_A h3_G h3_S h3_P h3_F h3_V (by rw [hb]; show _ = btW (k : Int); unfold btW; rw [if_neg (by omega)]) (by rw [hb]; show _ = btG (gainB (insL (k : Int) s.1) s.2.1); unfold btG; rw [if_neg (by omega)]; omega) (by rw [hb]; show _ ↔ gainB (insL (k : Int) s.1) s.2.1 ≠ -10000; omega) (by omega) (fun y hy y1 y2 => (hfL y y1 (by omega) (by omega) (by omega)).trans (by rw [e94, up_n y2, p77, up_n y2]; exact hfr y hy y1 y2))
            · refine ex_aload_n (pc := 133) dX7_better_133 rfl ?_
              refine ex_getfield (pc := 134) dX7_better_134 fk_X7_151 h3_o (by rfl) ?_
              refine ex_bipush (pc := 137) dX7_better_137 (by decide) ?_
              refine ex_iadd (pc := 139) dX7_better_139 (by unfold inI; omega) ?_
              refine ex_iload_n (pc := 140) dX7_better_140 rfl ?_
              refine ex_icmp_le (pc := 141) dX7_better_141 (tgt := 148) (by decide) (fun c141 => ?_) (fun c141 => ?_)
              · refine ex_iconst (pc := 148) dX7_better_148 (by decide) ?_
                refine ex_istore (L2 := [_, _, _, _, _, _, _, _]) (pc := 149) dX7_better_149 rfl (Nat.le_of_ble_eq_true rfl) rfl ?_
                refine ex_iload_n (pc := 151) dX7_better_151 rfl ?_
                refine ex_bipush (pc := 152) dX7_better_152 (by decide) ?_
                refine ex_icmp_eq (pc := 154) dX7_better_154 (tgt := 162) (by decide) (fun c154 => ?_) (fun c154 => ?_)
                · refine ex_bipush (pc := 162) dX7_better_162 (by decide) ?_
                  refine ex_iload (pc := 164) dX7_better_164 rfl ?_
                  refine ex_bipush (pc := 166) dX7_better_166 (by decide) ?_
                  refine ex_idiv (pc := 168) dX7_better_168 (by omega) (by omega) ?_
                  refine ex_imul (pc := 169) dX7_better_169 (by unfold inI; omega) ?_
                  refine ex_iload (pc := 170) dX7_better_170 rfl ?_
                  refine ex_bipush (pc := 172) dX7_better_172 (by decide) ?_
                  refine ex_irem (pc := 174) dX7_better_174 (by omega) (by omega) ?_
                  refine ex_iadd (pc := 175) dX7_better_175 (by unfold inI; omega) ?_
                  refine ex_istore_n (L2 := [_, _, _, _, _, _, _, _]) (pc := 176) dX7_better_176 rfl (Nat.le_of_ble_eq_true rfl) rfl ?_
                  refine ex_aload_n (pc := 177) dX7_better_177 rfl ?_
                  refine ex_getfield (pc := 178) dX7_better_178 fk_X7_148 h3_o (by rfl) ?_
                  refine ex_bipush (pc := 181) dX7_better_181 (by decide) ?_
                  refine ex_icmp_ne (pc := 183) dX7_better_183 (tgt := 191) (by decide) (fun c183 => ?_) (fun c183 => by exfalso; omega)
                  refine ex_aload_n (pc := 191) dX7_better_191 rfl ?_
                  refine ex_getfield (pc := 192) dX7_better_192 fk_X7_151 h3_o (by rfl) ?_
                  refine ex_bipush (pc := 195) dX7_better_195 (by decide) ?_
                  refine ex_iadd (pc := 197) dX7_better_197 (by unfold inI; omega) ?_
                  refine ex_istore_n (L2 := [_, _, _, _, _, _, _, _]) (pc := 198) dX7_better_198 rfl (Nat.le_of_ble_eq_true rfl) rfl ?_
                  refine ex_iload (pc := 199) dX7_better_199 rfl ?_
                  refine ex_if_ne (pc := 201) dX7_better_201 (tgt := 213) (by decide) (fun c201 => ?_) (fun c201 => ?_)
                  · refine ex_iconst (pc := 213) dX7_better_213 (by decide) ?_
                    refine ex_goto (pc := 214) dX7_better_214 (tgt := 218) (by decide) ?_
                    refine ex_istore (L2 := [_, _, _, _, _, _, _, _]) (pc := 218) dX7_better_218 rfl (Nat.le_of_ble_eq_true rfl) rfl ?_
                    refine ex_iinc (L2 := [_, _, _, _, _, _, _, _]) (pc := 220) dX7_better_220 rfl rfl (Nat.le_of_ble_eq_true rfl) (by unfold inI; omega) rfl ?_
                    refine ex_goto (pc := 223) dX7_better_223 (tgt := 37) (by decide) ?_
                    have hb : btS s.1 s.2.1 (k + 1) = ((k : Int), gainB (insL (k : Int) s.1) s.2.1) := btS_y ⟨by omega, by omega⟩
                    exact ih (k + 1) (by omega) (by omega) w3 _ _ _ _ _ _ _ _ _ _ _ _ _ _ _ _ _ _ _ _ _ _ h3_o h3_n h3_a h3_A h3_G h3_S h3_P h3_F h3_V (by rw [hb]; show _ = btW (k : Int); unfold btW; rw [if_neg (by omega)]) (by rw [hb]; show _ = btG (gainB (insL (k : Int) s.1) s.2.1); unfold btG; rw [if_neg (by omega)]; omega) (by rw [hb]; show _ ↔ gainB (insL (k : Int) s.1) s.2.1 ≠ -10000; omega) (by omega) (fun y hy y1 y2 => (hfL y y1 (by omega) (by omega) (by omega)).trans (by rw [e94, up_n y2, p77, up_n y2]; exact hfr y hy y1 y2))
                  · refine ex_aload_n (pc := 204) dX7_better_204 rfl ?_
                    refine ex_getfield (pc := 205) dX7_better_205 fk_X7_148 h3_o (by rfl) ?_
                    refine ex_bipush (pc := 208) dX7_better_208 (by decide) ?_
                    refine ex_icmp_eq (pc := 210) dX7_better_210 (tgt := 217) (by decide) (fun c210 => by exfalso; omega) (fun c210 => ?_)
                    refine ex_iconst (pc := 213) dX7_better_213 (by decide) ?_
                    refine ex_goto (pc := 214) dX7_better_214 (tgt := 218) (by decide) ?_
                    refine ex_istore (L2 := [_, _, _, _, _, _, _, _]) (pc := 218) dX7_better_218 rfl (Nat.le_of_ble_eq_true rfl) rfl ?_
                    refine ex_iinc (L2 := [_, _, _, _, _, _, _, _]) (pc := 220) dX7_better_220 rfl rfl (Nat.le_of_ble_eq_true rfl) (by unfold inI; omega) rfl ?_
                    refine ex_goto (pc := 223) dX7_better_223 (tgt := 37) (by decide) ?_
                    have hb : btS s.1 s.2.1 (k + 1) = ((k : Int), gainB (insL (k : Int) s.1) s.2.1) := btS_y ⟨by omega, by omega⟩
                    exact ih (k + 1) (by omega) (by omega) w3 _ _ _ _ _ _ _ _ _ _ _ _ _ _ _ _ _ _ _ _ _ _ h3_o h3_n h3_a h3_A h3_G h3_S h3_P h3_F h3_V (by rw [hb]; show _ = btW (k : Int); unfold btW; rw [if_neg (by omega)]) (by rw [hb]; show _ = btG (gainB (insL (k : Int) s.1) s.2.1); unfold btG; rw [if_neg (by omega)]; omega) (by rw [hb]; show _ ↔ gainB (insL (k : Int) s.1) s.2.1 ≠ -10000; omega) (by omega) (fun y hy y1 y2 => (hfL y y1 (by omega) (by omega) (by omega)).trans (by rw [e94, up_n y2, p77, up_n y2]; exact hfr y hy y1 y2))
                · refine ex_iload (pc := 157) dX7_better_157 rfl ?_
                  refine ex_if_eq (pc := 159) dX7_better_159 (tgt := 199) (by decide) (fun c159 => ?_) (fun c159 => by exfalso; omega)
                  refine ex_iload (pc := 199) dX7_better_199 rfl ?_
                  refine ex_if_ne (pc := 201) dX7_better_201 (tgt := 213) (by decide) (fun c201 => ?_) (fun c201 => ?_)
                  · refine ex_iconst (pc := 213) dX7_better_213 (by decide) ?_
                    refine ex_goto (pc := 214) dX7_better_214 (tgt := 218) (by decide) ?_
                    refine ex_istore (L2 := [_, _, _, _, _, _, _, _]) (pc := 218) dX7_better_218 rfl (Nat.le_of_ble_eq_true rfl) rfl ?_
                    refine ex_iinc (L2 := [_, _, _, _, _, _, _, _]) (pc := 220) dX7_better_220 rfl rfl (Nat.le_of_ble_eq_true rfl) (by unfold inI; omega) rfl ?_
                    refine ex_goto (pc := 223) dX7_better_223 (tgt := 37) (by decide) ?_
                    have hb : btS s.1 s.2.1 (k + 1) = btS s.1 s.2.1 k := btS_n (fun q => by omega)
                    exact ih (k + 1) (by omega) (by omega) w3 _ _ _ _ _ _ _ _ _ _ _ _ _ _ _ _ _ _ _ _ _ _ h3_o h3_n h3_a h3_A h3_G h3_S h3_P h3_F h3_V (by rw [hb]; exact hwh) (by rw [hb]; exact hgn) (by rw [hb]; omega) (by omega) (fun y hy y1 y2 => (hfL y y1 (by omega) (by omega) (by omega)).trans (by rw [e94, up_n y2, p77, up_n y2]; exact hfr y hy y1 y2))
                  · refine ex_aload_n (pc := 204) dX7_better_204 rfl ?_
                    refine ex_getfield (pc := 205) dX7_better_205 fk_X7_148 h3_o (by rfl) ?_
                    refine ex_bipush (pc := 208) dX7_better_208 (by decide) ?_
                    refine ex_icmp_eq (pc := 210) dX7_better_210 (tgt := 217) (by decide) (fun c210 => by exfalso; omega) (fun c210 => ?_)
                    refine ex_iconst (pc := 213) dX7_better_213 (by decide) ?_
                    refine ex_goto (pc := 214) dX7_better_214 (tgt := 218) (by decide) ?_
                    refine ex_istore (L2 := [_, _, _, _, _, _, _, _]) (pc := 218) dX7_better_218 rfl (Nat.le_of_ble_eq_true rfl) rfl ?_
                    refine ex_iinc (L2 := [_, _, _, _, _, _, _, _]) (pc := 220) dX7_better_220 rfl rfl (Nat.le_of_ble_eq_true rfl) (by unfold inI; omega) rfl ?_
                    refine ex_goto (pc := 223) dX7_better_223 (tgt := 37) (by decide) ?_
                    have hb : btS s.1 s.2.1 (k + 1) = btS s.1 s.2.1 k := btS_n (fun q => by omega)
                    exact ih (k + 1) (by omega) (by omega) w3 _ _ _ _ _ _ _ _ _ _ _ _ _ _ _ _ _ _ _ _ _ _ h3_o h3_n h3_a h3_A h3_G h3_S h3_P h3_F h3_V (by rw [hb]; exact hwh) (by rw [hb]; exact hgn) (by rw [hb]; omega) (by omega) (fun y hy y1 y2 => (hfL y y1 (by omega) (by omega) (by omega)).trans (by rw [e94, up_n y2, p77, up_n y2]; exact hfr y hy y1 y2))
              · refine ex_iconst (pc := 144) dX7_better_144 (by decide) ?_
                refine ex_goto (pc := 145) dX7_better_145 (tgt := 149) (by decide) ?_
                refine ex_istore (L2 := [_, _, _, _, _, _, _, _]) (pc := 149) dX7_better_149 rfl (Nat.le_of_ble_eq_true rfl) rfl ?_
                refine ex_iload_n (pc := 151) dX7_better_151 rfl ?_
                refine ex_bipush (pc := 152) dX7_better_152 (by decide) ?_
                refine ex_icmp_eq (pc := 154) dX7_better_154 (tgt := 162) (by decide) (fun c154 => ?_) (fun c154 => ?_)
                · refine ex_bipush (pc := 162) dX7_better_162 (by decide) ?_
                  refine ex_iload (pc := 164) dX7_better_164 rfl ?_
                  refine ex_bipush (pc := 166) dX7_better_166 (by decide) ?_
                  refine ex_idiv (pc := 168) dX7_better_168 (by omega) (by omega) ?_
                  refine ex_imul (pc := 169) dX7_better_169 (by unfold inI; omega) ?_
                  refine ex_iload (pc := 170) dX7_better_170 rfl ?_
                  refine ex_bipush (pc := 172) dX7_better_172 (by decide) ?_
                  refine ex_irem (pc := 174) dX7_better_174 (by omega) (by omega) ?_
                  refine ex_iadd (pc := 175) dX7_better_175 (by unfold inI; omega) ?_
                  refine ex_istore_n (L2 := [_, _, _, _, _, _, _, _]) (pc := 176) dX7_better_176 rfl (Nat.le_of_ble_eq_true rfl) rfl ?_
                  refine ex_aload_n (pc := 177) dX7_better_177 rfl ?_
                  refine ex_getfield (pc := 178) dX7_better_178 fk_X7_148 h3_o (by rfl) ?_
                  refine ex_bipush (pc := 181) dX7_better_181 (by decide) ?_
                  refine ex_icmp_ne (pc := 183) dX7_better_183 (tgt := 191) (by decide) (fun c183 => ?_) (fun c183 => by exfalso; omega)
                  refine ex_aload_n (pc := 191) dX7_better_191 rfl ?_
                  refine ex_getfield (pc := 192) dX7_better_192 fk_X7_151 h3_o (by rfl) ?_
                  refine ex_bipush (pc := 195) dX7_better_195 (by decide) ?_
                  refine ex_iadd (pc := 197) dX7_better_197 (by unfold inI; omega) ?_
                  refine ex_istore_n (L2 := [_, _, _, _, _, _, _, _]) (pc := 198) dX7_better_198 rfl (Nat.le_of_ble_eq_true rfl) rfl ?_
                  refine ex_iload (pc := 199) dX7_better_199 rfl ?_
                  refine ex_if_ne (pc := 201) dX7_better_201 (tgt := 213) (by decide) (fun c201 => ?_) (fun c201 => ?_)
                  · refine ex_iconst (pc := 213) dX7_better_213 (by decide) ?_
                    refine ex_goto (pc := 214) dX7_better_214 (tgt := 218) (by decide) ?_
                    refine ex_istore (L2 := [_, _, _, _, _, _, _, _]) (pc := 218) dX7_better_218 rfl (Nat.le_of_ble_eq_true rfl) rfl ?_
                    refine ex_iinc (L2 := [_, _, _, _, _, _, _, _]) (pc := 220) dX7_better_220 rfl rfl (Nat.le_of_ble_eq_true rfl) (by unfold inI; omega) rfl ?_
                    refine ex_goto (pc := 223) dX7_better_223 (tgt := 37) (by decide) ?_
                    have hb : btS s.1 s.2.1 (k + 1) = ((k : Int), gainB (insL (k : Int) s.1) s.2.1) := btS_y ⟨by omega, by omega⟩
                    exact ih (k + 1) (by omega) (by omega) w3 _ _ _ _ _ _ _ _ _ _ _ _ _ _ _ _ _ _ _ _ _ _ h3_o h3_n h3_a h3_A h3_G h3_S h3_P h3_F h3_V (by rw [hb]; show _ = btW (k : Int); unfold btW; rw [if_neg (by omega)]) (by rw [hb]; show _ = btG (gainB (insL (k : Int) s.1) s.2.1); unfold btG; rw [if_neg (by omega)]; omega) (by rw [hb]; show _ ↔ gainB (insL (k : Int) s.1) s.2.1 ≠ -10000; omega) (by omega) (fun y hy y1 y2 => (hfL y y1 (by omega) (by omega) (by omega)).trans (by rw [e94, up_n y2, p77, up_n y2]; exact hfr y hy y1 y2))
                  · refine ex_aload_n (pc := 204) dX7_better_204 rfl ?_
                    refine ex_getfield (pc := 205) dX7_better_205 fk_X7_148 h3_o (by rfl) ?_
                    refine ex_bipush (pc := 208) dX7_better_208 (by decide) ?_
                    refine ex_icmp_eq (pc := 210) dX7_better_210 (tgt := 217) (by decide) (fun c210 => by exfalso; omega) (fun c210 => ?_)
                    refine ex_iconst (pc := 213) dX7_better_213 (by decide) ?_
                    refine ex_goto (pc := 214) dX7_better_214 (tgt := 218) (by decide) ?_
                    refine ex_istore (L2 := [_, _, _, _, _, _, _, _]) (pc := 218) dX7_better_218 rfl (Nat.le_of_ble_eq_true rfl) rfl ?_
                    refine ex_iinc (L2 := [_, _, _, _, _, _, _, _]) (pc := 220) dX7_better_220 rfl rfl (Nat.le_of_ble_eq_true rfl) (by unfold inI; omega) rfl ?_
                    refine ex_goto (pc := 223) dX7_better_223 (tgt := 37) (by decide) ?_
                    have hb : btS s.1 s.2.1 (k + 1) = ((k : Int), gainB (insL (k : Int) s.1) s.2.1) := btS_y ⟨by omega, by omega⟩
                    exact ih (k + 1) (by omega) (by omega) w3 _ _ _ _ _ _ _ _ _ _ _ _ _ _ _ _ _ _ _ _ _ _ h3_o h3_n h3_a h3_A h3_G h3_S h3_P h3_F h3_V (by rw [hb]; show _ = btW (k : Int); unfold btW; rw [if_neg (by omega)]) (by rw [hb]; show _ = btG (gainB (insL (k : Int) s.1) s.2.1); unfold btG; rw [if_neg (by omega)]; omega) (by rw [hb]; show _ ↔ gainB (insL (k : Int) s.1) s.2.1 ≠ -10000; omega) (by omega) (fun y hy y1 y2 => (hfL y y1 (by omega) (by omega) (by omega)).trans (by rw [e94, up_n y2, p77, up_n y2]; exact hfr y hy y1 y2))
                · refine ex_iload (pc := 157) dX7_better_157 rfl ?_
                  refine ex_if_eq (pc := 159) dX7_better_159 (tgt := 199) (by decide) (fun c159 => by exfalso; omega) (fun c159 => ?_)
                  refine ex_bipush (pc := 162) dX7_better_162 (by decide) ?_
                  refine ex_iload (pc := 164) dX7_better_164 rfl ?_
                  refine ex_bipush (pc := 166) dX7_better_166 (by decide) ?_
                  refine ex_idiv (pc := 168) dX7_better_168 (by omega) (by omega) ?_
                  refine ex_imul (pc := 169) dX7_better_169 (by unfold inI; omega) ?_
                  refine ex_iload (pc := 170) dX7_better_170 rfl ?_
                  refine ex_bipush (pc := 172) dX7_better_172 (by decide) ?_
                  refine ex_irem (pc := 174) dX7_better_174 (by omega) (by omega) ?_
                  refine ex_iadd (pc := 175) dX7_better_175 (by unfold inI; omega) ?_
                  refine ex_istore_n (L2 := [_, _, _, _, _, _, _, _]) (pc := 176) dX7_better_176 rfl (Nat.le_of_ble_eq_true rfl) rfl ?_
                  refine ex_aload_n (pc := 177) dX7_better_177 rfl ?_
                  refine ex_getfield (pc := 178) dX7_better_178 fk_X7_148 h3_o (by rfl) ?_
                  refine ex_bipush (pc := 181) dX7_better_181 (by decide) ?_
                  refine ex_icmp_ne (pc := 183) dX7_better_183 (tgt := 191) (by decide) (fun c183 => ?_) (fun c183 => by exfalso; omega)
                  refine ex_aload_n (pc := 191) dX7_better_191 rfl ?_
                  refine ex_getfield (pc := 192) dX7_better_192 fk_X7_151 h3_o (by rfl) ?_
                  refine ex_bipush (pc := 195) dX7_better_195 (by decide) ?_
                  refine ex_iadd (pc := 197) dX7_better_197 (by unfold inI; omega) ?_
                  refine ex_istore_n (L2 := [_, _, _, _, _, _, _, _]) (pc := 198) dX7_better_198 rfl (Nat.le_of_ble_eq_true rfl) rfl ?_
                  refine ex_iload (pc := 199) dX7_better_199 rfl ?_
                  refine ex_if_ne (pc := 201) dX7_better_201 (tgt := 213) (by decide) (fun c201 => ?_) (fun c201 => ?_)
                  · refine ex_iconst (pc := 213) dX7_better_213 (by decide) ?_
                    refine ex_goto (pc := 214) dX7_better_214 (tgt := 218) (by decide) ?_
                    refine ex_istore (L2 := [_, _, _, _, _, _, _, _]) (pc := 218) dX7_better_218 rfl (Nat.le_of_ble_eq_true rfl) rfl ?_
                    refine ex_iinc (L2 := [_, _, _, _, _, _, _, _]) (pc := 220) dX7_better_220 rfl rfl (Nat.le_of_ble_eq_true rfl) (by unfold inI; omega) rfl ?_
                    refine ex_goto (pc := 223) dX7_better_223 (tgt := 37) (by decide) ?_
                    have hb : btS s.1 s.2.1 (k + 1) = ((k : Int), gainB (insL (k : Int) s.1) s.2.1) := btS_y ⟨by omega, by omega⟩
                    exact ih (k + 1) (by omega) (by omega) w3 _ _ _ _ _ _ _ _ _ _ _ _ _ _ _ _ _ _ _ _ _ _ h3_o h3_n h3_a h3_A h3_G h3_S h3_P h3_F h3_V (by rw [hb]; show _ = btW (k : Int); unfold btW; rw [if_neg (by omega)]) (by rw [hb]; show _ = btG (gainB (insL (k : Int) s.1) s.2.1); unfold btG; rw [if_neg (by omega)]; omega) (by rw [hb]; show _ ↔ gainB (insL (k : Int) s.1) s.2.1 ≠ -10000; omega) (by omega) (fun y hy y1 y2 => (hfL y y1 (by omega) (by omega) (by omega)).trans (by rw [e94, up_n y2, p77, up_n y2]; exact hfr y hy y1 y2))
                  · refine ex_aload_n (pc := 204) dX7_better_204 rfl ?_
                    refine ex_getfield (pc := 205) dX7_better_205 fk_X7_148 h3_o (by rfl) ?_
                    refine ex_bipush (pc := 208) dX7_better_208 (by decide) ?_
                    refine ex_icmp_eq (pc := 210) dX7_better_210 (tgt := 217) (by decide) (fun c210 => by exfalso; omega) (fun c210 => ?_)
                    refine ex_iconst (pc := 213) dX7_better_213 (by decide) ?_
                    refine ex_goto (pc := 214) dX7_better_214 (tgt := 218) (by decide) ?_
                    refine ex_istore (L2 := [_, _, _, _, _, _, _, _]) (pc := 218) dX7_better_218 rfl (Nat.le_of_ble_eq_true rfl) rfl ?_
                    refine ex_iinc (L2 := [_, _, _, _, _, _, _, _]) (pc := 220) dX7_better_220 rfl rfl (Nat.le_of_ble_eq_true rfl) (by unfold inI; omega) rfl ?_
                    refine ex_goto (pc := 223) dX7_better_223 (tgt := 37) (by decide) ?_
                    have hb : btS s.1 s.2.1 (k + 1) = ((k : Int), gainB (insL (k : Int) s.1) s.2.1) := btS_y ⟨by omega, by omega⟩
                    exact ih (k + 1) (by omega) (by omega) w3 _ _ _ _ _ _ _ _ _ _ _ _ _ _ _ _ _ _ _ _ _ _ h3_o h3_n h3_a h3_A h3_G h3_S h3_P h3_F h3_V (by rw [hb]; show _ = btW (k : Int); unfold btW; rw [if_neg (by omega)]) (by rw [hb]; show _ = btG (gainB (insL (k : Int) s.1) s.2.1); unfold btG; rw [if_neg (by omega)]; omega) (by rw [hb]; show _ ↔ gainB (insL (k : Int) s.1) s.2.1 ≠ -10000; omega) (by omega) (fun y hy y1 y2 => (hfL y y1 (by omega) (by omega) (by omega)).trans (by rw [e94, up_n y2, p77, up_n y2]; exact hfr y hy y1 y2))
  refine ex_iload_n (pc := 0) dX7_better_0 rfl ?_
  refine ex_iconst (pc := 1) dX7_better_1 (by decide) ?_
  refine ex_iconst (pc := 2) dX7_better_2 (by decide) ?_
  refine ex_callSZ (as := [_, _, _]) (pc := 3) dX7_better_3 (tX7_in) lk_X7_68 ykX7_in zkX7_in rfl rfl (Nat.le_of_ble_eq_true rfl) ⟨by decide, by decide⟩ ⟨Nat.le_refl _, Nat.le_refl _⟩ (fun i3 w1 r3 p3 => ?_)
  obtain ⟨e3, p3⟩ := p3
  rw [e3]
  refine ex_if_ne (pc := 6) dX7_better_6 (tgt := 11) (by decide) (fun c6 => ?_) (fun c6 => ?_)
  · refine ex_aload_n (pc := 11) dX7_better_11 rfl ?_
    refine ex_getfield (pc := 12) dX7_better_12 fk_X7_7 h_o (by rfl) ?_
    refine ex_iconst (pc := 15) dX7_better_15 (by decide) ?_
    refine ex_iaload (pc := 16) dX7_better_16 h_n (by omega) (by omega) ?_
    have hz0 : f (0 : Int).toNat = (s.1.length : Int) := hR.1
    rw [hz0]
    refine ex_bipush (pc := 17) dX7_better_17 (by decide) ?_
    refine ex_icmp_ne (pc := 19) dX7_better_19 (tgt := 25) (by decide) (fun c19 => ?_) (fun c19 => ?_)
    · refine ex_bipush (pc := 25) dX7_better_25 (by decide) ?_
      refine ex_istore_n (L2 := [_, _, _, _, _, _, _, _]) (pc := 27) dX7_better_27 rfl (Nat.le_of_ble_eq_true rfl) rfl ?_
      refine ex_bipush (pc := 28) dX7_better_28 (by decide) ?_
      refine ex_istore_n (L2 := [_, _, _, _, _, _, _, _]) (pc := 30) dX7_better_30 rfl (Nat.le_of_ble_eq_true rfl) rfl ?_
      refine ex_iconst (pc := 31) dX7_better_31 (by decide) ?_
      refine ex_istore (L2 := [_, _, _, _, _, _, _, _]) (pc := 32) dX7_better_32 rfl (Nat.le_of_ble_eq_true rfl) rfl ?_
      refine ex_iconst (pc := 34) dX7_better_34 (by decide) ?_
      refine ex_istore (L2 := [_, _, _, _, _, _, _, _]) (pc := 35) dX7_better_35 rfl (Nat.le_of_ble_eq_true rfl) rfl ?_
      exact loop (by omega) (by omega) 241 0 (by omega) (by omega) w _ _ _ _ _ _ _ _ _ _ _ _ _ _ _ _ _ _ _ _ _ _ h_o h_n h_a h_A h_G h_S h_P h_F h_V rfl rfl ⟨fun q => absurd q (by decide), fun q => absurd rfl q⟩ (Or.inl rfl) (fun _ _ _ _ => rfl)
    · refine ex_bipush (pc := 22) dX7_better_22 (by decide) ?_
      exact ex_iret (pc := 24) dX7_better_24 ⟨by unfold opBetter; rw [if_neg (by omega), if_pos (by omega)], hS0, fun _ _ => rfl⟩ rfl (Nat.le_refl _)
  · refine ex_iconst (pc := 9) dX7_better_9 (by decide) ?_
    exact ex_iret (pc := 10) dX7_better_10 ⟨by unfold opBetter; rw [if_pos (by omega)], hS0, fun _ _ => rfl⟩ rfl (Nat.le_refl _)

