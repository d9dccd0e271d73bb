theorem tX7_number2 {n : Nat} {W : xW} {tx : List Int} {t : Nat → Int} {p9 : Nat} {uu kk mn pq cv sh be bg bc bp pa re px : Int} (h_o : W 55 = rO uu kk (tx.length) (p9) mn pq cv sh be bg bc bp pa re px) (h_t : W 61 = xA 200 t) (ht : Lst t tx) (hlen : tx.length ≤ 200) (hp9 : p9 ≤ 300) {ms sg : Int} (hsg : sg < 48 ∨ 57 < sg) (hsg2 : sg ≠ -1) : Ctr mX7_number [xr 55, xi ms, xi sg] n W (pI (fun v w2 => ∃ b : Nat, b ≤ 400 ∧ w2 = va_up W 55 (rO uu kk (tx.length) (b) mn pq cv sh be bg bc bp pa re px) ∧ ((0 ≤ v ∧ v ≤ ms ∧ b ≤ tx.length ∧ numS tx p9 sg = some (v, b)) ∨ (v = -1 ∧ ∀ v2 j2, numS tx p9 sg = some (v2, j2) → ms < v2)))) := by
  refine (tX7_number h_o h_t ht hlen hp9 (ms := ms) hsg).monoI (fun v w2 q => ?_)
  rcases q with ⟨v2, j2, q1, q2, q3, q4⟩ | ⟨q1, q2, b, q3, q4⟩
  · have hsp := numS_spec q1 hsg2
    exact ⟨j2, by omega, q4, Or.inl ⟨by omega, by omega, by omega, by rw [q3]; exact q1⟩⟩
  · exact ⟨b, q3, q4, Or.inr ⟨q1, q2⟩⟩
theorem noteS_y {tx : List Int} {i j j2 : Nat} {tm pt : Int} (h1 : numS tx i 44 = some (tm, j)) (h2 : tm ≤ 19) (h3 : numS tx j 59 = some (pt, j2)) (h4 : pt ≤ 11) : noteS tx i = some (tm * 12 + pt, j2) := by
  unfold noteS
  rw [h1]
  simp only
  rw [if_neg (by omega), h3]
  simp only
  rw [if_neg (by omega)]
theorem noteS_n1 {tx : List Int} {i : Nat} (h : ∀ v2 j2, numS tx i 44 = some (v2, j2) → 19 < v2) : noteS tx i = none := by
  unfold noteS
  cases e : numS tx i 44 with
  | none => rfl
  | some x => exact if_pos (h x.1 x.2 e)
theorem noteS_n2 {tx : List Int} {i j : Nat} {tm : Int} (h1 : numS tx i 44 = some (tm, j)) (h2 : tm ≤ 19) (h : ∀ v2 j2, numS tx j 59 = some (v2, j2) → 11 < v2) : noteS tx i = none := by
  unfold noteS
  rw [h1]
  simp only
  rw [if_neg (by omega)]
  cases e : numS tx j 59 with
  | none => rfl
  | some x => exact if_pos (h x.1 x.2 e)
theorem mannS_y {tx : List Int} {i j : Nat} {m : Int} (h1 : numS tx i 59 = some (m, j)) (h2 : m ≤ 2) : mannS tx i = some (m, j) := by
  unfold mannS
  rw [h1]
  exact if_neg (by omega)
theorem mannS_n {tx : List Int} {i : Nat} (h : ∀ v2 j2, numS tx i 59 = some (v2, j2) → 2 < v2) : mannS tx i = none := by
  unfold mannS
  cases e : numS tx i 59 with
  | none => rfl
  | some x => exact if_pos (h x.1 x.2 e)
abbrev mX7_readsItem : xC := mkC yX7_readsItem cX7_readsItem 4 (some .boolean) 3 300 0 0
theorem modeR {f : Nat → Int} {cs : List Int} {mo m : Int} (h : RowL f 0 cs mo) : RowL (va_up f (1 : Int).toNat m) 0 cs m := by
  have e : (1 : Int).toNat = 1 := rfl
  rw [e]
  exact ⟨(up_n (by omega)).trans h.1, up_s, fun i hi => ⟨(up_n (by omega)).trans (h.2.2 i hi).1, (up_n (by omega)).trans (h.2.2 i hi).2⟩⟩
set_option maxHeartbeats 4000000 in
set_option maxRecDepth 100000 in
theorem tX7_readsItem {n : Nat} {W : xW} {tx : List Int} {t : Nat → Int} {p9 : Nat} {uu kk mn pq cv sh be bg bc bp pa re px : Int} (h_o : W 55 = rO uu kk (tx.length) (p9) mn pq cv sh be bg bc bp pa re px) (h_t : W 61 = xA 200 t) (ht : Lst t tx) (hlen : tx.length ≤ 200) {f : Nat → Int} {cs : List Int} {mo : Int} (h_r : W 57 = xA 30 f) (hR : RowL f 0 cs mo) (hl : cs.length ≤ 14) (hcd : Cod cs) (hp : p9 ≤ 200) : Ctr mX7_readsItem [xr 55] n W (pZ (fun v w2 => ∃ b : Nat, b ≤ 400 ∧ w2 55 = rO uu kk (tx.length) (b) mn pq cv sh be bg bc bp pa re px ∧ (∀ z, z ≠ 55 → z ≠ 57 → w2 z = W z) ∧ ∃ f2, w2 57 = xA 30 f2 ∧ ((v = 1 ∧ ∃ cs2 m2, itemS tx p9 cs mo = some (cs2, m2, b) ∧ RowL f2 0 cs2 m2) ∨ (v = 0 ∧ itemS tx p9 cs mo = none)))) := by
  refine Ctr.of ykX7_readsItem rfl (Nat.le_of_ble_eq_true rfl) okZ (fun hin hW => ?_)
  show Ex _ _ 0 0 n W 0 [some (xr 55), none, none, none] []
  refine ex_aload_n (pc := 0) dX7_readsItem_0 rfl ?_
  refine ex_callVI (as := []) (pc := 1) dX7_readsItem_1 (tX7_here h_o h_t ht hlen) lk_X7_64 ykX7_here vkX7_here h_o rfl rfl rfl (Nat.le_of_ble_eq_true rfl) ⟨by decide, by decide⟩ ⟨Nat.le_refl _, Nat.le_refl _⟩ (fun i1 w1 r1 p1 => ?_)
  obtain ⟨e1, p1⟩ := p1
  rw [e1]
  refine ex_istore_n (L2 := [_, _, _, _]) (pc := 4) dX7_readsItem_4 rfl (Nat.le_of_ble_eq_true rfl) rfl ?_
  refine ex_aload_n (pc := 5) dX7_readsItem_5 rfl ?_
  refine ex_dup (pc := 6) dX7_readsItem_6 rfl ?_
  refine ex_getfield (pc := 7) dX7_readsItem_7 fk_X7_57 h_o (by rfl) ?_
  refine ex_iconst (pc := 10) dX7_readsItem_10 (by decide) ?_
  refine ex_iadd (pc := 11) dX7_readsItem_11 (by unfold inI; omega) ?_
  refine ex_putA (pc := 12) dX7_readsItem_12 fk_X7_57 (ty := tyX7 9) (fun _ _ _ h9 => by cases h9; exact ⟨tyX7_ok 9 (by decide), rfl⟩) h_o (Nat.le_of_ble_eq_true rfl) (fun _ => rfl) (fun _ => rfl) ?_
  refine ex_up (fun w1 e_w1 => ?_)
  have h1_o := (congrFun e_w1 55).trans up_s
  have h1_t := ((congrFun e_w1 61).trans (up_n (by first | assumption | decide | omega))).trans h_t
  have h1_r := ((congrFun e_w1 57).trans (up_n (by first | assumption | decide | omega))).trans h_r
  refine ex_iload_n (pc := 15) dX7_readsItem_15 rfl ?_
  refine ex_bipush (pc := 16) dX7_readsItem_16 (by decide) ?_
  refine ex_icmp_ne (pc := 18) dX7_readsItem_18 (tgt := 96) (by decide) (fun c18 => ?_) (fun c18 => ?_)
  · refine ex_iload_n (pc := 96) dX7_readsItem_96 rfl ?_
    refine ex_bipush (pc := 97) dX7_readsItem_97 (by decide) ?_
    refine ex_icmp_ne (pc := 99) dX7_readsItem_99 (tgt := 112) (by decide) (fun c99 => ?_) (fun c99 => ?_)
    · refine ex_iconst (pc := 112) dX7_readsItem_112 (by decide) ?_
      refine ex_istore_n (L2 := [_, _, _, _]) (pc := 113) dX7_readsItem_113 rfl (Nat.le_of_ble_eq_true rfl) rfl ?_
      refine ex_iload_n (pc := 114) dX7_readsItem_114 rfl ?_
      refine ex_if_lt (pc := 115) dX7_readsItem_115 (tgt := 125) (by decide) (fun c115 => ?_) (fun c115 => by exfalso; omega)
      refine ex_iload_n (pc := 125) dX7_readsItem_125 rfl ?_
      refine ex_if_lt (pc := 126) dX7_readsItem_126 (tgt := 133) (by decide) (fun c126 => ?_) (fun c126 => by exfalso; omega)
      refine ex_iconst (pc := 133) dX7_readsItem_133 (by decide) ?_
      exact ex_zret (pc := 134) dX7_readsItem_134 ⟨Or.inl rfl, ⟨p9 + 1, by omega, h1_o, (fun z z1 z2 => by simp only [e_w1, up_n z1, up_n z2]), _, h1_r, Or.inr ⟨rfl, by unfold itemS; rw [if_neg (by omega), if_neg (by omega)]⟩⟩⟩ rfl (Nat.le_refl _)
    · refine ex_aload_n (pc := 102) dX7_readsItem_102 rfl ?_
      refine ex_iconst (pc := 103) dX7_readsItem_103 (by decide) ?_
      refine ex_bipush (pc := 104) dX7_readsItem_104 (by decide) ?_
      refine ex_callVI (as := [_, _]) (pc := 106) dX7_readsItem_106 (tX7_number2 (p9 := p9 + 1) h1_o h1_t ht hlen (by omega) (by decide) (by decide)) lk_X7_72 ykX7_number vkX7_number h1_o rfl rfl rfl (Nat.le_of_ble_eq_true rfl) ⟨by decide, by decide⟩ ⟨Nat.le_refl _, Nat.le_refl _⟩ (fun i106 w2 r106 p106 => ?_)
      obtain ⟨bC, hbC, ewC, hqC⟩ := p106
      have h2_o := (congrFun ewC 55).trans up_s
      have h2_t := ((congrFun ewC 61).trans (up_n (by decide))).trans h1_t
      have h2_r := ((congrFun ewC 57).trans (up_n (by decide))).trans h1_r
      refine ex_goto (pc := 109) dX7_readsItem_109 (tgt := 113) (by decide) ?_
      refine ex_istore_n (L2 := [_, _, _, _]) (pc := 113) dX7_readsItem_113 rfl (Nat.le_of_ble_eq_true rfl) rfl ?_
      refine ex_iload_n (pc := 114) dX7_readsItem_114 rfl ?_
      refine ex_if_lt (pc := 115) dX7_readsItem_115 (tgt := 125) (by decide) (fun c115 => ?_) (fun c115 => ?_)
      · refine ex_iload_n (pc := 125) dX7_readsItem_125 rfl ?_
        refine ex_if_lt (pc := 126) dX7_readsItem_126 (tgt := 133) (by decide) (fun c126 => ?_) (fun c126 => by exfalso; omega)
        refine ex_iconst (pc := 133) dX7_readsItem_133 (by decide) ?_
        exact ex_zret (pc := 134) dX7_readsItem_134 ⟨Or.inl rfl, ⟨bC, by omega, h2_o, (fun z z1 z2 => by simp only [ewC, e_w1, up_n z1, up_n z2]), _, h2_r, Or.inr ⟨rfl, by unfold itemS; rw [if_neg (by omega), if_pos (by omega), mannS_n (fun v2 j2 q => (hqC.resolve_left (by omega)).2 v2 j2 q)]⟩⟩⟩ rfl (Nat.le_refl _)
      · refine ex_aload_n (pc := 118) dX7_readsItem_118 rfl ?_
        refine ex_getfield (pc := 119) dX7_readsItem_119 fk_X7_13 h2_o (by rfl) ?_
        refine ex_iconst (pc := 122) dX7_readsItem_122 (by decide) ?_
        refine ex_iload_n (pc := 123) dX7_readsItem_123 rfl ?_
        refine ex_iastore (pc := 124) dX7_readsItem_124 h2_r (by omega) (by omega) ?_
        refine ex_up (fun w3 e_w3 => ?_)
        have h3_o := ((congrFun e_w3 55).trans (up_n (by first | assumption | decide | omega))).trans h2_o
        have h3_t := ((congrFun e_w3 61).trans (up_n (by first | assumption | decide | omega))).trans h2_t
        have h3_r := (congrFun e_w3 57).trans up_s
        refine ex_iload_n (pc := 125) dX7_readsItem_125 rfl ?_
        refine ex_if_lt (pc := 126) dX7_readsItem_126 (tgt := 133) (by decide) (fun c126 => by exfalso; omega) (fun c126 => ?_)
        refine ex_iconst (pc := 129) dX7_readsItem_129 (by decide) ?_
        refine ex_goto (pc := 130) dX7_readsItem_130 (tgt := 134) (by decide) ?_
        exact ex_zret (pc := 134) dX7_readsItem_134 ⟨Or.inr rfl, ⟨bC, by omega, h3_o, (fun z z1 z2 => by simp only [e_w3, ewC, e_w1, up_n z1, up_n z2]), _, h3_r, Or.inl ⟨rfl, _, _, by unfold itemS; rw [if_neg (by omega), if_pos (by omega), mannS_y (hqC.resolve_right (by omega)).2.2.2 (by omega)], modeR hR⟩⟩⟩ rfl (Nat.le_refl _)
  · refine ex_aload_n (pc := 21) dX7_readsItem_21 rfl ?_
    refine ex_bipush (pc := 22) dX7_readsItem_22 (by decide) ?_
    refine ex_bipush (pc := 24) dX7_readsItem_24 (by decide) ?_
    refine ex_callVI (as := [_, _]) (pc := 26) dX7_readsItem_26 (tX7_number2 (p9 := p9 + 1) h1_o h1_t ht hlen (by omega) (by decide) (by decide)) lk_X7_72 ykX7_number vkX7_number h1_o rfl rfl rfl (Nat.le_of_ble_eq_true rfl) ⟨by decide, by decide⟩ ⟨Nat.le_refl _, Nat.le_refl _⟩ (fun i26 w2 r26 p26 => ?_)
    obtain ⟨bA, hbA, ewA, hqA⟩ := p26
    have h2_o := (congrFun ewA 55).trans up_s
    have h2_t := ((congrFun ewA 61).trans (up_n (by decide))).trans h1_t
    have h2_r := ((congrFun ewA 57).trans (up_n (by decide))).trans h1_r
    refine ex_istore_n (L2 := [_, _, _, _]) (pc := 29) dX7_readsItem_29 rfl (Nat.le_of_ble_eq_true rfl) rfl ?_
    refine ex_iload_n (pc := 30) dX7_readsItem_30 rfl ?_
    refine ex_if_ge (pc := 31) dX7_readsItem_31 (tgt := 38) (by decide) (fun c31 => ?_) (fun c31 => ?_)
    · have hqA1 := hqA.resolve_right (by omega)
      refine ex_aload_n (pc := 38) dX7_readsItem_38 rfl ?_
      refine ex_bipush (pc := 39) dX7_readsItem_39 (by decide) ?_
      refine ex_bipush (pc := 41) dX7_readsItem_41 (by decide) ?_
      refine ex_callVI (as := [_, _]) (pc := 43) dX7_readsItem_43 (tX7_number2 (p9 := bA) h2_o h2_t ht hlen (by omega) (by decide) (by decide)) lk_X7_72 ykX7_number vkX7_number h2_o rfl rfl rfl (Nat.le_of_ble_eq_true rfl) ⟨by decide, by decide⟩ ⟨Nat.le_refl _, Nat.le_refl _⟩ (fun i43 w3 r43 p43 => ?_)
      obtain ⟨bB, hbB, ewB, hqB⟩ := p43
      have h3_o := (congrFun ewB 55).trans up_s
      have h3_t := ((congrFun ewB 61).trans (up_n (by decide))).trans h2_t
      have h3_r := ((congrFun ewB 57).trans (up_n (by decide))).trans h2_r
      refine ex_istore_n (L2 := [_, _, _, _]) (pc := 46) dX7_readsItem_46 rfl (Nat.le_of_ble_eq_true rfl) rfl ?_
      refine ex_iload_n (pc := 47) dX7_readsItem_47 rfl ?_
      refine ex_if_lt (pc := 48) dX7_readsItem_48 (tgt := 76) (by decide) (fun c48 => ?_) (fun c48 => ?_)
      · refine ex_iconst (pc := 76) dX7_readsItem_76 (by decide) ?_
        exact ex_zret (pc := 77) dX7_readsItem_77 ⟨Or.inl rfl, ⟨bB, by omega, h3_o, (fun z z1 z2 => by simp only [ewB, ewA, e_w1, up_n z1, up_n z2]), _, h3_r, Or.inr ⟨rfl, by unfold itemS; rw [if_pos (by omega), noteS_n2 hqA1.2.2.2 hqA1.2.1 (fun v2 j2 q => (hqB.resolve_left (by omega)).2 v2 j2 q)]⟩⟩⟩ rfl (Nat.le_refl _)
      · have hqB1 := hqB.resolve_right (by omega)
        refine ex_aload_n (pc := 51) dX7_readsItem_51 rfl ?_
        refine ex_getfield (pc := 52) dX7_readsItem_52 fk_X7_13 h3_o (by rfl) ?_
        refine ex_iconst (pc := 55) dX7_readsItem_55 (by decide) ?_
        refine ex_iaload (pc := 56) dX7_readsItem_56 h3_r (by omega) (by omega) ?_
        rw [show (0 : Int).toNat = 0 from rfl, hR.1]
        refine ex_bipush (pc := 57) dX7_readsItem_57 (by decide) ?_
        refine ex_icmp_eq (pc := 59) dX7_readsItem_59 (tgt := 76) (by decide) (fun c59 => ?_) (fun c59 => ?_)
        · refine ex_iconst (pc := 76) dX7_readsItem_76 (by decide) ?_
          exact ex_zret (pc := 77) dX7_readsItem_77 ⟨Or.inl rfl, ⟨bB, by omega, h3_o, (fun z z1 z2 => by simp only [ewB, ewA, e_w1, up_n z1, up_n z2]), _, h3_r, Or.inr ⟨rfl, by unfold itemS; rw [if_pos (by omega), noteS_y hqA1.2.2.2 hqA1.2.1 hqB1.2.2.2 hqB1.2.1]; exact if_neg (by omega)⟩⟩⟩ rfl (Nat.le_refl _)
        · refine ex_aload_n (pc := 62) dX7_readsItem_62 rfl ?_
          refine ex_getfield (pc := 63) dX7_readsItem_63 fk_X7_13 h3_o (by rfl) ?_
          refine ex_iload_n (pc := 66) dX7_readsItem_66 rfl ?_
          refine ex_iload_n (pc := 67) dX7_readsItem_67 rfl ?_
          refine ex_callSI (as := [_, _, _]) (pc := 68) dX7_readsItem_68 (tX7_numberOf h3_r hR hl hcd (by omega)) lk_X7_76 ykX7_numberOf zkX7_numberOf rfl rfl (Nat.le_of_ble_eq_true rfl) ⟨by decide, by decide⟩ ⟨Nat.le_refl _, Nat.le_refl _⟩ (fun i68 w4 r68 p68 => ?_)
          obtain ⟨e68, p68⟩ := p68
          rw [e68]
          refine ex_bipush (pc := 71) dX7_readsItem_71 (by decide) ?_
          refine ex_icmp_eq (pc := 73) dX7_readsItem_73 (tgt := 78) (by decide) (fun c73 => ?_) (fun c73 => ?_)
          · refine ex_aload_n (pc := 78) dX7_readsItem_78 rfl ?_
            refine ex_getfield (pc := 79) dX7_readsItem_79 fk_X7_13 h3_o (by rfl) ?_
            refine ex_iload_n (pc := 82) dX7_readsItem_82 rfl ?_
            refine ex_iload_n (pc := 83) dX7_readsItem_83 rfl ?_
            refine ex_callSI (as := [_, _, _]) (pc := 84) dX7_readsItem_84 (tX7_puts h3_r hR (by omega) hcd (by omega)) lk_X7_53 ykX7_puts zkX7_puts rfl rfl (Nat.le_of_ble_eq_true rfl) ⟨by decide, by decide⟩ ⟨Nat.le_refl _, Nat.le_refl _⟩ (fun i84 w4 r84 p84 => ?_)
            obtain ⟨ev84, e84⟩ := p84
            have h4_o := ((congrFun e84 55).trans (up_n (by decide))).trans h3_o
            have h4_t := ((congrFun e84 61).trans (up_n (by decide))).trans h3_t
            have h4_r := (congrFun e84 57).trans up_s
            refine ex_if_lt (pc := 87) dX7_readsItem_87 (tgt := 94) (by decide) (fun c87 => by exfalso; omega) (fun c87 => ?_)
            refine ex_iconst (pc := 90) dX7_readsItem_90 (by decide) ?_
            refine ex_goto (pc := 91) dX7_readsItem_91 (tgt := 95) (by decide) ?_
            exact ex_zret (pc := 95) dX7_readsItem_95 ⟨Or.inr rfl, ⟨bB, by omega, h4_o, (fun z z1 z2 => by simp only [e84, ewB, ewA, e_w1, up_n z1, up_n z2]), _, h4_r, Or.inl ⟨rfl, _, _, by unfold itemS; rw [if_pos (by omega), noteS_y hqA1.2.2.2 hqA1.2.1 hqB1.2.2.2 hqB1.2.1]; exact if_pos ⟨by omega, by omega⟩, putF_row hR (by omega) (by omega)⟩⟩⟩ rfl (Nat.le_refl _)
          · refine ex_iconst (pc := 76) dX7_readsItem_76 (by decide) ?_
            exact ex_zret (pc := 77) dX7_readsItem_77 ⟨Or.inl rfl, ⟨bB, by omega, h3_o, (fun z z1 z2 => by simp only [ewB, ewA, e_w1, up_n z1, up_n z2]), _, h3_r, Or.inr ⟨rfl, by unfold itemS; rw [if_pos (by omega), noteS_y hqA1.2.2.2 hqA1.2.1 hqB1.2.2.2 hqB1.2.1]; exact if_neg (by omega)⟩⟩⟩ rfl (Nat.le_refl _)
    · refine ex_iconst (pc := 34) dX7_readsItem_34 (by decide) ?_
      refine ex_goto (pc := 35) dX7_readsItem_35 (tgt := 46) (by decide) ?_
      refine ex_istore_n (L2 := [_, _, _, _]) (pc := 46) dX7_readsItem_46 rfl (Nat.le_of_ble_eq_true rfl) rfl ?_
      refine ex_iload_n (pc := 47) dX7_readsItem_47 rfl ?_
      refine ex_if_lt (pc := 48) dX7_readsItem_48 (tgt := 76) (by decide) (fun c48 => ?_) (fun c48 => by exfalso; omega)
      refine ex_iconst (pc := 76) dX7_readsItem_76 (by decide) ?_
      exact ex_zret (pc := 77) dX7_readsItem_77 ⟨Or.inl rfl, ⟨bA, by omega, h2_o, (fun z z1 z2 => by simp only [ewA, e_w1, up_n z1, up_n z2]), _, h2_r, Or.inr ⟨rfl, by unfold itemS; rw [if_pos (by omega), noteS_n1 (fun v2 j2 q => (hqA.resolve_left (by omega)).2 v2 j2 q)]⟩⟩⟩ rfl (Nat.le_refl _)

abbrev mX7_reading : xC := mkC yX7_reading cX7_reading 2 (some .int) 4 400 0 0
set_option maxHeartbeats 4000000 in
set_option maxRecDepth 100000 in
theorem tX7_reading {n : Nat} {W : xW} {tx : List Int} {t : Nat → Int} {f : Nat → Int} {uu kk pl mn pq cv sh be bg bc bp pa re px : Int} (h_o : W 55 = rO uu kk (tx.length) pl mn pq cv sh be bg bc bp pa re px) (h_t : W 61 = xA 200 t) (ht : Lst t tx) (hlen : tx.length ≤ 200) (h_r : W 57 = xA 30 f) {RS : Int × List Int × Int} (hRS : rdS tx 200 0 [] 0 = RS) : Ctr mX7_reading [xr 55] n W (pI (fun v w2 => v = RS.1 ∧ Cod RS.2.1 ∧ (0 ≤ RS.2.2 ∧ RS.2.2 ≤ 2) ∧ RS.2.1.length ≤ 14 ∧ (∃ b : Nat, w2 55 = rO uu kk (tx.length) (b) mn pq cv sh be bg bc bp pa re px) ∧ (∀ z, z ≠ 55 → z ≠ 57 → w2 z = W z) ∧ ∃ f2, w2 57 = xA 30 f2 ∧ (RS.1 = -4 → RowL f2 0 RS.2.1 RS.2.2))) := by
  refine Ctr.of ykX7_reading rfl (Nat.le_of_ble_eq_true rfl) okI (fun hin hW => ?_)
  show Ex _ _ 0 0 n W 0 [some (xr 55), none] []
  have loop : ∀ (d k : Nat), k ≤ 200 → 200 ≤ k + d → ∀ (w : xW) (i : Nat) (cs : List Int) (mo : Int) (f : Nat → Int) (x1 : Option xV), i ≤ tx.length → k ≤ i → w 55 = rO uu kk (tx.length) ((i : Nat)) mn pq cv sh be bg bc bp pa re px → w 61 = xA 200 t → w 57 = xA 30 f → RowL f 0 cs mo → Cod cs → (0 ≤ mo ∧ mo ≤ 2) → cs.length ≤ 14 → (∀ z, z ≠ 55 → z ≠ 57 → w z = W z) → rdS tx d i cs mo = RS → Ex mX7_reading (pI (fun v w2 => v = RS.1 ∧ Cod RS.2.1 ∧ (0 ≤ RS.2.2 ∧ RS.2.2 ≤ 2) ∧ RS.2.1.length ≤ 14 ∧ (∃ b : Nat, w2 55 = rO uu kk (tx.length) (b) mn pq cv sh be bg bc bp pa re px) ∧ (∀ z, z ≠ 55 → z ≠ 57 → w2 z = W z) ∧ ∃ f2, w2 57 = xA 30 f2 ∧ (RS.1 = -4 → RowL f2 0 RS.2.1 RS.2.2))) 0 0 n w 19 [some (xr 55), x1] [] := by
    intro d
    induction d with
    | zero =>
      intro k h1 h2 w i cs mo f x1 hi hki h_o h_t h_r hR hcd hm hl hfr he
      refine ex_aload_n (pc := 19) dX7_reading_19 rfl ?_
      refine ex_getfield (pc := 20) dX7_reading_20 fk_X7_57 h_o (by rfl) ?_
      refine ex_aload_n (pc := 23) dX7_reading_23 rfl ?_
      refine ex_getfield (pc := 24) dX7_reading_24 fk_X7_61 h_o (by rfl) ?_
      refine ex_icmp_ge (pc := 27) dX7_reading_27 (tgt := 47) (by decide) (fun c27 => ?_) (fun c27 => by exfalso; omega)
      refine ex_bipush (pc := 47) dX7_reading_47 (by decide) ?_
      exact ex_iret (pc := 49) dX7_reading_49 ⟨by rw [← he]; rfl, by rw [← he]; exact hcd, by rw [← he]; exact hm, by rw [← he]; exact hl, ⟨i, h_o⟩, hfr, f, h_r, fun _ => by rw [← he]; exact hR⟩ rfl (Nat.le_refl _)
    | succ d ih =>
      intro k h1 h2 w i cs mo f x1 hi hki h_o h_t h_r hR hcd hm hl hfr he
      refine ex_aload_n (pc := 19) dX7_reading_19 rfl ?_
      refine ex_getfield (pc := 20) dX7_reading_20 fk_X7_57 h_o (by rfl) ?_
      refine ex_aload_n (pc := 23) dX7_reading_23 rfl ?_
      refine ex_getfield (pc := 24) dX7_reading_24 fk_X7_61 h_o (by rfl) ?_
      refine ex_icmp_ge (pc := 27) dX7_reading_27 (tgt := 47) (by decide) (fun c27 => ?_) (fun c27 => ?_)
      · have hii : ¬ i < tx.length := by omega
        unfold rdS at he
        rw [if_neg hii] at he
        refine ex_bipush (pc := 47) dX7_reading_47 (by decide) ?_
        exact ex_iret (pc := 49) dX7_reading_49 ⟨by rw [← he], by rw [← he]; exact hcd, by rw [← he]; exact hm, by rw [← he]; exact hl, ⟨i, h_o⟩, hfr, f, h_r, fun _ => by rw [← he]; exact hR⟩ rfl (Nat.le_refl _)
      · have hii : i < tx.length := by omega
        unfold rdS at he
        rw [if_pos hii] at he
        refine ex_aload_n (pc := 30) dX7_reading_30 rfl ?_
        refine ex_getfield (pc := 31) dX7_reading_31 fk_X7_57 h_o (by rfl) ?_
        refine ex_istore_n (L2 := [_, _]) (pc := 34) dX7_reading_34 rfl (Nat.le_of_ble_eq_true rfl) rfl ?_
        refine ex_aload_n (pc := 35) dX7_reading_35 rfl ?_
        refine ex_callVZ (as := []) (pc := 36) dX7_reading_36 (tX7_readsItem h_o h_t ht hlen h_r hR hl hcd (by omega)) lk_X7_79 ykX7_readsItem vkX7_readsItem h_o rfl rfl rfl (Nat.le_of_ble_eq_true rfl) ⟨by decide, by decide⟩ ⟨Nat.le_refl _, Nat.le_refl _⟩ (fun i36 w1 r36 p36 => ?_)
        obtain ⟨b, hb, h1_o, hfr1, f2, h1_r, hq⟩ := p36
        have h1_t := (hfr1 61 (by decide) (by decide)).trans h_t
        refine ex_if_ne (pc := 39) dX7_reading_39 (tgt := 44) (by decide) (fun c39 => ?_) (fun c39 => ?_)
        · obtain ⟨-, cs2, m2, hq1, hq2⟩ := hq.resolve_right (by omega)
          rw [hq1] at he
          have hsp := itemS_spec hq1 hcd hm hl
          refine ex_goto (pc := 44) dX7_reading_44 (tgt := 19) (by decide) ?_
          exact ih (k + 1) (by omega) (by omega) w1 b cs2 m2 f2 _ hsp.2.1 (by omega) h1_o h1_t h1_r hq2 hsp.2.2.1 hsp.2.2.2.1 hsp.2.2.2.2 (fun z z1 z2 => (hfr1 z z1 z2).trans (hfr z z1 z2)) he
        · have hq0 := (hq.resolve_left (by omega)).2
          rw [hq0] at he
          refine ex_iload_n (pc := 42) dX7_reading_42 rfl ?_
          exact ex_iret (pc := 43) dX7_reading_43 ⟨by rw [← he], by rw [← he]; exact hcd, by rw [← he]; exact hm, by rw [← he]; exact hl, ⟨b, h1_o⟩, (fun z z1 z2 => (hfr1 z z1 z2).trans (hfr z z1 z2)), f2, h1_r, fun q => by rw [← he] at q; exact absurd q (by show ¬ ((i : Int) = -4); omega)⟩ rfl (Nat.le_refl _)
  refine ex_aload_n (pc := 0) dX7_reading_0 rfl ?_
  refine ex_getfield (pc := 1) dX7_reading_1 fk_X7_13 h_o (by rfl) ?_
  refine ex_iconst (pc := 4) dX7_reading_4 (by decide) ?_
  refine ex_iconst (pc := 5) dX7_reading_5 (by decide) ?_
  refine ex_iastore (pc := 6) dX7_reading_6 h_r (by omega) (by omega) ?_
  refine ex_up (fun w1 e_w1 => ?_)
  have h1_o := ((congrFun e_w1 55).trans (up_n (by first | assumption | decide | omega))).trans h_o
  have h1_t := ((congrFun e_w1 61).trans (up_n (by first | assumption | decide | omega))).trans h_t
  have h1_r := (congrFun e_w1 57).trans up_s
  refine ex_aload_n (pc := 7) dX7_reading_7 rfl ?_
  refine ex_getfield (pc := 8) dX7_reading_8 fk_X7_13 h1_o (by rfl) ?_
  refine ex_iconst (pc := 11) dX7_reading_11 (by decide) ?_
  refine ex_iconst (pc := 12) dX7_reading_12 (by decide) ?_
  refine ex_iastore (pc := 13) dX7_reading_13 h1_r (by omega) (by omega) ?_
  refine ex_up (fun w2 e_w2 => ?_)
  have h2_o := ((congrFun e_w2 55).trans (up_n (by first | assumption | decide | omega))).trans h1_o
  have h2_t := ((congrFun e_w2 61).trans (up_n (by first | assumption | decide | omega))).trans h1_t
  have h2_r := (congrFun e_w2 57).trans up_s
  refine ex_aload_n (pc := 14) dX7_reading_14 rfl ?_
  refine ex_iconst (pc := 15) dX7_reading_15 (by decide) ?_
  refine ex_putA (pc := 16) dX7_reading_16 fk_X7_57 (ty := tyX7 9) (fun _ _ _ h9 => by cases h9; exact ⟨tyX7_ok 9 (by decide), rfl⟩) h2_o (Nat.le_of_ble_eq_true rfl) (fun _ => rfl) (fun _ => rfl) ?_
  refine ex_up (fun w3 e_w3 => ?_)
  have h3_o := (congrFun e_w3 55).trans up_s
  have h3_t := ((congrFun e_w3 61).trans (up_n (by first | assumption | decide | omega))).trans h2_t
  have h3_r := ((congrFun e_w3 57).trans (up_n (by first | assumption | decide | omega))).trans h2_r
  have e0 : (0 : Int).toNat = 0 := rfl
  have e1 : (1 : Int).toNat = 1 := rfl
  refine loop 200 0 (by omega) (by omega) w3 0 [] 0 _ _ (by omega) (by omega) h3_o h3_t h3_r ⟨?_, ?_, fun i hi => absurd hi (Nat.not_lt_zero _)⟩ (fun i hi => absurd hi (Nat.not_lt_zero _)) (by omega) (by decide) (fun z z1 z2 => by simp only [e_w3, e_w2, e_w1, up_n z1, up_n z2]) hRS
  · rw [e0, e1, up_n (by omega), up_s]; rfl
  · rw [e0, e1, up_s]

