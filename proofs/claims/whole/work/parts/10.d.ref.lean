def AX (w : xW) (a N : Nat) : Prop := ∃ f, w a = xA N f
def RowsL (f : Nat → Int) (L : List (List Int × Int)) : Prop := ∀ i x, L[i]? = some x → RowL f (30 * i) x.1 x.2
/-- the rows that a call lays anew -/
def Scr (w : xW) : Prop := AX w 57 30 ∧ AX w 58 30 ∧ AX w 62 240 ∧ AX w 63 897 ∧ AX w 64 448 ∧ AX w 65 21 ∧ AX w 66 16384 ∧ AX w 67 448
def RefS (w : xW) (s : St) : Prop := Vld s.1 s.2.1 s.2.2.1 s.2.2.2.1 ∧ Scr w ∧ (∃ pl mn pq cv sh be bg bc bp pa re px : Int, w 55 = rO s.2.2.1.length s.2.2.2.1.length s.2.2.2.2.length pl mn pq cv sh be bg bc bp pa re px) ∧ (∃ f, w 56 = xA 30 f ∧ RowL f 0 s.1 s.2.1) ∧ (∃ f, w 59 = xA 240 f ∧ RowsL f s.2.2.1) ∧ s.2.2.1.length ≤ 8 ∧ (∃ f, w 60 = xA 60 f ∧ RowsL f s.2.2.2.1) ∧ s.2.2.2.1.length ≤ 2 ∧ (∃ f, w 61 = xA 200 f ∧ Lst f s.2.2.2.2) ∧ s.2.2.2.2.length ≤ 200
def FrR (w w2 : xW) : Prop := ∀ z, z < 55 → w2 z = w z
def Fr5 (w w2 : xW) : Prop := ∀ z, z ≠ 55 → z ≠ 56 → z ≠ 59 → z ≠ 60 → z ≠ 61 → w2 z = w z
theorem AX.fr {w w2 : xW} {a N : Nat} (h : AX w a N) (e : w2 a = w a) : AX w2 a N := by
  obtain ⟨f, h⟩ := h
  exact ⟨f, e.trans h⟩
theorem Scr.fr {w w2 : xW} (h : Scr w) (hf : ∀ z, z ≠ 55 → z ≠ 56 → z ≠ 59 → z ≠ 60 → z ≠ 61 → w2 z = w z) : Scr w2 := by
  obtain ⟨h1, h2, h3, h4, h5, h6, h7, h8⟩ := h
  exact ⟨h1.fr (hf _ (by decide) (by decide) (by decide) (by decide) (by decide)), h2.fr (hf _ (by decide) (by decide) (by decide) (by decide) (by decide)), h3.fr (hf _ (by decide) (by decide) (by decide) (by decide) (by decide)), h4.fr (hf _ (by decide) (by decide) (by decide) (by decide) (by decide)), h5.fr (hf _ (by decide) (by decide) (by decide) (by decide) (by decide)), h6.fr (hf _ (by decide) (by decide) (by decide) (by decide) (by decide)), h7.fr (hf _ (by decide) (by decide) (by decide) (by decide) (by decide)), h8.fr (hf _ (by decide) (by decide) (by decide) (by decide) (by decide))⟩
theorem Fr5.R {w w2 : xW} (h : Fr5 w w2) : FrR w w2 := fun z hz => h z (by omega) (by omega) (by omega) (by omega) (by omega)
theorem RefS.fin {w w2 : xW} {cs : List Int} {mo : Int} {und kep : List (List Int × Int)} {tx : List Int} (hs : Scr w) (hf : Fr5 w w2) (hv : Vld cs mo und kep) {pl mn pq cv sh be bg bc bp pa re px : Int} (h0 : w2 55 = rO und.length kep.length tx.length pl mn pq cv sh be bg bc bp pa re px) {f g k t : Nat → Int} (h1 : w2 56 = xA 30 f) (hR : RowL f 0 cs mo) (h4 : w2 59 = xA 240 g) (hU : RowsL g und) (hu : und.length ≤ 8) (h5 : w2 60 = xA 60 k) (hK : RowsL k kep) (hk : kep.length ≤ 2) (h6 : w2 61 = xA 200 t) (ht : Lst t tx) (hl : tx.length ≤ 200) : RefS w2 (cs, mo, und, kep, tx) ∧ FrR w w2 :=
  ⟨⟨hv, hs.fr hf, ⟨_, _, _, _, _, _, _, _, _, _, _, _, h0⟩, ⟨f, h1, hR⟩, ⟨g, h4, hU⟩, hu, ⟨k, h5, hK⟩, hk, ⟨t, h6, ht⟩, hl⟩, hf.R⟩
theorem rows_push {f g : Nat → Int} {L : List (List Int × Int)} {cs : List Int} {mo : Int} (h : RowsL g L) (hR : RowL f 0 cs mo) (hl : cs.length ≤ 14) (hok : ∀ x ∈ L, okP x) : RowsL (fun q => if 30 * L.length ≤ q ∧ q < 30 * L.length + 30 then f (0 + (q - 30 * L.length)) else g q) (L ++ [(cs, mo)]) := by
  intro i x hx
  by_cases e : i < L.length
  · rw [List.getElem?_append_left e] at hx
    refine (h i x hx).congr (hok x (List.mem_of_getElem? hx)).2.2.1 (fun z hz => ?_)
    show (if _ then _ else _) = _
    rw [if_neg (by omega)]
  · rw [List.getElem?_append_right (by omega)] at hx
    have e2 : i = L.length := by
      have := (List.getElem?_eq_some_iff.mp hx).1
      simp only [List.length_singleton] at this
      omega
    subst e2
    rw [Nat.sub_self] at hx
    cases hx
    refine hR.congr hl (fun z hz => ?_)
    show (if _ then _ else _) = _
    rw [if_pos (by omega), Nat.add_sub_cancel_left]
theorem rows_tail {g : Nat → Int} {L : List (List Int × Int)} (h : RowsL g L) (hok : ∀ x ∈ L, okP x) (hl : L.length = 8) : RowsL (fun q => if q < 210 then g (q + 30) else g q) L.tail := by
  intro i x hx
  rw [List.getElem?_tail] at hx
  have hi : i + 1 < L.length := (List.getElem?_eq_some_iff.mp hx).1
  refine (h (i + 1) x hx).congr (hok x (List.mem_of_getElem? hx)).2.2.1 (fun z hz => ?_)
  show (if _ then _ else _) = _
  rw [if_pos (by omega), show 30 * (i + 1) + z = 30 * i + z + 30 by omega]
theorem pushU_len {und : List (List Int × Int)} {x : List Int × Int} (h : und.length ≤ 8) : (pushU und x).length ≤ 8 := by
  unfold pushU
  split
  · rw [List.length_append]; simp only [List.length_singleton]; omega
  · rw [List.length_append, List.length_tail]; simp only [List.length_singleton]; omega
abbrev mX7_notes : xC := mkC yX7_notes cX7_notes 2 none 2 200 0 0
set_option maxHeartbeats 4000000 in
set_option maxRecDepth 100000 in
theorem tX7_notes {n : Nat} {W : xW} {f g : Nat → Int} {cs : List Int} {mo : Int} {und : List (List Int × Int)} {kk ln pl mn pq cv sh be bg bc bp pa re px : Int} (h_o : W 55 = rO (und.length) kk ln pl mn pq cv sh be bg bc bp pa re px) (h_n : W 56 = xA 30 f) (hR : RowL f 0 cs mo) (hl : cs.length ≤ 14) (h_p : W 59 = xA 240 g) (hU : RowsL g und) (hu8 : und.length ≤ 8) (hok : ∀ x ∈ und, okP x) : Ctr mX7_notes [xr 55] n W (pV (fun w2 => ∃ g2, w2 55 = rO ((pushU und (cs, mo)).length) kk ln pl mn pq cv sh be bg bc bp pa re px ∧ w2 59 = xA 240 g2 ∧ RowsL g2 (pushU und (cs, mo)) ∧ ∀ z, z ≠ 55 → z ≠ 59 → w2 z = W z)) := by
  refine Ctr.of ykX7_notes rfl (Nat.le_of_ble_eq_true rfl) okV (fun hin hW => ?_)
  show Ex _ _ 0 0 n W 0 [some (xr 55), none] []
  have tail : ∀ (w : xW) (L : List (List Int × Int)) (g : Nat → Int) (x1 : Option xV), w 55 = rO (L.length) kk ln pl mn pq cv sh be bg bc bp pa re px → w 56 = xA 30 f → w 59 = xA 240 g → RowsL g L → L.length ≤ 7 → (∀ x ∈ L, okP x) → pushU und (cs, mo) = L ++ [(cs, mo)] → (∀ z, z ≠ 55 → z ≠ 59 → w z = W z) → Ex mX7_notes (pV (fun w2 => ∃ g2, w2 55 = rO ((pushU und (cs, mo)).length) kk ln pl mn pq cv sh be bg bc bp pa re px ∧ w2 59 = xA 240 g2 ∧ RowsL g2 (pushU und (cs, mo)) ∧ ∀ z, z ≠ 55 → z ≠ 59 → w2 z = W z)) 0 0 n w 49 [some (xr 55), x1] [] := by
    intro w L g x1 h_o h_n h_p hG hL7 hok2 hL hfr
    refine ex_aload_n (pc := 49) dX7_notes_49 rfl ?_
    refine ex_getfield (pc := 50) dX7_notes_50 fk_X7_7 h_o (by rfl) ?_
    refine ex_iconst (pc := 53) dX7_notes_53 (by decide) ?_
    refine ex_aload_n (pc := 54) dX7_notes_54 rfl ?_
    refine ex_getfield (pc := 55) dX7_notes_55 fk_X7_19 h_o (by rfl) ?_
    refine ex_bipush (pc := 58) dX7_notes_58 (by decide) ?_
    refine ex_aload_n (pc := 60) dX7_notes_60 rfl ?_
    refine ex_getfield (pc := 61) dX7_notes_61 fk_X7_86 h_o (by rfl) ?_
    refine ex_imul (pc := 64) dX7_notes_64 (by unfold inI; omega) ?_
    rw [show ((30 : Int) * (L.length : Int)) = ((30 * L.length : Nat) : Int) by omega]
    refine ex_callSV (as := [_, _, _, _]) (pc := 65) dX7_notes_65 (tX7_copies (x := 0) (y := 30 * L.length) h_n h_p (by decide) (by omega) (by omega) (by omega) (by omega)) lk_X7_49 ykX7_copies zkX7_copies rfl rfl (Nat.le_of_ble_eq_true rfl) ⟨by decide, by decide⟩ ⟨Nat.le_refl _, Nat.le_refl _⟩ (fun w1 p65 => ?_)
    have h1_o := ((congrFun p65 55).trans (up_n (by decide))).trans h_o
    have h1_n := ((congrFun p65 56).trans (up_n (by decide))).trans h_n
    have h1_p := (congrFun p65 59).trans up_s
    refine ex_aload_n (pc := 68) dX7_notes_68 rfl ?_
    refine ex_dup (pc := 69) dX7_notes_69 rfl ?_
    refine ex_getfield (pc := 70) dX7_notes_70 fk_X7_86 h1_o (by rfl) ?_
    refine ex_iconst (pc := 73) dX7_notes_73 (by decide) ?_
    refine ex_iadd (pc := 74) dX7_notes_74 (by unfold inI; omega) ?_
    refine ex_putA (pc := 75) dX7_notes_75 fk_X7_86 (ty := tyX7 4) (fun _ _ _ h9 => by cases h9; exact ⟨tyX7_ok 4 (by decide), rfl⟩) h1_o (Nat.le_of_ble_eq_true rfl) (fun _ => rfl) (fun _ => rfl) ?_
    refine ex_up (fun w2 e_w2 => ?_)
    have h2_o := (congrFun e_w2 55).trans up_s
    have h2_n := ((congrFun e_w2 56).trans (up_n (by first | assumption | decide | omega))).trans h1_n
    have h2_p := ((congrFun e_w2 59).trans (up_n (by first | assumption | decide | omega))).trans h1_p
    exact ex_vret (pc := 78) dX7_notes_78 ⟨_, by rw [hL, List.length_append]; exact h2_o, h2_p, by rw [hL]; exact rows_push hG hR hl hok2, fun z z1 z2 => by rw [e_w2, up_n z1, p65, up_n z2]; exact hfr z z1 z2⟩ rfl (Nat.le_refl _)
  have loop : und.length = 8 → ∀ (d k : Nat), k ≤ 210 → 211 ≤ k + d → ∀ (w : xW), w 55 = rO (und.length) kk ln pl mn pq cv sh be bg bc bp pa re px → w 56 = xA 30 f → w 59 = xA 240 (fun q => if q < k then g (q + 30) else g q) → (∀ z, z ≠ 55 → z ≠ 59 → w z = W z) → Ex mX7_notes (pV (fun w2 => ∃ g2, w2 55 = rO ((pushU und (cs, mo)).length) kk ln pl mn pq cv sh be bg bc bp pa re px ∧ w2 59 = xA 240 g2 ∧ RowsL g2 (pushU und (cs, mo)) ∧ ∀ z, z ≠ 55 → z ≠ 59 → w2 z = W z)) 0 0 n w 11 [some (xr 55), some (xi k)] [] := by
    intro h8 d
    induction d with
    | zero => intro k h1 h2; omega
    | succ d ih =>
      intro k h1 h2 w h_o h_n h_p hfr
      refine ex_iload_n (pc := 11) dX7_notes_11 rfl ?_
      refine ex_sipush (pc := 12) dX7_notes_12 (by decide) ?_
      refine ex_icmp_ge (pc := 15) dX7_notes_15 (tgt := 39) (by decide) (fun c15 => ?_) (fun c15 => ?_)
      · refine ex_aload_n (pc := 39) dX7_notes_39 rfl ?_
        refine ex_dup (pc := 40) dX7_notes_40 rfl ?_
        refine ex_getfield (pc := 41) dX7_notes_41 fk_X7_86 h_o (by rfl) ?_
        refine ex_iconst (pc := 44) dX7_notes_44 (by decide) ?_
        refine ex_isub (pc := 45) dX7_notes_45 (by unfold inI; omega) ?_
        refine ex_putA (pc := 46) dX7_notes_46 fk_X7_86 (ty := tyX7 4) (fun _ _ _ h9 => by cases h9; exact ⟨tyX7_ok 4 (by decide), rfl⟩) h_o (Nat.le_of_ble_eq_true rfl) (fun _ => rfl) (fun _ => rfl) ?_
        refine ex_up (fun w1 e_w1 => ?_)
        have h1_o := (congrFun e_w1 55).trans up_s
        have h1_n := ((congrFun e_w1 56).trans (up_n (by first | assumption | decide | omega))).trans h_n
        have h1_p := ((congrFun e_w1 59).trans (up_n (by first | assumption | decide | omega))).trans h_p
        have hk : k = 210 := by omega
        subst hk
        refine tail w1 und.tail _ _ (by rw [List.length_tail, h8]; rw [h8] at h1_o; exact h1_o) h1_n h1_p (rows_tail hU hok h8) (by rw [List.length_tail]; omega) (fun x hx => hok x (List.mem_of_mem_tail hx)) (by unfold pushU; rw [if_neg (by omega)]) (fun z z1 z2 => by rw [e_w1, up_n z1]; exact hfr z z1 z2)
      · refine ex_aload_n (pc := 18) dX7_notes_18 rfl ?_
        refine ex_getfield (pc := 19) dX7_notes_19 fk_X7_19 h_o (by rfl) ?_
        refine ex_iload_n (pc := 22) dX7_notes_22 rfl ?_
        refine ex_aload_n (pc := 23) dX7_notes_23 rfl ?_
        refine ex_getfield (pc := 24) dX7_notes_24 fk_X7_19 h_o (by rfl) ?_
        refine ex_iload_n (pc := 27) dX7_notes_27 rfl ?_
        refine ex_bipush (pc := 28) dX7_notes_28 (by decide) ?_
        refine ex_iadd (pc := 30) dX7_notes_30 (by unfold inI; omega) ?_
        refine ex_iaload (pc := 31) dX7_notes_31 h_p (by omega) (by omega) ?_
        refine ex_iastore (pc := 32) dX7_notes_32 h_p (by omega) (by omega) ?_
        refine ex_up (fun w1 e_w1 => ?_)
        have h1_o := ((congrFun e_w1 55).trans (up_n (by first | assumption | decide | omega))).trans h_o
        have h1_n := ((congrFun e_w1 56).trans (up_n (by first | assumption | decide | omega))).trans h_n
        have h1_p := (congrFun e_w1 59).trans up_s
        refine ex_iinc (L2 := [_, _]) (pc := 33) dX7_notes_33 rfl rfl (Nat.le_of_ble_eq_true rfl) (by unfold inI; omega) rfl ?_
        refine ex_goto (pc := 36) dX7_notes_36 (tgt := 11) (by decide) ?_
        have e1 : ((k : Int) + 30).toNat = k + 30 := by omega
        have e2 : ((k : Int)).toNat = k := by omega
        refine ih (k + 1) (by omega) (by omega) w1 h1_o h1_n (h1_p.trans ?_) (fun z z1 z2 => by rw [e_w1, up_n z2]; exact hfr z z1 z2)
        congr 2
        funext q
        rw [e1, e2]
        by_cases z : q = k
        · rw [z, up_s, if_neg (by omega), if_pos (by omega)]
        · rw [up_n z]
          by_cases z2 : q < k
          · rw [if_pos z2, if_pos (by omega)]
          · rw [if_neg z2, if_neg (by omega)]
  refine ex_aload_n (pc := 0) dX7_notes_0 rfl ?_
  refine ex_getfield (pc := 1) dX7_notes_1 fk_X7_86 h_o (by rfl) ?_
  refine ex_bipush (pc := 4) dX7_notes_4 (by decide) ?_
  refine ex_icmp_ne (pc := 6) dX7_notes_6 (tgt := 49) (by decide) (fun c6 => ?_) (fun c6 => ?_)
  · exact tail W und g _ h_o h_n h_p hU (by omega) hok (by unfold pushU; rw [if_pos (by omega)]) (fun _ _ _ => rfl)
  · refine ex_iconst (pc := 9) dX7_notes_9 (by decide) ?_
    refine ex_istore_n (L2 := [_, _]) (pc := 10) dX7_notes_10 rfl (Nat.le_of_ble_eq_true rfl) rfl ?_
    exact loop (by omega) 211 0 (by omega) (by omega) W h_o h_n (h_p.trans (by congr 2)) (fun _ _ _ => rfl)

abbrev mX7_isNote : xC := mkC yX7_isNote cX7_isNote 2 (some .boolean) 2 200 0 0
set_option maxHeartbeats 4000000 in
set_option maxRecDepth 100000 in
theorem tX7_isNote {n : Nat} {w : xW} {f : Nat → Int} {cs : List Int} {mo : Int} {uu kk ln pl mn pq cv sh be bg bc bp pa re px : Int} (h_o : w 55 = rO uu kk ln pl mn pq cv sh be bg bc bp pa re px) (h_n : w 56 = xA 30 f) (hR : RowL f 0 cs mo) (hl : cs.length ≤ 14) {a : Int} : Ctr mX7_isNote [xr 55, xi a] n w (pZ (fun v w2 => w2 = w ∧ (v = 1 ↔ 0 ≤ a ∧ a < cs.length))) := by
  refine Ctr.of ykX7_isNote rfl (Nat.le_of_ble_eq_true rfl) okZ (fun hin hW => ?_)
  show Ex _ _ 0 0 n w 0 [some (xr 55), some (xi a)] []
  refine ex_iload_n (pc := 0) dX7_isNote_0 rfl ?_
  refine ex_iconst (pc := 1) dX7_isNote_1 (by decide) ?_
  refine ex_aload_n (pc := 2) dX7_isNote_2 rfl ?_
  refine ex_getfield (pc := 3) dX7_isNote_3 fk_X7_7 h_o (by rfl) ?_
  refine ex_iconst (pc := 6) dX7_isNote_6 (by decide) ?_
  refine ex_iaload (pc := 7) dX7_isNote_7 h_n (by omega) (by omega) ?_
  rw [show (0 : Int).toNat = 0 from rfl, hR.1]
  refine ex_iconst (pc := 8) dX7_isNote_8 (by decide) ?_
  refine ex_isub (pc := 9) dX7_isNote_9 (by unfold inI; omega) ?_
  refine ex_callSZ (as := [_, _, _]) (pc := 10) dX7_isNote_10 (tX7_in) lk_X7_68 ykX7_in zkX7_in rfl rfl (Nat.le_of_ble_eq_true rfl) ⟨by decide, by decide⟩ ⟨Nat.le_refl _, Nat.le_refl _⟩ (fun i10 w1 r10 p10 => ?_)
  obtain ⟨e10, p10⟩ := p10
  rw [e10]
  exact ex_zret (pc := 13) dX7_isNote_13 ⟨r10, rfl, by omega⟩ rfl (Nat.le_refl _)

abbrev mX7_isShift : xC := mkC yX7_isShift cX7_isShift 3 (some .boolean) 2 200 0 0
set_option maxHeartbeats 4000000 in
set_option maxRecDepth 100000 in
theorem tX7_isShift {n : Nat} {w : xW} {f : Nat → Int} {cs : List Int} {mo : Int} {uu kk ln pl mn pq cv sh be bg bc bp pa re px : Int} (h_o : w 55 = rO uu kk ln pl mn pq cv sh be bg bc bp pa re px) (h_n : w 56 = xA 30 f) (hR : RowL f 0 cs mo) (hl : cs.length ≤ 14) {d e : Int} : Ctr mX7_isShift [xr 55, xi d, xi e] n w (pZ (fun v w2 => w2 = w ∧ (v = 1 ↔ shiftP mo d e))) := by
  refine Ctr.of ykX7_isShift rfl (Nat.le_of_ble_eq_true rfl) okZ (fun hin hW => ?_)
  show Ex _ _ 0 0 n w 0 [some (xr 55), some (xi d), some (xi e)] []
  refine ex_iload_n (pc := 0) dX7_isShift_0 rfl ?_
  refine ex_bipush (pc := 1) dX7_isShift_1 (by decide) ?_
  refine ex_bipush (pc := 3) dX7_isShift_3 (by decide) ?_
  refine ex_callSZ (as := [_, _, _]) (pc := 5) dX7_isShift_5 (tX7_in) lk_X7_68 ykX7_in zkX7_in rfl rfl (Nat.le_of_ble_eq_true rfl) ⟨by decide, by decide⟩ ⟨Nat.le_refl _, Nat.le_refl _⟩ (fun i5 w1 r5 p5 => ?_)
  obtain ⟨e5, p5⟩ := p5
  rw [e5]
  refine ex_if_eq (pc := 8) dX7_isShift_8 (tgt := 40) (by decide) (fun c8 => ?_) (fun c8 => ?_)
  · refine ex_iconst (pc := 40) dX7_isShift_40 (by decide) ?_
    exact ex_zret (pc := 41) dX7_isShift_41 ⟨Or.inl rfl, rfl, by unfold shiftP; omega⟩ rfl (Nat.le_refl _)
  · refine ex_iload_n (pc := 11) dX7_isShift_11 rfl ?_
    refine ex_aload_n (pc := 12) dX7_isShift_12 rfl ?_
    refine ex_getfield (pc := 13) dX7_isShift_13 fk_X7_7 h_o (by rfl) ?_
    refine ex_iconst (pc := 16) dX7_isShift_16 (by decide) ?_
    refine ex_iaload (pc := 17) dX7_isShift_17 h_n (by omega) (by omega) ?_
    have hm1 : f (1 : Int).toNat = mo := hR.2.1
    rw [hm1]
    refine ex_iconst (pc := 18) dX7_isShift_18 (by decide) ?_
    refine ex_icmp_ne (pc := 19) dX7_isShift_19 (tgt := 26) (by decide) (fun c19 => ?_) (fun c19 => ?_)
    · refine ex_bipush (pc := 26) dX7_isShift_26 (by decide) ?_
      refine ex_bipush (pc := 28) dX7_isShift_28 (by decide) ?_
      refine ex_callSZ (as := [_, _, _]) (pc := 30) dX7_isShift_30 (tX7_in) lk_X7_68 ykX7_in zkX7_in rfl rfl (Nat.le_of_ble_eq_true rfl) ⟨by decide, by decide⟩ ⟨Nat.le_refl _, Nat.le_refl _⟩ (fun i30 w1 r30 p30 => ?_)
      obtain ⟨e30, p30⟩ := p30
      rw [e30]
      refine ex_if_eq (pc := 33) dX7_isShift_33 (tgt := 40) (by decide) (fun c33 => ?_) (fun c33 => ?_)
      · refine ex_iconst (pc := 40) dX7_isShift_40 (by decide) ?_
        exact ex_zret (pc := 41) dX7_isShift_41 ⟨Or.inl rfl, rfl, by unfold shiftP; rw [if_neg c19]; omega⟩ rfl (Nat.le_refl _)
      · refine ex_iconst (pc := 36) dX7_isShift_36 (by decide) ?_
        refine ex_goto (pc := 37) dX7_isShift_37 (tgt := 41) (by decide) ?_
        exact ex_zret (pc := 41) dX7_isShift_41 ⟨Or.inr rfl, rfl, by unfold shiftP; rw [if_neg c19]; omega⟩ rfl (Nat.le_refl _)
    · refine ex_iconst (pc := 22) dX7_isShift_22 (by decide) ?_
      refine ex_goto (pc := 23) dX7_isShift_23 (tgt := 28) (by decide) ?_
      refine ex_bipush (pc := 28) dX7_isShift_28 (by decide) ?_
      refine ex_callSZ (as := [_, _, _]) (pc := 30) dX7_isShift_30 (tX7_in) lk_X7_68 ykX7_in zkX7_in rfl rfl (Nat.le_of_ble_eq_true rfl) ⟨by decide, by decide⟩ ⟨Nat.le_refl _, Nat.le_refl _⟩ (fun i30 w1 r30 p30 => ?_)
      obtain ⟨e30, p30⟩ := p30
      rw [e30]
      refine ex_if_eq (pc := 33) dX7_isShift_33 (tgt := 40) (by decide) (fun c33 => ?_) (fun c33 => ?_)
      · refine ex_iconst (pc := 40) dX7_isShift_40 (by decide) ?_
        exact ex_zret (pc := 41) dX7_isShift_41 ⟨Or.inl rfl, rfl, by unfold shiftP; rw [if_pos (by omega)]; omega⟩ rfl (Nat.le_refl _)
      · refine ex_iconst (pc := 36) dX7_isShift_36 (by decide) ?_
        refine ex_goto (pc := 37) dX7_isShift_37 (tgt := 41) (by decide) ?_
        exact ex_zret (pc := 41) dX7_isShift_41 ⟨Or.inr rfl, rfl, by unfold shiftP; rw [if_pos (by omega)]; omega⟩ rfl (Nat.le_refl _)

