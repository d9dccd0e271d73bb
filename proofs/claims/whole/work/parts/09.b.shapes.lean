/-! ===== what the calls do, over a state: the codes, the mode, the undo pile, the kept pile, the text ===== -/
abbrev St : Type := List Int × Int × List (List Int × Int) × List (List Int × Int) × List Int
abbrev Al (cs : List Int) : Nat := 2 ^ cs.length - 1
def gainB (ds : List Int) (mo : Int) : Int := if 0 ≤ bestS ds mo (Al ds) then gI ds mo (Al ds) (bestS ds mo (Al ds)).toNat else -10000
def btS (cs : List Int) (mo : Int) : Nat → Int × Int
  | 0 => (-1, -10000)
  | k + 1 => if numL k cs < 0 ∧ ((btS cs mo k).1 < 0 ∨ (btS cs mo k).2 < gainB (insL k cs) mo) then ((k : Int), gainB (insL k cs) mo) else btS cs mo k
def Csh (w : xW) (cs : List Int) (mo wk bk bc bg : Int) : Prop := (wk = 0 ∨ (wk = 1 ∧ SeAt w 31 cs mo (Al cs))) ∧ (bk = 0 ∨ (bk = 1 ∧ (bc, bg) = btS cs mo 240))
def ClsS (w : xW) (s : St) : Prop := Vld s.1 s.2.1 s.2.2.1 s.2.2.2.1 ∧ ∃ wk bk bc bg : Int, ClsC w s.1 s.2.1 s.2.2.1 s.2.2.2.1 s.2.2.2.2 wk bk bc bg ∧ Csh w s.1 s.2.1 wk bk bc bg
theorem Csh0 {w : xW} {cs : List Int} {mo bc bg : Int} : Csh w cs mo 0 0 bc bg := ⟨Or.inl rfl, Or.inl rfl⟩
theorem Csh.fr {w w2 : xW} {cs : List Int} {mo wk bk bc bg : Int} (h : Csh w cs mo wk bk bc bg) (hf : ∀ z, 31 ≤ z → z ≤ 39 → w2 z = w z) : Csh w2 cs mo wk bk bc bg := ⟨h.1.imp id (fun q => ⟨q.1, q.2.fr hf⟩), h.2⟩
theorem ClsS.mk {w : xW} {cs : List Int} {mo : Int} {und kep : List (List Int × Int)} {tx : List Int} {wk bk bc bg : Int} (h1 : Vld cs mo und kep) (h2 : ClsC w cs mo und kep tx wk bk bc bg) (h3 : Csh w cs mo wk bk bc bg) : ClsS w (cs, mo, und, kep, tx) := ⟨h1, wk, bk, bc, bg, h2, h3⟩
theorem Vld.push {cs ds : List Int} {mo m2 : Int} {und kep : List (List Int × Int)} (h : Vld cs mo und kep) (h2 : okP (ds, m2)) : Vld ds m2 (pushU und (cs, mo)) kep := by
  refine ⟨h2, fun x hx => ?_, h.2.2⟩
  unfold pushU at hx
  split at hx
  · rcases List.mem_append.mp hx with q | q
    · exact h.2.1 x q
    · rw [List.mem_singleton.mp q]; exact h.1
  · rcases List.mem_append.mp hx with q | q
    · exact h.2.1 x (List.mem_of_mem_tail q)
    · rw [List.mem_singleton.mp q]; exact h.1
def opWrite (s : St) (c : Int) : Int × St := if c < 32 ∨ 126 < c then (-1, s) else if s.2.2.2.2.length < 200 then (s.2.2.2.2.length + 1, (s.1, s.2.1, s.2.2.1, s.2.2.2.1, s.2.2.2.2 ++ [c])) else (-3, s)
def opWipe (s : St) : Int × St := (s.2.2.2.2.length, (s.1, s.2.1, s.2.2.1, s.2.2.2.1, []))
def rdA (s : St) : Int × List Int × Int := rdS s.2.2.2.2 200 0 [] 0
def opFault (s : St) : Int × St := ((rdA s).1, s)
def opLay (s : St) : Int × St := if (rdA s).1 ≠ -4 ∨ (rdA s).2.1.length = 0 then (-2, s) else ((rdA s).2.1.length, ((rdA s).2.1, (rdA s).2.2, [], [], s.2.2.2.2))
def opNote (s : St) (a b : Int) : Int × St := (if 0 ≤ a ∧ a < s.1.length then (if b = 0 then tmL s.1 a.toNat else if b = 1 then ptL s.1 a.toNat else -1) else -1, s)
def opPut (s : St) (t b : Int) : Int × St := if ¬ (0 ≤ t ∧ t < 20 ∧ 0 ≤ b ∧ b < 12) then (-1, s) else if 0 ≤ numL (t * 12 + b) s.1 then (-2, s) else if 14 ≤ s.1.length then (-3, s) else (posL (t * 12 + b) s.1, (insL (t * 12 + b) s.1, s.2.1, pushU s.2.2.1 (s.1, s.2.1), s.2.2.2.1, s.2.2.2.2))
def opTake (s : St) (a : Int) : Int × St := if ¬ (0 ≤ a ∧ a < s.1.length) then (-1, s) else if s.1.length = 1 then (-2, s) else (s.1.length - 1, (s.1.eraseIdx a.toNat, s.2.1, pushU s.2.2.1 (s.1, s.2.1), s.2.2.2.1, s.2.2.2.2))
def movP (mo d e : Int) : Prop := shiftP mo d e ∧ (d ≠ 0 ∨ e ≠ 0)
def opMode (s : St) (m : Int) : Int × St := if m < 0 ∨ 2 < m then (-1, s) else if m = s.2.1 then (-2, s) else (s.2.1, (s.1, m, pushU s.2.2.1 (s.1, s.2.1), s.2.2.2.1, s.2.2.2.2))
def opUndo (s : St) : Int × St := match s.2.2.1.getLast? with
  | none => (-2, s)
  | some x => (s.2.2.1.length - 1, (x.1, x.2, s.2.2.1.dropLast, s.2.2.2.1, s.2.2.2.2))
def opKeep (s : St) : Int × St := if 2 ≤ s.2.2.2.1.length then (-3, s) else (s.2.2.2.1.length + 1, (s.1, s.2.1, s.2.2.1, s.2.2.2.1 ++ [(s.1, s.2.1)], s.2.2.2.2))
def opBack (s : St) : Int × St := match s.2.2.2.1.getLast? with
  | none => (-2, s)
  | some x => (s.2.2.2.1.length - 1, (x.1, x.2, [], s.2.2.2.1.dropLast, s.2.2.2.2))
def opCount (s : St) (a : Int) : Int × St := (if a = 0 then s.1.length else if a = 1 then s.2.1 else if a = 2 then s.2.2.1.length else if a = 3 then s.2.2.2.1.length else if a = 4 then s.2.2.2.2.length else -1, s)
abbrev mX6_count : xC := mkC yX6_count cX6_count 2 (some .int) 1 100 0 0
set_option maxHeartbeats 4000000 in
set_option maxRecDepth 100000 in
theorem tX6_count {n : Nat} {w : xW} {s : St} (hS : ClsS w s) {a : Int} : Ctr mX6_count [xr 0, xi a] n w (pI (fun v w2 => v = (opCount s a).1 ∧ ClsS w2 (opCount s a).2 ∧ FrO w w2)) := by
  refine Ctr.of ykX6_count rfl (Nat.le_of_ble_eq_true rfl) okI (fun hin hW => ?_)
  have hS0 := hS
  obtain ⟨hv, wk, bk, bc, bg, H, hc⟩ := hS
  have hlen := H.P.len
  obtain ⟨at1, hs1⟩ := H.S
  show Ex _ _ 0 0 n w 0 [some (xr 0), some (xi a)] []
  refine ex_iload_n (pc := 0) dX6_count_0 rfl ?_
  by_cases q1_0 : a = 0
  · refine ex_tableIn (pc := 1) dX6_count_1 (by omega) (by omega) (off := 35) (tgt := 36) (by rw [q1_0]; rfl) (by decide) ?_
    refine ex_aload_n (pc := 36) dX6_count_36 rfl ?_
    refine ex_getfield (pc := 37) dX6_count_37 fk_X6_19 H.o (by rfl) ?_
    refine ex_getfield (pc := 40) dX6_count_40 fk_X6_89 H.p (by rfl) ?_
    exact ex_iret (pc := 43) dX6_count_43 ⟨by unfold opCount; rw [q1_0]; rfl, hS0, fun _ _ => rfl⟩ rfl (Nat.le_refl _)
  by_cases q1_1 : a = 1
  · refine ex_tableIn (pc := 1) dX6_count_1 (by omega) (by omega) (off := 43) (tgt := 44) (by rw [q1_1]; rfl) (by decide) ?_
    refine ex_aload_n (pc := 44) dX6_count_44 rfl ?_
    refine ex_getfield (pc := 45) dX6_count_45 fk_X6_19 H.o (by rfl) ?_
    refine ex_getfield (pc := 48) dX6_count_48 fk_X6_132 H.p (by rfl) ?_
    exact ex_iret (pc := 51) dX6_count_51 ⟨by unfold opCount; rw [q1_1]; rfl, hS0, fun _ _ => rfl⟩ rfl (Nat.le_refl _)
  by_cases q1_2 : a = 2
  · refine ex_tableIn (pc := 1) dX6_count_1 (by omega) (by omega) (off := 51) (tgt := 52) (by rw [q1_2]; rfl) (by decide) ?_
    refine ex_aload_n (pc := 52) dX6_count_52 rfl ?_
    refine ex_getfield (pc := 53) dX6_count_53 fk_X6_31 H.o (by rfl) ?_
    refine ex_getfield (pc := 56) dX6_count_56 fk_X6_96 H.u (by rfl) ?_
    exact ex_iret (pc := 59) dX6_count_59 ⟨by unfold opCount; rw [q1_2]; rfl, hS0, fun _ _ => rfl⟩ rfl (Nat.le_refl _)
  by_cases q1_3 : a = 3
  · refine ex_tableIn (pc := 1) dX6_count_1 (by omega) (by omega) (off := 59) (tgt := 60) (by rw [q1_3]; rfl) (by decide) ?_
    refine ex_aload_n (pc := 60) dX6_count_60 rfl ?_
    refine ex_getfield (pc := 61) dX6_count_61 fk_X6_35 H.o (by rfl) ?_
    refine ex_getfield (pc := 64) dX6_count_64 fk_X6_96 H.k (by rfl) ?_
    exact ex_iret (pc := 67) dX6_count_67 ⟨by unfold opCount; rw [q1_3]; rfl, hS0, fun _ _ => rfl⟩ rfl (Nat.le_refl _)
  by_cases q1_4 : a = 4
  · refine ex_tableIn (pc := 1) dX6_count_1 (by omega) (by omega) (off := 67) (tgt := 68) (by rw [q1_4]; rfl) (by decide) ?_
    refine ex_aload_n (pc := 68) dX6_count_68 rfl ?_
    refine ex_getfield (pc := 69) dX6_count_69 fk_X6_12 H.o (by rfl) ?_
    refine ex_getfield (pc := 72) dX6_count_72 fk_X6_81 hs1.s (by rfl) ?_
    exact ex_iret (pc := 75) dX6_count_75 ⟨by unfold opCount; rw [q1_4]; rfl, hS0, fun _ _ => rfl⟩ rfl (Nat.le_refl _)
  refine ex_tableOut (pc := 1) dX6_count_1 (by omega) (tgt := 76) (by decide) ?_
  refine ex_iconst (pc := 76) dX6_count_76 (by decide) ?_
  exact ex_iret (pc := 77) dX6_count_77 ⟨by unfold opCount; show _ = (if a = 0 then _ else _); rw [if_neg (by omega), if_neg (by omega), if_neg (by omega), if_neg (by omega), if_neg (by omega)], hS0, fun _ _ => rfl⟩ rfl (Nat.le_refl _)

abbrev mX6_note : xC := mkC yX6_note cX6_note 3 (some .int) 2 200 0 0
set_option maxHeartbeats 4000000 in
set_option maxRecDepth 100000 in
theorem tX6_note {n : Nat} {w : xW} {s : St} (hS : ClsS w s) {a b : Int} : Ctr mX6_note [xr 0, xi a, xi b] n w (pI (fun v w2 => v = (opNote s a b).1 ∧ ClsS w2 (opNote s a b).2 ∧ FrO w w2)) := by
  refine Ctr.of ykX6_note rfl (Nat.le_of_ble_eq_true rfl) okI (fun hin hW => ?_)
  have hS0 := hS
  obtain ⟨hv, wk, bk, bc, bg, H, hc⟩ := hS
  have hlen := H.P.len
  show Ex _ _ 0 0 n w 0 [some (xr 0), some (xi a), some (xi b)] []
  refine ex_aload_n (pc := 0) dX6_note_0 rfl ?_
  refine ex_iload_n (pc := 1) dX6_note_1 rfl ?_
  refine ex_callVZ (as := [_]) (pc := 2) dX6_note_2 (tX6_isNote H) lk_X6_100 ykX6_isNote vkX6_isNote H.o rfl rfl rfl (Nat.le_of_ble_eq_true rfl) ⟨by decide, by decide⟩ ⟨Nat.le_refl _, Nat.le_refl _⟩ (fun i2 w1 r2 p2 => ?_)
  obtain ⟨e2, p2⟩ := p2
  rw [e2]
  refine ex_if_ne (pc := 5) dX6_note_5 (tgt := 10) (by decide) (fun c5 => ?_) (fun c5 => ?_)
  · refine ex_iload_n (pc := 10) dX6_note_10 rfl ?_
    refine ex_if_ne (pc := 11) dX6_note_11 (tgt := 23) (by decide) (fun c11 => ?_) (fun c11 => ?_)
    · refine ex_iload_n (pc := 23) dX6_note_23 rfl ?_
      refine ex_iconst (pc := 24) dX6_note_24 (by decide) ?_
      refine ex_icmp_ne (pc := 25) dX6_note_25 (tgt := 39) (by decide) (fun c25 => ?_) (fun c25 => ?_)
      · refine ex_iconst (pc := 39) dX6_note_39 (by decide) ?_
        exact ex_iret (pc := 40) dX6_note_40 ⟨by unfold opNote; show _ = if _ then _ else _; rw [if_pos (by omega), if_neg (by omega), if_neg (by omega)], hS0, fun _ _ => rfl⟩ rfl (Nat.le_refl _)
      · refine ex_aload_n (pc := 28) dX6_note_28 rfl ?_
        refine ex_getfield (pc := 29) dX6_note_29 fk_X6_19 H.o (by rfl) ?_
        refine ex_iload_n (pc := 32) dX6_note_32 rfl ?_
        refine ex_callVI (as := [_]) (pc := 33) dX6_note_33 (lX2_pitchOf H.P hv.1.1) lk_X6_106 ykX2_pitchOf vkX2_pitchOf H.p rfl rfl rfl (Nat.le_of_ble_eq_true rfl) ⟨by decide, by decide⟩ ⟨Nat.le_refl _, Nat.le_refl _⟩ (fun i33 w1 r33 p33 => ?_)
        obtain ⟨e33, p33⟩ := p33
        rw [e33]
        rw [if_pos (by omega)] at p33
        refine ex_goto (pc := 36) dX6_note_36 (tgt := 40) (by decide) ?_
        exact ex_iret (pc := 40) dX6_note_40 ⟨by unfold opNote; show _ = if _ then _ else _; rw [if_pos (by omega), if_neg (by omega), if_pos (by omega), p33]; rfl, hS0, fun _ _ => rfl⟩ rfl (Nat.le_refl _)
    · refine ex_aload_n (pc := 14) dX6_note_14 rfl ?_
      refine ex_getfield (pc := 15) dX6_note_15 fk_X6_19 H.o (by rfl) ?_
      refine ex_iload_n (pc := 18) dX6_note_18 rfl ?_
      refine ex_callVI (as := [_]) (pc := 19) dX6_note_19 (lX2_timeOf H.P hv.1.1) lk_X6_103 ykX2_timeOf vkX2_timeOf H.p rfl rfl rfl (Nat.le_of_ble_eq_true rfl) ⟨by decide, by decide⟩ ⟨Nat.le_refl _, Nat.le_refl _⟩ (fun i19 w1 r19 p19 => ?_)
      obtain ⟨e19, p19⟩ := p19
      rw [e19]
      rw [if_pos (by omega)] at p19
      exact ex_iret (pc := 22) dX6_note_22 ⟨by unfold opNote; show _ = if _ then _ else _; rw [if_pos (by omega), if_pos (by omega), p19]; rfl, hS0, fun _ _ => rfl⟩ rfl (Nat.le_refl _)
  · refine ex_iconst (pc := 8) dX6_note_8 (by decide) ?_
    exact ex_iret (pc := 9) dX6_note_9 ⟨by unfold opNote; show _ = if _ then _ else _; rw [if_neg (by omega)], hS0, fun _ _ => rfl⟩ rfl (Nat.le_refl _)

abbrev mX6_put : xC := mkC yX6_put cX6_put 3 (some .int) 4 400 0 0
set_option maxHeartbeats 4000000 in
set_option maxRecDepth 100000 in
theorem tX6_put {n : Nat} {w : xW} {s : St} (hS : ClsS w s) {t b : Int} : Ctr mX6_put [xr 0, xi t, xi b] n w (pI (fun v w2 => v = (opPut s t b).1 ∧ ClsS w2 (opPut s t b).2 ∧ FrO w w2)) := by
  refine Ctr.of ykX6_put rfl (Nat.le_of_ble_eq_true rfl) okI (fun hin hW => ?_)
  have hS0 := hS
  obtain ⟨hv, wk, bk, bc, bg, H, hc⟩ := hS
  have hlen := H.P.len
  show Ex _ _ 0 0 n w 0 [some (xr 0), some (xi t), some (xi b)] []
  refine ex_iload_n (pc := 0) dX6_put_0 rfl ?_
  refine ex_iload_n (pc := 1) dX6_put_1 rfl ?_
  refine ex_callSZ (as := [_, _]) (pc := 2) dX6_put_2 (tX6_isWithin) lk_X6_109 ykX6_isWithin zkX6_isWithin rfl rfl (Nat.le_of_ble_eq_true rfl) ⟨by decide, by decide⟩ ⟨Nat.le_refl _, Nat.le_refl _⟩ (fun i2 w1 r2 p2 => ?_)
  obtain ⟨e2, p2⟩ := p2
  rw [e2]
  refine ex_if_ne (pc := 5) dX6_put_5 (tgt := 10) (by decide) (fun c5 => ?_) (fun c5 => ?_)
  · refine ex_aload_n (pc := 10) dX6_put_10 rfl ?_
    refine ex_getfield (pc := 11) dX6_put_11 fk_X6_19 H.o (by rfl) ?_
    refine ex_iload_n (pc := 14) dX6_put_14 rfl ?_
    refine ex_iload_n (pc := 15) dX6_put_15 rfl ?_
    refine ex_callSI (as := [_, _]) (pc := 16) dX6_put_16 (tX6_codeOf (by omega)) lk_X6_69 ykX6_codeOf zkX6_codeOf rfl rfl (Nat.le_of_ble_eq_true rfl) ⟨by decide, by decide⟩ ⟨Nat.le_refl _, Nat.le_refl _⟩ (fun i16 w1 r16 p16 => ?_)
    obtain ⟨e16, p16⟩ := p16
    rw [e16, p16]
    refine ex_callVI (as := [_]) (pc := 19) dX6_put_19 (lX2_numberOf H.P) lk_X6_113 ykX2_numberOf vkX2_numberOf H.p rfl rfl rfl (Nat.le_of_ble_eq_true rfl) ⟨by decide, by decide⟩ ⟨Nat.le_refl _, Nat.le_refl _⟩ (fun i19 w1 r19 p19 => ?_)
    obtain ⟨e19, p19⟩ := p19
    rw [e19]
    refine ex_if_lt (pc := 22) dX6_put_22 (tgt := 28) (by decide) (fun c22 => ?_) (fun c22 => ?_)
    · refine ex_aload_n (pc := 28) dX6_put_28 rfl ?_
      refine ex_getfield (pc := 29) dX6_put_29 fk_X6_19 H.o (by rfl) ?_
      refine ex_getfield (pc := 32) dX6_put_32 fk_X6_89 H.p (by rfl) ?_
      refine ex_bipush (pc := 35) dX6_put_35 (by decide) ?_
      refine ex_icmp_lt (pc := 37) dX6_put_37 (tgt := 43) (by decide) (fun c37 => ?_) (fun c37 => ?_)
      · refine ex_aload_n (pc := 43) dX6_put_43 rfl ?_
        refine ex_callVV (as := []) (pc := 44) dX6_put_44 (tX6_beginAct H) lk_X6_116 ykX6_beginAct vkX6_beginAct H.o rfl rfl rfl (Nat.le_of_ble_eq_true rfl) ⟨by decide, by decide⟩ ⟨Nat.le_refl _, Nat.le_refl _⟩ (fun w1 p44 => ?_)
        obtain ⟨H1, f1⟩ := p44
        have h1_o := H1.o
        have h1_p := H1.p
        have h1_u := H1.u
        have h1_k := H1.k
        refine ex_aload_n (pc := 47) dX6_put_47 rfl ?_
        refine ex_getfield (pc := 48) dX6_put_48 fk_X6_19 h1_o (by rfl) ?_
        refine ex_iload_n (pc := 51) dX6_put_51 rfl ?_
        refine ex_iload_n (pc := 52) dX6_put_52 rfl ?_
        refine ex_callSI (as := [_, _]) (pc := 53) dX6_put_53 (tX6_codeOf (by omega)) lk_X6_69 ykX6_codeOf zkX6_codeOf rfl rfl (Nat.le_of_ble_eq_true rfl) ⟨by decide, by decide⟩ ⟨Nat.le_refl _, Nat.le_refl _⟩ (fun i53 w2 r53 p53 => ?_)
        obtain ⟨e53, p53⟩ := p53
        rw [e53, p53]
        refine ex_callVI (as := [_]) (pc := 56) dX6_put_56 (lX2_insert H1.P (by omega)) lk_X6_73 ykX2_insert vkX2_insert h1_p rfl rfl rfl (Nat.le_of_ble_eq_true rfl) ⟨by decide, by decide⟩ ⟨Nat.le_refl _, Nat.le_refl _⟩ (fun i56 w2 r56 p56 => ?_)
        obtain ⟨q1, q2, q3⟩ := p56
        have hokn : okP (insL (t * 12 + b) s.1, s.2.1) := ⟨Cod_ins hv.1.1 (by omega), by show 1 ≤ (insL _ _).length; rw [insL_len]; omega, by show (insL _ _).length ≤ 14; rw [insL_len]; omega, hv.1.2.2.2⟩
        have H2 := H1.piece q2 q3
        exact ex_iret (pc := 59) dX6_put_59 ⟨by unfold opPut; rw [if_neg (by omega), if_neg (by rw [← p19]; omega), if_neg (by omega)]; exact q1, by unfold opPut; rw [if_neg (by omega), if_neg (by rw [← p19]; omega), if_neg (by omega)]; exact ClsS.mk (hv.push hokn) H2 Csh0, fun z hz => (q3 z (by omega) (by omega)).trans (f1 z hz)⟩ rfl (Nat.le_refl _)
      · refine ex_bipush (pc := 40) dX6_put_40 (by decide) ?_
        exact ex_iret (pc := 42) dX6_put_42 ⟨by unfold opPut; rw [if_neg (by omega), if_neg (by rw [← p19]; omega), if_pos (by omega)], by unfold opPut; rw [if_neg (by omega), if_neg (by rw [← p19]; omega), if_pos (by omega)]; exact hS0, fun _ _ => rfl⟩ rfl (Nat.le_refl _)
    · refine ex_bipush (pc := 25) dX6_put_25 (by decide) ?_
      exact ex_iret (pc := 27) dX6_put_27 ⟨by unfold opPut; rw [if_neg (by omega), if_pos (by rw [← p19]; omega)], by unfold opPut; rw [if_neg (by omega), if_pos (by rw [← p19]; omega)]; exact hS0, fun _ _ => rfl⟩ rfl (Nat.le_refl _)
  · refine ex_iconst (pc := 8) dX6_put_8 (by decide) ?_
    exact ex_iret (pc := 9) dX6_put_9 ⟨by unfold opPut; rw [if_pos (by omega)], by unfold opPut; rw [if_pos (by omega)]; exact hS0, fun _ _ => rfl⟩ rfl (Nat.le_refl _)

abbrev mX6_take : xC := mkC yX6_take cX6_take 2 (some .int) 4 400 0 0
theorem Cod_del {cs : List Int} (h : Cod cs) {j : Nat} (hj : j < cs.length) : Cod (cs.eraseIdx j) := by
  intro i hi
  rw [← del_L (f := fun i => cs.getD i 0) (fun _ _ => rfl) hj i hi]
  rw [List.length_eraseIdx_of_lt hj] at hi
  unfold delF
  split
  · exact h i (by omega)
  · rw [if_pos (by omega)]; exact h (i + 1) (by omega)
set_option maxHeartbeats 4000000 in
set_option maxRecDepth 100000 in
theorem tX6_take {n : Nat} {w : xW} {s : St} (hS : ClsS w s) {a : Int} : Ctr mX6_take [xr 0, xi a] n w (pI (fun v w2 => v = (opTake s a).1 ∧ ClsS w2 (opTake s a).2 ∧ FrO w w2)) := by
  refine Ctr.of ykX6_take rfl (Nat.le_of_ble_eq_true rfl) okI (fun hin hW => ?_)
  have hS0 := hS
  obtain ⟨hv, wk, bk, bc, bg, H, hc⟩ := hS
  have hlen := H.P.len
  show Ex _ _ 0 0 n w 0 [some (xr 0), some (xi a)] []
  refine ex_aload_n (pc := 0) dX6_take_0 rfl ?_
  refine ex_iload_n (pc := 1) dX6_take_1 rfl ?_
  refine ex_callVZ (as := [_]) (pc := 2) dX6_take_2 (tX6_isNote H) lk_X6_100 ykX6_isNote vkX6_isNote H.o rfl rfl rfl (Nat.le_of_ble_eq_true rfl) ⟨by decide, by decide⟩ ⟨Nat.le_refl _, Nat.le_refl _⟩ (fun i2 w1 r2 p2 => ?_)
  obtain ⟨e2, p2⟩ := p2
  rw [e2]
  refine ex_if_ne (pc := 5) dX6_take_5 (tgt := 10) (by decide) (fun c5 => ?_) (fun c5 => ?_)
  · refine ex_aload_n (pc := 10) dX6_take_10 rfl ?_
    refine ex_getfield (pc := 11) dX6_take_11 fk_X6_19 H.o (by rfl) ?_
    refine ex_getfield (pc := 14) dX6_take_14 fk_X6_89 H.p (by rfl) ?_
    refine ex_iconst (pc := 17) dX6_take_17 (by decide) ?_
    refine ex_icmp_ne (pc := 18) dX6_take_18 (tgt := 24) (by decide) (fun c18 => ?_) (fun c18 => ?_)
    · refine ex_aload_n (pc := 24) dX6_take_24 rfl ?_
      refine ex_callVV (as := []) (pc := 25) dX6_take_25 (tX6_beginAct H) lk_X6_116 ykX6_beginAct vkX6_beginAct H.o rfl rfl rfl (Nat.le_of_ble_eq_true rfl) ⟨by decide, by decide⟩ ⟨Nat.le_refl _, Nat.le_refl _⟩ (fun w1 p25 => ?_)
      obtain ⟨H1, f1⟩ := p25
      have h1_o := H1.o
      have h1_p := H1.p
      have h1_u := H1.u
      have h1_k := H1.k
      obtain ⟨j, hj⟩ : ∃ j : Nat, a = j := ⟨a.toNat, by omega⟩
      subst hj
      refine ex_aload_n (pc := 28) dX6_take_28 rfl ?_
      refine ex_getfield (pc := 29) dX6_take_29 fk_X6_19 h1_o (by rfl) ?_
      refine ex_iload_n (pc := 32) dX6_take_32 rfl ?_
      refine ex_callVV (as := [_]) (pc := 33) dX6_take_33 (lX2_remove H1.P (j := j) (by omega)) lk_X6_119 ykX2_remove vkX2_remove h1_p rfl rfl rfl (Nat.le_of_ble_eq_true rfl) ⟨by decide, by decide⟩ ⟨Nat.le_refl _, Nat.le_refl _⟩ (fun w2 p33 => ?_)
      obtain ⟨q2, q3⟩ := p33
      have hle : (s.1.eraseIdx j).length = s.1.length - 1 := List.length_eraseIdx_of_lt (by omega)
      have hokn : okP (s.1.eraseIdx j, s.2.1) := ⟨Cod_del hv.1.1 (show j < s.1.length by omega), by show 1 ≤ (s.1.eraseIdx j).length; omega, by show (s.1.eraseIdx j).length ≤ 14; omega, hv.1.2.2.2⟩
      have H2 := H1.piece q2 q3
      have h2_o := H2.o
      have h2_p := H2.p
      have h2_u := H2.u
      have h2_k := H2.k
      refine ex_aload_n (pc := 36) dX6_take_36 rfl ?_
      refine ex_getfield (pc := 37) dX6_take_37 fk_X6_19 h2_o (by rfl) ?_
      refine ex_getfield (pc := 40) dX6_take_40 fk_X6_89 h2_p (by rfl) ?_
      have hkj : ((j : Int)).toNat = j := by omega
      exact ex_iret (pc := 43) dX6_take_43 ⟨by unfold opTake; rw [if_neg (by omega), if_neg (by omega)]; show _ = ((s.1.length : Int) - 1); omega, by unfold opTake; rw [if_neg (by omega), if_neg (by omega), hkj]; exact ClsS.mk (hv.push hokn) H2 Csh0, fun z hz => (q3 z (by omega) (by omega)).trans (f1 z hz)⟩ rfl (Nat.le_refl _)
    · refine ex_bipush (pc := 21) dX6_take_21 (by decide) ?_
      exact ex_iret (pc := 23) dX6_take_23 ⟨by unfold opTake; rw [if_neg (by omega), if_pos (by omega)], by unfold opTake; rw [if_neg (by omega), if_pos (by omega)]; exact hS0, fun _ _ => rfl⟩ rfl (Nat.le_refl _)
  · refine ex_iconst (pc := 8) dX6_take_8 (by decide) ?_
    exact ex_iret (pc := 9) dX6_take_9 ⟨by unfold opTake; rw [if_pos (by omega)], by unfold opTake; rw [if_pos (by omega)]; exact hS0, fun _ _ => rfl⟩ rfl (Nat.le_refl _)

abbrev mX6_mode : xC := mkC yX6_mode cX6_mode 3 (some .int) 4 400 0 0
set_option maxHeartbeats 4000000 in
set_option maxRecDepth 100000 in
theorem tX6_mode {n : Nat} {w : xW} {s : St} (hS : ClsS w s) {m : Int} : Ctr mX6_mode [xr 0, xi m] n w (pI (fun v w2 => v = (opMode s m).1 ∧ ClsS w2 (opMode s m).2 ∧ FrO w w2)) := by
  refine Ctr.of ykX6_mode rfl (Nat.le_of_ble_eq_true rfl) okI (fun hin hW => ?_)
  have hS0 := hS
  obtain ⟨hv, wk, bk, bc, bg, H, hc⟩ := hS
  have hlen := H.P.len
  show Ex _ _ 0 0 n w 0 [some (xr 0), some (xi m), none] []
  refine ex_iload_n (pc := 0) dX6_mode_0 rfl ?_
  refine ex_if_lt (pc := 1) dX6_mode_1 (tgt := 9) (by decide) (fun c1 => ?_) (fun c1 => ?_)
  · refine ex_iconst (pc := 9) dX6_mode_9 (by decide) ?_
    exact ex_iret (pc := 10) dX6_mode_10 ⟨by unfold opMode; rw [if_pos (by omega)], by unfold opMode; rw [if_pos (by omega)]; exact hS0, fun _ _ => rfl⟩ rfl (Nat.le_refl _)
  · refine ex_iload_n (pc := 4) dX6_mode_4 rfl ?_
    refine ex_iconst (pc := 5) dX6_mode_5 (by decide) ?_
    refine ex_icmp_le (pc := 6) dX6_mode_6 (tgt := 11) (by decide) (fun c6 => ?_) (fun c6 => ?_)
    · refine ex_iload_n (pc := 11) dX6_mode_11 rfl ?_
      refine ex_aload_n (pc := 12) dX6_mode_12 rfl ?_
      refine ex_getfield (pc := 13) dX6_mode_13 fk_X6_19 H.o (by rfl) ?_
      refine ex_getfield (pc := 16) dX6_mode_16 fk_X6_132 H.p (by rfl) ?_
      refine ex_icmp_ne (pc := 19) dX6_mode_19 (tgt := 25) (by decide) (fun c19 => ?_) (fun c19 => ?_)
      · refine ex_aload_n (pc := 25) dX6_mode_25 rfl ?_
        refine ex_callVV (as := []) (pc := 26) dX6_mode_26 (tX6_beginAct H) lk_X6_116 ykX6_beginAct vkX6_beginAct H.o rfl rfl rfl (Nat.le_of_ble_eq_true rfl) ⟨by decide, by decide⟩ ⟨Nat.le_refl _, Nat.le_refl _⟩ (fun w1 p26 => ?_)
        obtain ⟨H1, f1⟩ := p26
        have h1_o := H1.o
        have h1_p := H1.p
        have h1_u := H1.u
        have h1_k := H1.k
        refine ex_aload_n (pc := 29) dX6_mode_29 rfl ?_
        refine ex_getfield (pc := 30) dX6_mode_30 fk_X6_19 h1_o (by rfl) ?_
        refine ex_getfield (pc := 33) dX6_mode_33 fk_X6_132 h1_p (by rfl) ?_
        refine ex_istore_n (L2 := [_, _, _]) (pc := 36) dX6_mode_36 rfl (Nat.le_of_ble_eq_true rfl) rfl ?_
        refine ex_aload_n (pc := 37) dX6_mode_37 rfl ?_
        refine ex_getfield (pc := 38) dX6_mode_38 fk_X6_19 h1_o (by rfl) ?_
        refine ex_iload_n (pc := 41) dX6_mode_41 rfl ?_
        refine ex_putA (pc := 42) dX6_mode_42 fk_X6_132 (ty := tyX2 2) (fun _ _ _ h9 => by cases h9; exact ⟨tyX2_ok 2 (by decide), rfl⟩) h1_p (Nat.le_of_ble_eq_true rfl) (fun _ => rfl) (fun _ => rfl) ?_
        refine ex_up (fun w2 e_w2 => ?_)
        have h2_o := ((congrFun e_w2 0).trans (up_n (by first | assumption | decide | omega))).trans h1_o
        have h2_p := (congrFun e_w2 3).trans up_s
        have h2_u := ((congrFun e_w2 7).trans (up_n (by first | assumption | decide | omega))).trans h1_u
        have h2_k := ((congrFun e_w2 25).trans (up_n (by first | assumption | decide | omega))).trans h1_k
        refine ex_iload_n (pc := 45) dX6_mode_45 rfl ?_
        have hP2 : PcAt w2 3 4 s.1 m := by
          obtain ⟨f, g1, g2, g3⟩ := H1.P
          exact ⟨f, h2_p, (congrFun e_w2 4).trans ((up_n (by decide)).trans g2), g3⟩
        have H2 := H1.piece hP2 (fun z z1 _ => (congrFun e_w2 z).trans (up_n z1))
        have hokn : okP (s.1, m) := ⟨hv.1.1, hv.1.2.1, hv.1.2.2.1, by show 0 ≤ m; omega, by show m ≤ 2; omega⟩
        exact ex_iret (pc := 46) dX6_mode_46 ⟨by unfold opMode; rw [if_neg (by omega), if_neg (by omega)], by unfold opMode; rw [if_neg (by omega), if_neg (by omega)]; exact ClsS.mk (hv.push hokn) H2 Csh0, fun z hz => ((congrFun e_w2 z).trans (up_n (by omega))).trans (f1 z hz)⟩ rfl (Nat.le_refl _)
      · refine ex_bipush (pc := 22) dX6_mode_22 (by decide) ?_
        exact ex_iret (pc := 24) dX6_mode_24 ⟨by unfold opMode; rw [if_neg (by omega), if_pos (by omega)], by unfold opMode; rw [if_neg (by omega), if_pos (by omega)]; exact hS0, fun _ _ => rfl⟩ rfl (Nat.le_refl _)
    · refine ex_iconst (pc := 9) dX6_mode_9 (by decide) ?_
      exact ex_iret (pc := 10) dX6_mode_10 ⟨by unfold opMode; rw [if_pos (by omega)], by unfold opMode; rw [if_pos (by omega)]; exact hS0, fun _ _ => rfl⟩ rfl (Nat.le_refl _)

