/-! ===== the object of the class: its cells 0 to 54 ===== -/
abbrev cO (wk bk bc bg : Int) : xE := xO 6 [xr 1, xr 3, xr 5, xr 7, xr 25, xr 31, xr 40, xr 49, xr 53, xi wk, xi bk, xi bc, xi bg]
def TrX (w : xW) : Prop := ∃ (u1 u2 : Int) (f : Nat → Int), w 5 = xO 2 [xr 6, xi u1, xi u2] ∧ w 6 = xA 14 f
def CvX (w : xW) : Prop := ∃ (s : Int) (f : Nat → Int), w 53 = xO 0 [xr 54, xi s] ∧ w 54 = xA 448 f
def ClsC (w : xW) (cs : List Int) (mo : Int) (und kep : List (List Int × Int)) (tx : List Int) (wk bk bc bg : Int) : Prop :=
  w 0 = cO wk bk bc bg ∧ (∃ at_, ScAt w 1 2 tx at_) ∧ PcAt w 3 4 cs mo ∧ TrX w ∧ PiAt w 7 8 und ∧ PiAt w 25 2 kep ∧ SeX w 31 ∧ SeX w 40 ∧ PtX w 49 ∧ CvX w
/-- pieces as they may be -/
def okP (x : List Int × Int) : Prop := Cod x.1 ∧ 1 ≤ x.1.length ∧ x.1.length ≤ 14 ∧ 0 ≤ x.2 ∧ x.2 ≤ 2
def Vld (cs : List Int) (mo : Int) (und kep : List (List Int × Int)) : Prop := okP (cs, mo) ∧ (∀ x ∈ und, okP x) ∧ (∀ x ∈ kep, okP x)
section CLS
variable {w w2 : xW} {cs : List Int} {mo : Int} {und kep : List (List Int × Int)} {tx : List Int} {wk bk bc bg : Int}
theorem ClsC.o (h : ClsC w cs mo und kep tx wk bk bc bg) : w 0 = cO wk bk bc bg := h.1
theorem ClsC.S (h : ClsC w cs mo und kep tx wk bk bc bg) : ∃ at_, ScAt w 1 2 tx at_ := h.2.1
theorem ClsC.P (h : ClsC w cs mo und kep tx wk bk bc bg) : PcAt w 3 4 cs mo := h.2.2.1
theorem ClsC.T (h : ClsC w cs mo und kep tx wk bk bc bg) : TrX w := h.2.2.2.1
theorem ClsC.U (h : ClsC w cs mo und kep tx wk bk bc bg) : PiAt w 7 8 und := h.2.2.2.2.1
theorem ClsC.K (h : ClsC w cs mo und kep tx wk bk bc bg) : PiAt w 25 2 kep := h.2.2.2.2.2.1
theorem ClsC.H (h : ClsC w cs mo und kep tx wk bk bc bg) : SeX w 31 := h.2.2.2.2.2.2.1
theorem ClsC.X (h : ClsC w cs mo und kep tx wk bk bc bg) : SeX w 40 := h.2.2.2.2.2.2.2.1
theorem ClsC.Y (h : ClsC w cs mo und kep tx wk bk bc bg) : PtX w 49 := h.2.2.2.2.2.2.2.2.1
theorem ClsC.V (h : ClsC w cs mo und kep tx wk bk bc bg) : CvX w := h.2.2.2.2.2.2.2.2.2
theorem ClsC.p (h : ClsC w cs mo und kep tx wk bk bc bg) : w 3 = xO 2 [xr 4, xi cs.length, xi mo] := h.P.r
theorem ClsC.u (h : ClsC w cs mo und kep tx wk bk bc bg) : w 7 = xO 3 [xr 8, xi und.length] := h.U.b
theorem ClsC.k (h : ClsC w cs mo und kep tx wk bk bc bg) : w 25 = xO 3 [xr 26, xi kep.length] := h.K.b
theorem TrX.fr (h : TrX w) (h1 : w2 5 = w 5) (h2 : w2 6 = w 6) : TrX w2 := by
  obtain ⟨u1, u2, f, q1, q2⟩ := h; exact ⟨u1, u2, f, h1.trans q1, h2.trans q2⟩
theorem CvX.fr (h : CvX w) (h1 : w2 53 = w 53) (h2 : w2 54 = w 54) : CvX w2 := by
  obtain ⟨s, f, q1, q2⟩ := h; exact ⟨s, f, h1.trans q1, h2.trans q2⟩
theorem PcAt.Tr {cs : List Int} {mo : Int} (h : PcAt w 5 6 cs mo) : TrX w := by
  obtain ⟨f, q1, q2, -⟩ := h; exact ⟨_, _, f, q1, q2⟩
/-- only the flags have changed -/
theorem ClsC.flags (h : ClsC w cs mo und kep tx wk bk bc bg) {a b c d : Int} (h0 : w2 0 = cO a b c d) (hf : ∀ z, z ≠ 0 → w2 z = w z) : ClsC w2 cs mo und kep tx a b c d :=
  ⟨h0, h.S.imp (fun _ q => q.fr (hf _ (by decide)) (hf _ (by decide))), h.P.fr (hf _ (by decide)) (hf _ (by decide)), h.T.fr (hf _ (by decide)) (hf _ (by decide)), h.U.fr (fun z z1 _ => hf z (by omega)) (by decide), h.K.fr (fun z z1 _ => hf z (by omega)) (by decide), h.H.fr (fun z z1 _ => hf z (by omega)), h.X.fr (fun z z1 _ => hf z (by omega)), h.Y.fr (fun z z1 _ => hf z (by omega)), h.V.fr (hf _ (by decide)) (hf _ (by decide))⟩
/-- only the piece has changed -/
theorem ClsC.piece (h : ClsC w cs mo und kep tx wk bk bc bg) {ds : List Int} {m2 : Int} (h0 : PcAt w2 3 4 ds m2) (hf : ∀ z, z ≠ 3 → z ≠ 4 → w2 z = w z) : ClsC w2 ds m2 und kep tx wk bk bc bg :=
  ⟨(hf _ (by decide) (by decide)).trans h.o, h.S.imp (fun _ q => q.fr (hf _ (by decide) (by decide)) (hf _ (by decide) (by decide))), h0, h.T.fr (hf _ (by decide) (by decide)) (hf _ (by decide) (by decide)), h.U.fr (fun z z1 _ => hf z (by omega) (by omega)) (by decide), h.K.fr (fun z z1 _ => hf z (by omega) (by omega)) (by decide), h.H.fr (fun z z1 _ => hf z (by omega) (by omega)), h.X.fr (fun z z1 _ => hf z (by omega) (by omega)), h.Y.fr (fun z z1 _ => hf z (by omega) (by omega)), h.V.fr (hf _ (by decide) (by decide)) (hf _ (by decide) (by decide))⟩
/-- only the trial has changed -/
theorem ClsC.trial (h : ClsC w cs mo und kep tx wk bk bc bg) (h0 : TrX w2) (hf : ∀ z, z ≠ 5 → z ≠ 6 → w2 z = w z) : ClsC w2 cs mo und kep tx wk bk bc bg :=
  ⟨(hf _ (by decide) (by decide)).trans h.o, h.S.imp (fun _ q => q.fr (hf _ (by decide) (by decide)) (hf _ (by decide) (by decide))), h.P.fr (hf _ (by decide) (by decide)) (hf _ (by decide) (by decide)), h0, h.U.fr (fun z z1 _ => hf z (by omega) (by omega)) (by decide), h.K.fr (fun z z1 _ => hf z (by omega) (by omega)) (by decide), h.H.fr (fun z z1 _ => hf z (by omega) (by omega)), h.X.fr (fun z z1 _ => hf z (by omega) (by omega)), h.Y.fr (fun z z1 _ => hf z (by omega) (by omega)), h.V.fr (hf _ (by decide) (by decide)) (hf _ (by decide) (by decide))⟩
/-- only the undo pile has changed -/
theorem ClsC.undo (h : ClsC w cs mo und kep tx wk bk bc bg) {u2 : List (List Int × Int)} (h0 : PiAt w2 7 8 u2) (hf : ∀ z, (z < 7 ∨ 25 ≤ z) → w2 z = w z) : ClsC w2 cs mo u2 kep tx wk bk bc bg :=
  ⟨(hf _ (by decide)).trans h.o, h.S.imp (fun _ q => q.fr (hf _ (by decide)) (hf _ (by decide))), h.P.fr (hf _ (by decide)) (hf _ (by decide)), h.T.fr (hf _ (by decide)) (hf _ (by decide)), h0, h.K.fr (fun z z1 _ => hf z (by omega)) (by decide), h.H.fr (fun z z1 _ => hf z (by omega)), h.X.fr (fun z z1 _ => hf z (by omega)), h.Y.fr (fun z z1 _ => hf z (by omega)), h.V.fr (hf _ (by decide)) (hf _ (by decide))⟩
/-- only the kept pile has changed -/
theorem ClsC.kept (h : ClsC w cs mo und kep tx wk bk bc bg) {u2 : List (List Int × Int)} (h0 : PiAt w2 25 2 u2) (hf : ∀ z, (z < 25 ∨ 31 ≤ z) → w2 z = w z) : ClsC w2 cs mo und u2 tx wk bk bc bg :=
  ⟨(hf _ (by decide)).trans h.o, h.S.imp (fun _ q => q.fr (hf _ (by decide)) (hf _ (by decide))), h.P.fr (hf _ (by decide)) (hf _ (by decide)), h.T.fr (hf _ (by decide)) (hf _ (by decide)), h.U.fr (fun z z1 _ => hf z (by omega)) (by decide), h0, h.H.fr (fun z z1 _ => hf z (by omega)), h.X.fr (fun z z1 _ => hf z (by omega)), h.Y.fr (fun z z1 _ => hf z (by omega)), h.V.fr (hf _ (by decide)) (hf _ (by decide))⟩
/-- only the text has changed -/
theorem ClsC.text (h : ClsC w cs mo und kep tx wk bk bc bg) {t2 : List Int} (h0 : ∃ at_, ScAt w2 1 2 t2 at_) (hf : ∀ z, z ≠ 1 → z ≠ 2 → w2 z = w z) : ClsC w2 cs mo und kep t2 wk bk bc bg :=
  ⟨(hf _ (by decide) (by decide)).trans h.o, h0, h.P.fr (hf _ (by decide) (by decide)) (hf _ (by decide) (by decide)), h.T.fr (hf _ (by decide) (by decide)) (hf _ (by decide) (by decide)), h.U.fr (fun z z1 _ => hf z (by omega) (by omega)) (by decide), h.K.fr (fun z z1 _ => hf z (by omega) (by omega)) (by decide), h.H.fr (fun z z1 _ => hf z (by omega) (by omega)), h.X.fr (fun z z1 _ => hf z (by omega) (by omega)), h.Y.fr (fun z z1 _ => hf z (by omega) (by omega)), h.V.fr (hf _ (by decide) (by decide)) (hf _ (by decide) (by decide))⟩
/-- only a search, the parting or the covering have changed -/
theorem ClsC.finds (h : ClsC w cs mo und kep tx wk bk bc bg) (h1 : SeX w2 31) (h2 : SeX w2 40) (h3 : PtX w2 49) (h4 : CvX w2) (hf : ∀ z, (z < 31 ∨ 55 ≤ z) → w2 z = w z) : ClsC w2 cs mo und kep tx wk bk bc bg :=
  ⟨(hf _ (by decide)).trans h.o, h.S.imp (fun _ q => q.fr (hf _ (by decide)) (hf _ (by decide))), h.P.fr (hf _ (by decide)) (hf _ (by decide)), h.T.fr (hf _ (by decide)) (hf _ (by decide)), h.U.fr (fun z z1 _ => hf z (by omega)) (by decide), h.K.fr (fun z z1 _ => hf z (by omega)) (by decide), h1, h2, h3, h4⟩
end CLS
/-- outside of the object nothing changes -/
def FrO (w w2 : xW) : Prop := ∀ z, 55 ≤ z → w2 z = w z
abbrev mX6_isNote : xC := mkC yX6_isNote cX6_isNote 2 (some .boolean) 1 100 0 0
set_option maxHeartbeats 4000000 in
set_option maxRecDepth 100000 in
theorem tX6_isNote {n : Nat} {w : xW} {cs : List Int} {mo : Int} {und kep : List (List Int × Int)} {tx : List Int} {wk bk bc bg : Int}(H : ClsC w cs mo und kep tx wk bk bc bg) {a : Int} : Ctr mX6_isNote [xr 0, xi a] n w (pZ (fun v w2 => w2 = w ∧ (v = 1 ↔ 0 ≤ a ∧ a < cs.length))) := by
  refine Ctr.of ykX6_isNote rfl (Nat.le_of_ble_eq_true rfl) okZ (fun hin hW => ?_)
  show Ex _ _ 0 0 n w 0 [some (xr 0), some (xi a)] []
  refine ex_iload_n (pc := 0) dX6_isNote_0 rfl ?_
  refine ex_if_lt (pc := 1) dX6_isNote_1 (tgt := 19) (by decide) (fun c1 => ?_) (fun c1 => ?_)
  · refine ex_iconst (pc := 19) dX6_isNote_19 (by decide) ?_
    exact ex_zret (pc := 20) dX6_isNote_20 ⟨by omega, rfl, by omega⟩ rfl (Nat.le_refl _)
  · refine ex_iload_n (pc := 4) dX6_isNote_4 rfl ?_
    refine ex_aload_n (pc := 5) dX6_isNote_5 rfl ?_
    refine ex_getfield (pc := 6) dX6_isNote_6 fk_X6_19 H.o (by rfl) ?_
    refine ex_getfield (pc := 9) dX6_isNote_9 fk_X6_89 H.p (by rfl) ?_
    refine ex_icmp_ge (pc := 12) dX6_isNote_12 (tgt := 19) (by decide) (fun c12 => ?_) (fun c12 => ?_)
    · refine ex_iconst (pc := 19) dX6_isNote_19 (by decide) ?_
      exact ex_zret (pc := 20) dX6_isNote_20 ⟨by omega, rfl, by omega⟩ rfl (Nat.le_refl _)
    · refine ex_iconst (pc := 15) dX6_isNote_15 (by decide) ?_
      refine ex_goto (pc := 16) dX6_isNote_16 (tgt := 20) (by decide) ?_
      exact ex_zret (pc := 20) dX6_isNote_20 ⟨by omega, rfl, by omega⟩ rfl (Nat.le_refl _)

abbrev mX6_isShift : xC := mkC yX6_isShift cX6_isShift 4 (some .boolean) 1 100 0 0
def shiftP (mo d e : Int) : Prop := -19 ≤ d ∧ d ≤ 19 ∧ (if mo = 1 then 0 else -11) ≤ e ∧ e ≤ 11
set_option maxHeartbeats 4000000 in
set_option maxRecDepth 100000 in
theorem tX6_isShift {n : Nat} {w : xW} {cs : List Int} {mo : Int} {und kep : List (List Int × Int)} {tx : List Int} {wk bk bc bg : Int}(H : ClsC w cs mo und kep tx wk bk bc bg) {d e : Int} : Ctr mX6_isShift [xr 0, xi d, xi e] n w (pZ (fun v w2 => w2 = w ∧ (v = 1 ↔ shiftP mo d e))) := by
  refine Ctr.of ykX6_isShift rfl (Nat.le_of_ble_eq_true rfl) okZ (fun hin hW => ?_)
  show Ex _ _ 0 0 n w 0 [some (xr 0), some (xi d), some (xi e), none] []
  refine ex_aload_n (pc := 0) dX6_isShift_0 rfl ?_
  refine ex_getfield (pc := 1) dX6_isShift_1 fk_X6_19 H.o (by rfl) ?_
  refine ex_getfield (pc := 4) dX6_isShift_4 fk_X6_132 H.p (by rfl) ?_
  refine ex_iconst (pc := 7) dX6_isShift_7 (by decide) ?_
  refine ex_icmp_ne (pc := 8) dX6_isShift_8 (tgt := 15) (by decide) (fun c8 => ?_) (fun c8 => ?_)
  · refine ex_bipush (pc := 15) dX6_isShift_15 (by decide) ?_
    refine ex_istore_n (L2 := [_, _, _, _]) (pc := 17) dX6_isShift_17 rfl (Nat.le_of_ble_eq_true rfl) rfl ?_
    refine ex_iload_n (pc := 18) dX6_isShift_18 rfl ?_
    refine ex_bipush (pc := 19) dX6_isShift_19 (by decide) ?_
    refine ex_icmp_lt (pc := 21) dX6_isShift_21 (tgt := 45) (by decide) (fun c21 => ?_) (fun c21 => ?_)
    · refine ex_iconst (pc := 45) dX6_isShift_45 (by decide) ?_
      exact ex_zret (pc := 46) dX6_isShift_46 ⟨by omega, rfl, by unfold shiftP; split <;> omega⟩ rfl (Nat.le_refl _)
    · refine ex_iload_n (pc := 24) dX6_isShift_24 rfl ?_
      refine ex_bipush (pc := 25) dX6_isShift_25 (by decide) ?_
      refine ex_icmp_gt (pc := 27) dX6_isShift_27 (tgt := 45) (by decide) (fun c27 => ?_) (fun c27 => ?_)
      · refine ex_iconst (pc := 45) dX6_isShift_45 (by decide) ?_
        exact ex_zret (pc := 46) dX6_isShift_46 ⟨by omega, rfl, by unfold shiftP; split <;> omega⟩ rfl (Nat.le_refl _)
      · refine ex_iload_n (pc := 30) dX6_isShift_30 rfl ?_
        refine ex_iload_n (pc := 31) dX6_isShift_31 rfl ?_
        refine ex_icmp_lt (pc := 32) dX6_isShift_32 (tgt := 45) (by decide) (fun c32 => ?_) (fun c32 => ?_)
        · refine ex_iconst (pc := 45) dX6_isShift_45 (by decide) ?_
          exact ex_zret (pc := 46) dX6_isShift_46 ⟨by omega, rfl, by unfold shiftP; split <;> omega⟩ rfl (Nat.le_refl _)
        · refine ex_iload_n (pc := 35) dX6_isShift_35 rfl ?_
          refine ex_bipush (pc := 36) dX6_isShift_36 (by decide) ?_
          refine ex_icmp_gt (pc := 38) dX6_isShift_38 (tgt := 45) (by decide) (fun c38 => ?_) (fun c38 => ?_)
          · refine ex_iconst (pc := 45) dX6_isShift_45 (by decide) ?_
            exact ex_zret (pc := 46) dX6_isShift_46 ⟨by omega, rfl, by unfold shiftP; split <;> omega⟩ rfl (Nat.le_refl _)
          · refine ex_iconst (pc := 41) dX6_isShift_41 (by decide) ?_
            refine ex_goto (pc := 42) dX6_isShift_42 (tgt := 46) (by decide) ?_
            exact ex_zret (pc := 46) dX6_isShift_46 ⟨by omega, rfl, by unfold shiftP; split <;> omega⟩ rfl (Nat.le_refl _)
  · refine ex_iconst (pc := 11) dX6_isShift_11 (by decide) ?_
    refine ex_goto (pc := 12) dX6_isShift_12 (tgt := 17) (by decide) ?_
    refine ex_istore_n (L2 := [_, _, _, _]) (pc := 17) dX6_isShift_17 rfl (Nat.le_of_ble_eq_true rfl) rfl ?_
    refine ex_iload_n (pc := 18) dX6_isShift_18 rfl ?_
    refine ex_bipush (pc := 19) dX6_isShift_19 (by decide) ?_
    refine ex_icmp_lt (pc := 21) dX6_isShift_21 (tgt := 45) (by decide) (fun c21 => ?_) (fun c21 => ?_)
    · refine ex_iconst (pc := 45) dX6_isShift_45 (by decide) ?_
      exact ex_zret (pc := 46) dX6_isShift_46 ⟨by omega, rfl, by unfold shiftP; split <;> omega⟩ rfl (Nat.le_refl _)
    · refine ex_iload_n (pc := 24) dX6_isShift_24 rfl ?_
      refine ex_bipush (pc := 25) dX6_isShift_25 (by decide) ?_
      refine ex_icmp_gt (pc := 27) dX6_isShift_27 (tgt := 45) (by decide) (fun c27 => ?_) (fun c27 => ?_)
      · refine ex_iconst (pc := 45) dX6_isShift_45 (by decide) ?_
        exact ex_zret (pc := 46) dX6_isShift_46 ⟨by omega, rfl, by unfold shiftP; split <;> omega⟩ rfl (Nat.le_refl _)
      · refine ex_iload_n (pc := 30) dX6_isShift_30 rfl ?_
        refine ex_iload_n (pc := 31) dX6_isShift_31 rfl ?_
        refine ex_icmp_lt (pc := 32) dX6_isShift_32 (tgt := 45) (by decide) (fun c32 => ?_) (fun c32 => ?_)
        · refine ex_iconst (pc := 45) dX6_isShift_45 (by decide) ?_
          exact ex_zret (pc := 46) dX6_isShift_46 ⟨by omega, rfl, by unfold shiftP; split <;> omega⟩ rfl (Nat.le_refl _)
        · refine ex_iload_n (pc := 35) dX6_isShift_35 rfl ?_
          refine ex_bipush (pc := 36) dX6_isShift_36 (by decide) ?_
          refine ex_icmp_gt (pc := 38) dX6_isShift_38 (tgt := 45) (by decide) (fun c38 => ?_) (fun c38 => ?_)
          · refine ex_iconst (pc := 45) dX6_isShift_45 (by decide) ?_
            exact ex_zret (pc := 46) dX6_isShift_46 ⟨by omega, rfl, by unfold shiftP; split <;> omega⟩ rfl (Nat.le_refl _)
          · refine ex_iconst (pc := 41) dX6_isShift_41 (by decide) ?_
            refine ex_goto (pc := 42) dX6_isShift_42 (tgt := 46) (by decide) ?_
            exact ex_zret (pc := 46) dX6_isShift_46 ⟨by omega, rfl, by unfold shiftP; split <;> omega⟩ rfl (Nat.le_refl _)

abbrev mX6_isMove : xC := mkC yX6_isMove cX6_isMove 3 (some .boolean) 2 200 0 0
set_option maxHeartbeats 4000000 in
set_option maxRecDepth 100000 in
theorem tX6_isMove {n : Nat} {w : xW} {cs : List Int} {mo : Int} {und kep : List (List Int × Int)} {tx : List Int} {wk bk bc bg : Int}(H : ClsC w cs mo und kep tx wk bk bc bg) {d e : Int} : Ctr mX6_isMove [xr 0, xi d, xi e] n w (pZ (fun v w2 => w2 = w ∧ (v = 1 ↔ shiftP mo d e ∧ (d ≠ 0 ∨ e ≠ 0)))) := by
  refine Ctr.of ykX6_isMove rfl (Nat.le_of_ble_eq_true rfl) okZ (fun hin hW => ?_)
  show Ex _ _ 0 0 n w 0 [some (xr 0), some (xi d), some (xi e)] []
  refine ex_aload_n (pc := 0) dX6_isMove_0 rfl ?_
  refine ex_iload_n (pc := 1) dX6_isMove_1 rfl ?_
  refine ex_iload_n (pc := 2) dX6_isMove_2 rfl ?_
  refine ex_callVZ (as := [_, _]) (pc := 3) dX6_isMove_3 (tX6_isShift H) lk_X6_138 ykX6_isShift vkX6_isShift H.o rfl rfl rfl (Nat.le_of_ble_eq_true rfl) ⟨by decide, by decide⟩ ⟨Nat.le_refl _, Nat.le_refl _⟩ (fun i3 w1 r3 p3 => ?_)
  obtain ⟨e3, p3⟩ := p3
  rw [e3]
  refine ex_if_eq (pc := 6) dX6_isMove_6 (tgt := 21) (by decide) (fun c6 => ?_) (fun c6 => ?_)
  · refine ex_iconst (pc := 21) dX6_isMove_21 (by decide) ?_
    exact ex_zret (pc := 22) dX6_isMove_22 ⟨by omega, rfl, by rw [← p3]; omega⟩ rfl (Nat.le_refl _)
  · refine ex_iload_n (pc := 9) dX6_isMove_9 rfl ?_
    refine ex_if_ne (pc := 10) dX6_isMove_10 (tgt := 17) (by decide) (fun c10 => ?_) (fun c10 => ?_)
    · refine ex_iconst (pc := 17) dX6_isMove_17 (by decide) ?_
      refine ex_goto (pc := 18) dX6_isMove_18 (tgt := 22) (by decide) ?_
      exact ex_zret (pc := 22) dX6_isMove_22 ⟨by omega, rfl, by rw [← p3]; omega⟩ rfl (Nat.le_refl _)
    · refine ex_iload_n (pc := 13) dX6_isMove_13 rfl ?_
      refine ex_if_eq (pc := 14) dX6_isMove_14 (tgt := 21) (by decide) (fun c14 => ?_) (fun c14 => ?_)
      · refine ex_iconst (pc := 21) dX6_isMove_21 (by decide) ?_
        exact ex_zret (pc := 22) dX6_isMove_22 ⟨by omega, rfl, by rw [← p3]; omega⟩ rfl (Nat.le_refl _)
      · refine ex_iconst (pc := 17) dX6_isMove_17 (by decide) ?_
        refine ex_goto (pc := 18) dX6_isMove_18 (tgt := 22) (by decide) ?_
        exact ex_zret (pc := 22) dX6_isMove_22 ⟨by omega, rfl, by rw [← p3]; omega⟩ rfl (Nat.le_refl _)

abbrev mX6_staysWithin : xC := mkC yX6_staysWithin cX6_staysWithin 4 (some .boolean) 2 200 0 0
def inP (t b : Int) : Prop := 0 ≤ t ∧ t < 20 ∧ 0 ≤ b ∧ b < 12
set_option maxHeartbeats 4000000 in
set_option maxRecDepth 100000 in
theorem tX6_staysWithin {n : Nat} {w : xW} {cs : List Int} {mo : Int} {und kep : List (List Int × Int)} {tx : List Int} {wk bk bc bg : Int}(H : ClsC w cs mo und kep tx wk bk bc bg) (hv : okP (cs, mo)) {a : Nat} (ha : a < cs.length) {d e : Int} (hde : -100 ≤ d ∧ d ≤ 100 ∧ -100 ≤ e ∧ e ≤ 100) : Ctr mX6_staysWithin [xr 0, xi a, xi d, xi e] n w (pZ (fun v w2 => w2 = w ∧ (v = 1 ↔ inP (tmL cs a + d) (ptL cs a + e)))) := by
  refine Ctr.of ykX6_staysWithin rfl (Nat.le_of_ble_eq_true rfl) okZ (fun hin hW => ?_)
  show Ex _ _ 0 0 n w 0 [some (xr 0), some (xi a), some (xi d), some (xi e)] []
  refine ex_aload_n (pc := 0) dX6_staysWithin_0 rfl ?_
  refine ex_getfield (pc := 1) dX6_staysWithin_1 fk_X6_19 H.o (by rfl) ?_
  refine ex_iload_n (pc := 4) dX6_staysWithin_4 rfl ?_
  refine ex_callVI (as := [_]) (pc := 5) dX6_staysWithin_5 (lX2_timeOf H.P hv.1) lk_X6_103 ykX2_timeOf vkX2_timeOf H.p rfl rfl rfl (Nat.le_of_ble_eq_true rfl) ⟨by decide, by decide⟩ ⟨Nat.le_refl _, Nat.le_refl _⟩ (fun i5 w1 r5 p5 => ?_)
  obtain ⟨e5, p5⟩ := p5
  rw [e5]
  rw [if_pos (by omega)] at p5
  have hka : ((a : Int)).toNat = a := by omega
  rw [hka] at p5
  have hca : 0 ≤ cs.getD a 0 ∧ cs.getD a 0 < 240 := hv.1 a ha
  refine ex_iload_n (pc := 8) dX6_staysWithin_8 rfl ?_
  refine ex_iadd (pc := 9) dX6_staysWithin_9 (by unfold inI; omega) ?_
  refine ex_aload_n (pc := 10) dX6_staysWithin_10 rfl ?_
  refine ex_getfield (pc := 11) dX6_staysWithin_11 fk_X6_19 H.o (by rfl) ?_
  refine ex_iload_n (pc := 14) dX6_staysWithin_14 rfl ?_
  refine ex_callVI (as := [_]) (pc := 15) dX6_staysWithin_15 (lX2_pitchOf H.P hv.1) lk_X6_106 ykX2_pitchOf vkX2_pitchOf H.p rfl rfl rfl (Nat.le_of_ble_eq_true rfl) ⟨by decide, by decide⟩ ⟨Nat.le_refl _, Nat.le_refl _⟩ (fun i15 w1 r15 p15 => ?_)
  obtain ⟨e15, p15⟩ := p15
  rw [e15]
  rw [if_pos (by omega), hka] at p15
  refine ex_iload_n (pc := 18) dX6_staysWithin_18 rfl ?_
  refine ex_iadd (pc := 19) dX6_staysWithin_19 (by unfold inI; omega) ?_
  refine ex_callSZ (as := [_, _]) (pc := 20) dX6_staysWithin_20 (tX6_isWithin) lk_X6_109 ykX6_isWithin zkX6_isWithin rfl rfl (Nat.le_of_ble_eq_true rfl) ⟨by decide, by decide⟩ ⟨Nat.le_refl _, Nat.le_refl _⟩ (fun i20 w1 r20 p20 => ?_)
  obtain ⟨e20, p20⟩ := p20
  rw [e20]
  exact ex_zret (pc := 23) dX6_staysWithin_23 ⟨r20, rfl, by rw [p20, p5, p15]; rfl⟩ rfl (Nat.le_refl _)

abbrev mX6_forgetFindings : xC := mkC yX6_forgetFindings cX6_forgetFindings 1 none 1 100 0 0
set_option maxHeartbeats 4000000 in
set_option maxRecDepth 100000 in
theorem tX6_forgetFindings {n : Nat} {w : xW} {cs : List Int} {mo : Int} {und kep : List (List Int × Int)} {tx : List Int} {wk bk bc bg : Int}(H : ClsC w cs mo und kep tx wk bk bc bg) : Ctr mX6_forgetFindings [xr 0] n w (pV (fun w2 => ClsC w2 cs mo und kep tx 0 0 bc bg ∧ FrO w w2)) := by
  refine Ctr.of ykX6_forgetFindings rfl (Nat.le_of_ble_eq_true rfl) okV (fun hin hW => ?_)
  show Ex _ _ 0 0 n w 0 [some (xr 0)] []
  refine ex_aload_n (pc := 0) dX6_forgetFindings_0 rfl ?_
  refine ex_iconst (pc := 1) dX6_forgetFindings_1 (by decide) ?_
  refine ex_putA (pc := 2) dX6_forgetFindings_2 fk_X6_241 (ty := tyX6 9) (fun _ _ _ h9 => by cases h9; exact ⟨tyX6_ok 9 (by decide), rfl⟩) H.o (Nat.le_of_ble_eq_true rfl) (fun _ => rfl) (fun _ => rfl) ?_
  refine ex_up (fun w1 e_w1 => ?_)
  have h1_o := (congrFun e_w1 0).trans up_s
  refine ex_aload_n (pc := 5) dX6_forgetFindings_5 rfl ?_
  refine ex_iconst (pc := 6) dX6_forgetFindings_6 (by decide) ?_
  refine ex_putA (pc := 7) dX6_forgetFindings_7 fk_X6_217 (ty := tyX6 10) (fun _ _ _ h9 => by cases h9; exact ⟨tyX6_ok 10 (by decide), rfl⟩) h1_o (Nat.le_of_ble_eq_true rfl) (fun _ => rfl) (fun _ => rfl) ?_
  refine ex_up (fun w2 e_w2 => ?_)
  have h2_o := (congrFun e_w2 0).trans up_s
  exact ex_vret (pc := 10) dX6_forgetFindings_10 ⟨H.flags h2_o (fun z hz => by rw [e_w2, up_n hz, e_w1, up_n hz]), fun z hz => by rw [e_w2, up_n (by omega), e_w1, up_n (by omega)]⟩ rfl (Nat.le_refl _)

abbrev mX6_beginAct : xC := mkC yX6_beginAct cX6_beginAct 1 none 3 300 0 0
def pushU (und : List (List Int × Int)) (x : List Int × Int) : List (List Int × Int) := if und.length < 8 then und ++ [x] else und.tail ++ [x]
set_option maxHeartbeats 4000000 in
set_option maxRecDepth 100000 in
theorem tX6_beginAct {n : Nat} {w : xW} {cs : List Int} {mo : Int} {und kep : List (List Int × Int)} {tx : List Int} {wk bk bc bg : Int}(H : ClsC w cs mo und kep tx wk bk bc bg) : Ctr mX6_beginAct [xr 0] n w (pV (fun w2 => ClsC w2 cs mo (pushU und (cs, mo)) kep tx 0 0 bc bg ∧ FrO w w2)) := by
  refine Ctr.of ykX6_beginAct rfl (Nat.le_of_ble_eq_true rfl) okV (fun hin hW => ?_)
  show Ex _ _ 0 0 n w 0 [some (xr 0)] []
  refine ex_aload_n (pc := 0) dX6_beginAct_0 rfl ?_
  refine ex_getfield (pc := 1) dX6_beginAct_1 fk_X6_31 H.o (by rfl) ?_
  refine ex_aload_n (pc := 4) dX6_beginAct_4 rfl ?_
  refine ex_getfield (pc := 5) dX6_beginAct_5 fk_X6_19 H.o (by rfl) ?_
  refine ex_callVV (as := [_]) (pc := 8) dX6_beginAct_8 (tX3_push H.U H.P (by decide) (by decide) (by decide) (by decide)) lk_X6_238 ykX3_push vkX3_push H.u rfl rfl rfl (Nat.le_of_ble_eq_true rfl) ⟨by decide, by decide⟩ ⟨Nat.le_refl _, Nat.le_refl _⟩ (fun w1 p8 => ?_)
  obtain ⟨q1, q2⟩ := p8
  have H1 : ClsC w1 cs mo (pushU und (cs, mo)) kep tx wk bk bc bg := H.undo q1 q2
  have h1_o := H1.o
  have h1_p := H1.p
  have h1_u := H1.u
  have h1_k := H1.k
  refine ex_aload_n (pc := 11) dX6_beginAct_11 rfl ?_
  refine ex_callVV (as := []) (pc := 12) dX6_beginAct_12 (tX6_forgetFindings H1) lk_X6_97 ykX6_forgetFindings vkX6_forgetFindings h1_o rfl rfl rfl (Nat.le_of_ble_eq_true rfl) ⟨by decide, by decide⟩ ⟨Nat.le_refl _, Nat.le_refl _⟩ (fun w2 p12 => ?_)
  obtain ⟨q3, q4⟩ := p12
  exact ex_vret (pc := 15) dX6_beginAct_15 ⟨q3, fun z hz => (q4 z hz).trans (q2 z (by omega))⟩ rfl (Nat.le_refl _)

