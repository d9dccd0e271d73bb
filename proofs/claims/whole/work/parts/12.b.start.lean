/-! THE CLAIM OUT OF ONE WALK OF THE LAW'S BODY. Your part is whole_start (and what it stands on); all else here is the same for every law, but numbers. -/
def R_law : String := "ShiftedShapesLaw"
def lw_P (b : Addr) (xs : List Int32) (args : Array Value) (s : State) : Prop := args = #[.ref b] ∧ s.IntsAt b xs ∧ xs.length ≤ 2048 ∧ (Jvm.Cond.and given_1 narrow_1).before args s = true
def lw_Q (_ : Array Value) (s : State) (o : Outcome) (t : State) : Prop := o = .returned (some (.int 1)) ∧ Framed s o t [] 600000 7302250
def lw_Z (below : List Frame) (a : Array Value) (s : State) : State → Prop := fun t => ∃ o, t.status = .running ∧ Ended t below o ∧ lw_Q a s o t
/-- the law's own end, with 1 on the stack, nothing written that was there before, its room as the claim has it -/
theorem lw_ret {p : Program} {l : Launch} {e : Env} {s : State} {m : MethodId} {below : List Frame} {meth : Method} {c : Code} {b : Nat} (hx : p.tables.exec = Jvm.exec) (hb : c.code = code) (hr : meth.sig.returnType = ret) (hlocks : meth.locks = false) {pc : Nat} {H : Heap} {ls : Array Slot} (hdg : decode code pc = .ok (.ireturn, 1)) : W p l e room_1 s m #[Value.ref b] below meth c H [] 600000 7302250 (lw_Z below #[Value.ref b] s) (F0 m pc ls [.int 1]) := by
  intro T hT X
  obtain ⟨fs, hret, hrun, hended, hW, hframe⟩ := X.leave (v := some (.int 1)) (hlocks := hlocks) (fun h => by rw [hr] at h; cases h)
  have hmeth' : T.vm.method? m = some meth := X.method'
  refine ⟨T.setFrames fs, ?_, .returned (some (.int 1)), hrun, hended, rfl, ⟨_, rfl⟩, hW, hframe⟩
  jvm_step X.here [X.here.top, hx, hb, hdg, hmeth', hr, ret, narrow_b1]
  (try refine ⟨rfl, ?_⟩); (try refine ⟨rfl, ?_⟩)
  first | (intro acts; rw [hret _ acts rfl rfl rfl]) | rw [hret _ _ rfl rfl rfl]
  exact Steps.refl _
/-- what holds at the law's entry: the machine, the code, the tables' words (any of lw_tbl by 'hts w (by decide +kernel)'), the script of L ints xs at the cell b, what the Statement gives of the start (any of its parts by flat_of_before) -/
def lw_At (p : Program) (s : State) (m : MethodId) (meth : Method) (c : Code) (b L : Nat) (xs : Nat → Int32) : Prop :=
  p.tables.exec = Jvm.exec ∧ c.code = code ∧ meth.sig.returnType = ret ∧ c.maxLocals = 4 ∧ s.vm.findClass R_law = some m.cls ∧ (∀ w ∈ lw_tbl, w.before #[Value.ref b] s = true) ∧ va_X b L xs s s.heap ∧ b < s.heap.size ∧ meth.locks = false ∧ (Jvm.Cond.and given_1 narrow_1).before #[Value.ref b] s = true
theorem ls_ftm : Cond.laysStatic "ShiftedShapes" "FIRST_TIMES" "[I" ∈ lw_tbl := List.mem_of_getElem? (i := 248) (by decide +kernel)
set_option maxRecDepth 100000 in
theorem st_T {b : Nat} {s : State} (hts : ∀ w ∈ lw_tbl, w.before #[Value.ref b] s = true) (hgv : (Jvm.Cond.and given_1 narrow_1).before #[Value.ref b] s = true) : ∃ t : Nat, va_Z "ShiftedShapes" "FIRST_TIMES" "[I" (.ref t) (fun q => s.heap.size ≤ q) s s.heap ∧ va_T .int t 13 (fun j => .int (Int32.ofInt (ftm j))) (fun q => s.heap.size ≤ q) s s.heap := by
  have hs := flat_of_before _ hgv
  have hA : ∀ a : Nat, a < s.heap.size → ¬ (fun q : Nat => s.heap.size ≤ q) a := fun a h => Nat.not_le.mpr h
  have ha : (Cond.arrayOf (Term.static "ShiftedShapes" "FIRST_TIMES" "[I") .int).before #[Value.ref b] s = true := hs _ (by decide +kernel)
  have hl : (Cond.eq (.length (Term.static "ShiftedShapes" "FIRST_TIMES" "[I")) (.int 13)).before #[Value.ref b] s = true := hs _ (by decide +kernel)
  have h0 : (Cond.eq (.elem (Term.static "ShiftedShapes" "FIRST_TIMES" "[I") (.int 0)) (.int 0)).before #[Value.ref b] s = true := hs _ (by decide +kernel)
  have h1 : (Cond.eq (.elem (Term.static "ShiftedShapes" "FIRST_TIMES" "[I") (.int 1)) (.int 1)).before #[Value.ref b] s = true := hs _ (by decide +kernel)
  have h2 : (Cond.eq (.elem (Term.static "ShiftedShapes" "FIRST_TIMES" "[I") (.int 2)) (.int 2)).before #[Value.ref b] s = true := hs _ (by decide +kernel)
  have h3 : (Cond.eq (.elem (Term.static "ShiftedShapes" "FIRST_TIMES" "[I") (.int 3)) (.int 4)).before #[Value.ref b] s = true := hs _ (by decide +kernel)
  have h4 : (Cond.eq (.elem (Term.static "ShiftedShapes" "FIRST_TIMES" "[I") (.int 4)) (.int 5)).before #[Value.ref b] s = true := hs _ (by decide +kernel)
  have h5 : (Cond.eq (.elem (Term.static "ShiftedShapes" "FIRST_TIMES" "[I") (.int 5)) (.int 6)).before #[Value.ref b] s = true := hs _ (by decide +kernel)
  have h6 : (Cond.eq (.elem (Term.static "ShiftedShapes" "FIRST_TIMES" "[I") (.int 6)) (.int 8)).before #[Value.ref b] s = true := hs _ (by decide +kernel)
  have h7 : (Cond.eq (.elem (Term.static "ShiftedShapes" "FIRST_TIMES" "[I") (.int 7)) (.int 9)).before #[Value.ref b] s = true := hs _ (by decide +kernel)
  have h8 : (Cond.eq (.elem (Term.static "ShiftedShapes" "FIRST_TIMES" "[I") (.int 8)) (.int 10)).before #[Value.ref b] s = true := hs _ (by decide +kernel)
  have h9 : (Cond.eq (.elem (Term.static "ShiftedShapes" "FIRST_TIMES" "[I") (.int 9)) (.int 12)).before #[Value.ref b] s = true := hs _ (by decide +kernel)
  have h10 : (Cond.eq (.elem (Term.static "ShiftedShapes" "FIRST_TIMES" "[I") (.int 10)) (.int 13)).before #[Value.ref b] s = true := hs _ (by decide +kernel)
  have h11 : (Cond.eq (.elem (Term.static "ShiftedShapes" "FIRST_TIMES" "[I") (.int 11)) (.int 14)).before #[Value.ref b] s = true := hs _ (by decide +kernel)
  have h12 : (Cond.eq (.elem (Term.static "ShiftedShapes" "FIRST_TIMES" "[I") (.int 12)) (.int 15)).before #[Value.ref b] s = true := hs _ (by decide +kernel)
  obtain ⟨t, h1, h2⟩ := va_Tof (tm := (Term.static "ShiftedShapes" "FIRST_TIMES" "[I")) (N := 13) (f := fun j => .int (Int32.ofInt (ftm j))) (A := fun q : Nat => s.heap.size ≤ q) (by decide) ha (va_eqt hl) (fun j hj => by
    match j, hj with
    | 0, _ => exact (va_eqt h0).trans (congrArg (fun z => some (Value.int z)) (by decide +kernel : (0 : Int32) = Int32.ofInt (ftm 0)))
    | 1, _ => exact (va_eqt h1).trans (congrArg (fun z => some (Value.int z)) (by decide +kernel : (1 : Int32) = Int32.ofInt (ftm 1)))
    | 2, _ => exact (va_eqt h2).trans (congrArg (fun z => some (Value.int z)) (by decide +kernel : (2 : Int32) = Int32.ofInt (ftm 2)))
    | 3, _ => exact (va_eqt h3).trans (congrArg (fun z => some (Value.int z)) (by decide +kernel : (4 : Int32) = Int32.ofInt (ftm 3)))
    | 4, _ => exact (va_eqt h4).trans (congrArg (fun z => some (Value.int z)) (by decide +kernel : (5 : Int32) = Int32.ofInt (ftm 4)))
    | 5, _ => exact (va_eqt h5).trans (congrArg (fun z => some (Value.int z)) (by decide +kernel : (6 : Int32) = Int32.ofInt (ftm 5)))
    | 6, _ => exact (va_eqt h6).trans (congrArg (fun z => some (Value.int z)) (by decide +kernel : (8 : Int32) = Int32.ofInt (ftm 6)))
    | 7, _ => exact (va_eqt h7).trans (congrArg (fun z => some (Value.int z)) (by decide +kernel : (9 : Int32) = Int32.ofInt (ftm 7)))
    | 8, _ => exact (va_eqt h8).trans (congrArg (fun z => some (Value.int z)) (by decide +kernel : (10 : Int32) = Int32.ofInt (ftm 8)))
    | 9, _ => exact (va_eqt h9).trans (congrArg (fun z => some (Value.int z)) (by decide +kernel : (12 : Int32) = Int32.ofInt (ftm 9)))
    | 10, _ => exact (va_eqt h10).trans (congrArg (fun z => some (Value.int z)) (by decide +kernel : (13 : Int32) = Int32.ofInt (ftm 10)))
    | 11, _ => exact (va_eqt h11).trans (congrArg (fun z => some (Value.int z)) (by decide +kernel : (14 : Int32) = Int32.ofInt (ftm 11)))
    | 12, _ => exact (va_eqt h12).trans (congrArg (fun z => some (Value.int z)) (by decide +kernel : (15 : Int32) = Int32.ofInt (ftm 12)))
    | j + 13, h => exact absurd h (by omega)) hA
  exact ⟨t, va_Zref (hts _ ls_ftm) (hts _ (List.mem_filter.mp ini_X6).1) h1 hA, h2⟩
theorem ls_fpt : Cond.laysStatic "ShiftedShapes" "FIRST_PITCHES" "[I" ∈ lw_tbl := List.mem_of_getElem? (i := 250) (by decide +kernel)
set_option maxRecDepth 100000 in
theorem st_P {b : Nat} {s : State} (hts : ∀ w ∈ lw_tbl, w.before #[Value.ref b] s = true) (hgv : (Jvm.Cond.and given_1 narrow_1).before #[Value.ref b] s = true) : ∃ t : Nat, va_Z "ShiftedShapes" "FIRST_PITCHES" "[I" (.ref t) (fun q => s.heap.size ≤ q) s s.heap ∧ va_T .int t 13 (fun j => .int (Int32.ofInt (fpt j))) (fun q => s.heap.size ≤ q) s s.heap := by
  have hs := flat_of_before _ hgv
  have hA : ∀ a : Nat, a < s.heap.size → ¬ (fun q : Nat => s.heap.size ≤ q) a := fun a h => Nat.not_le.mpr h
  have ha : (Cond.arrayOf (Term.static "ShiftedShapes" "FIRST_PITCHES" "[I") .int).before #[Value.ref b] s = true := hs _ (by decide +kernel)
  have hl : (Cond.eq (.length (Term.static "ShiftedShapes" "FIRST_PITCHES" "[I")) (.int 13)).before #[Value.ref b] s = true := hs _ (by decide +kernel)
  have h0 : (Cond.eq (.elem (Term.static "ShiftedShapes" "FIRST_PITCHES" "[I") (.int 0)) (.int 2)).before #[Value.ref b] s = true := hs _ (by decide +kernel)
  have h1 : (Cond.eq (.elem (Term.static "ShiftedShapes" "FIRST_PITCHES" "[I") (.int 1)) (.int 4)).before #[Value.ref b] s = true := hs _ (by decide +kernel)
  have h2 : (Cond.eq (.elem (Term.static "ShiftedShapes" "FIRST_PITCHES" "[I") (.int 2)) (.int 5)).before #[Value.ref b] s = true := hs _ (by decide +kernel)
  have h3 : (Cond.eq (.elem (Term.static "ShiftedShapes" "FIRST_PITCHES" "[I") (.int 3)) (.int 4)).before #[Value.ref b] s = true := hs _ (by decide +kernel)
  have h4 : (Cond.eq (.elem (Term.static "ShiftedShapes" "FIRST_PITCHES" "[I") (.int 4)) (.int 6)).before #[Value.ref b] s = true := hs _ (by decide +kernel)
  have h5 : (Cond.eq (.elem (Term.static "ShiftedShapes" "FIRST_PITCHES" "[I") (.int 5)) (.int 7)).before #[Value.ref b] s = true := hs _ (by decide +kernel)
  have h6 : (Cond.eq (.elem (Term.static "ShiftedShapes" "FIRST_PITCHES" "[I") (.int 6)) (.int 2)).before #[Value.ref b] s = true := hs _ (by decide +kernel)
  have h7 : (Cond.eq (.elem (Term.static "ShiftedShapes" "FIRST_PITCHES" "[I") (.int 7)) (.int 4)).before #[Value.ref b] s = true := hs _ (by decide +kernel)
  have h8 : (Cond.eq (.elem (Term.static "ShiftedShapes" "FIRST_PITCHES" "[I") (.int 8)) (.int 6)).before #[Value.ref b] s = true := hs _ (by decide +kernel)
  have h9 : (Cond.eq (.elem (Term.static "ShiftedShapes" "FIRST_PITCHES" "[I") (.int 9)) (.int 0)).before #[Value.ref b] s = true := hs _ (by decide +kernel)
  have h10 : (Cond.eq (.elem (Term.static "ShiftedShapes" "FIRST_PITCHES" "[I") (.int 10)) (.int 2)).before #[Value.ref b] s = true := hs _ (by decide +kernel)
  have h11 : (Cond.eq (.elem (Term.static "ShiftedShapes" "FIRST_PITCHES" "[I") (.int 11)) (.int 3)).before #[Value.ref b] s = true := hs _ (by decide +kernel)
  have h12 : (Cond.eq (.elem (Term.static "ShiftedShapes" "FIRST_PITCHES" "[I") (.int 12)) (.int 11)).before #[Value.ref b] s = true := hs _ (by decide +kernel)
  obtain ⟨t, h1, h2⟩ := va_Tof (tm := (Term.static "ShiftedShapes" "FIRST_PITCHES" "[I")) (N := 13) (f := fun j => .int (Int32.ofInt (fpt j))) (A := fun q : Nat => s.heap.size ≤ q) (by decide) ha (va_eqt hl) (fun j hj => by
    match j, hj with
    | 0, _ => exact (va_eqt h0).trans (congrArg (fun z => some (Value.int z)) (by decide +kernel : (2 : Int32) = Int32.ofInt (fpt 0)))
    | 1, _ => exact (va_eqt h1).trans (congrArg (fun z => some (Value.int z)) (by decide +kernel : (4 : Int32) = Int32.ofInt (fpt 1)))
    | 2, _ => exact (va_eqt h2).trans (congrArg (fun z => some (Value.int z)) (by decide +kernel : (5 : Int32) = Int32.ofInt (fpt 2)))
    | 3, _ => exact (va_eqt h3).trans (congrArg (fun z => some (Value.int z)) (by decide +kernel : (4 : Int32) = Int32.ofInt (fpt 3)))
    | 4, _ => exact (va_eqt h4).trans (congrArg (fun z => some (Value.int z)) (by decide +kernel : (6 : Int32) = Int32.ofInt (fpt 4)))
    | 5, _ => exact (va_eqt h5).trans (congrArg (fun z => some (Value.int z)) (by decide +kernel : (7 : Int32) = Int32.ofInt (fpt 5)))
    | 6, _ => exact (va_eqt h6).trans (congrArg (fun z => some (Value.int z)) (by decide +kernel : (2 : Int32) = Int32.ofInt (fpt 6)))
    | 7, _ => exact (va_eqt h7).trans (congrArg (fun z => some (Value.int z)) (by decide +kernel : (4 : Int32) = Int32.ofInt (fpt 7)))
    | 8, _ => exact (va_eqt h8).trans (congrArg (fun z => some (Value.int z)) (by decide +kernel : (6 : Int32) = Int32.ofInt (fpt 8)))
    | 9, _ => exact (va_eqt h9).trans (congrArg (fun z => some (Value.int z)) (by decide +kernel : (0 : Int32) = Int32.ofInt (fpt 9)))
    | 10, _ => exact (va_eqt h10).trans (congrArg (fun z => some (Value.int z)) (by decide +kernel : (2 : Int32) = Int32.ofInt (fpt 10)))
    | 11, _ => exact (va_eqt h11).trans (congrArg (fun z => some (Value.int z)) (by decide +kernel : (3 : Int32) = Int32.ofInt (fpt 11)))
    | 12, _ => exact (va_eqt h12).trans (congrArg (fun z => some (Value.int z)) (by decide +kernel : (11 : Int32) = Int32.ofInt (fpt 12)))
    | j + 13, h => exact absurd h (by omega)) hA
  exact ⟨t, va_Zref (hts _ ls_fpt) (hts _ (List.mem_filter.mp ini_X6).1) h1 hA, h2⟩
set_option maxHeartbeats 4000000 in
set_option maxRecDepth 100000 in
/-- from the entry the law comes to its end with true -/
theorem whole_start {p : Program} {e : Env} {s : State} {m : MethodId} {below : List Frame} {meth : Method} {c : Code} (l : Launch) (hflags : l.flags = flags0) {b L : Nat} {xs : Nat → Int32} (hL : L ≤ 2048) (C0 : lw_At p s m meth c b L xs) : W p l e room_1 s m #[Value.ref b] below meth c s.heap [] 0 0 (lw_Z below #[Value.ref b] s) (entryFrame m ([Value.ref b] : List Value).toArray 4) := by
  obtain ⟨hx, hb, hr, hml, hown, hts, hX, hbl, hlocks, hgv⟩ := id C0
  have hws : ∀ w ∈ xWS, w.before #[Value.ref b] s = true := fun w hw => hts w (List.mem_filter.mp hw).1
  obtain ⟨c0, i0, k0⟩ := u_known (C := RX0) (T := TX0) (N := 2) (n := 2) hws iwX0 (hws _ nw_X0)
  obtain ⟨c1, i1, k1⟩ := u_known (C := RX1) (T := TX1) (N := 6) (n := 6) hws iwX1 (hws _ nw_X1)
  obtain ⟨c2, i2, k2⟩ := u_known (C := RX2) (T := TX2) (N := 3) (n := 3) hws iwX2 (hws _ nw_X2)
  obtain ⟨c3, i3, k3⟩ := u_known (C := RX3) (T := TX3) (N := 2) (n := 2) hws iwX3 (hws _ nw_X3)
  obtain ⟨c4, i4, k4⟩ := u_known (C := RX4) (T := TX4) (N := 3) (n := 3) hws iwX4 (hws _ nw_X4)
  obtain ⟨c5, i5, k5⟩ := u_known (C := RX5) (T := TX5) (N := 12) (n := 12) hws iwX5 (hws _ nw_X5)
  obtain ⟨c6, i6, k6⟩ := u_known (C := RX6) (T := TX6) (N := 13) (n := 13) hws iwX6 (hws _ nw_X6)
  obtain ⟨c7, i7, k7⟩ := u_known (C := RX7) (T := TX7) (N := 27) (n := 27) hws iwX7 (hws _ nw_X7)
  obtain ⟨D, hKc⟩ : ∃ D : va_G, ∀ (k : Nat) (q : vw_C), vwCl[k]? = some q → u_Kn s q.1 q.2.1 q.2.2 (D.1 k) (D.2 k) := by
    refine ⟨(fun k => if k = 0 then c0 else if k = 1 then c1 else if k = 2 then c2 else if k = 3 then c3 else if k = 4 then c4 else if k = 5 then c5 else if k = 6 then c6 else c7, fun k => if k = 0 then i0 else if k = 1 then i1 else if k = 2 then i2 else if k = 3 then i3 else if k = 4 then i4 else if k = 5 then i5 else if k = 6 then i6 else i7), ?_⟩
    intro k q hq
    match k, hq with
    | 0, hq => cases hq; exact k0
    | 1, hq => cases hq; exact k1
    | 2, hq => cases hq; exact k2
    | 3, hq => cases hq; exact k3
    | 4, hq => cases hq; exact k4
    | 5, hq => cases hq; exact k5
    | 6, hq => cases hq; exact k6
    | 7, hq => cases hq; exact k7
    | k + 8, hq => simp [vwCl] at hq
  have hK : va_K D vwCl [] s := ⟨hKc, fun k q h => by simp at h⟩
  obtain ⟨t1, z1, a1⟩ := st_T hts hgv
  obtain ⟨t2, z2, a2⟩ := st_P hts hgv
  have hAm : AmL b L xs t1 t2 s.heap.size s := ⟨⟨hX, hbl, Nat.not_le.mpr hbl⟩, ⟨z1, a1⟩, z2, a2⟩
  have hC : Cx mL_law (pZ (fun v _ => v = 1)) p l e room_1 s m #[Value.ref b] below meth c (lw_Z below #[Value.ref b] s) s.heap.size D := by
    refine ⟨hx, hb, hown, hws, hK, fun w hw hn => va_Nw.of (by cases w <;> first | rfl | cases hn) (hts w hw), va_AO.of (hts _ w_over), ⟨by decide, by decide, by decide, by decide⟩, fun h => absurd h (by decide), Nat.le_refl _, ?_⟩
    intro v n w j H locs pc ls hp hRel hk hS hv hj hret
    obtain ⟨i, rfl, -, rfl⟩ := hp
    refine va_forget (fun q hq => hS.2.2 q hq) ?_
    refine W.widen (k := 600000) (n := 7302250) (by decide) (Nat.le_trans hj (by decide)) ?_
    exact lw_ret hx hb hr hlocks hret
  have hR : Rel s.heap.size D s 0 (fun _ => xZ) s.heap := ⟨fun _ _ => rfl, fun _ => 0, fun k q h => by simp [wsOf] at h, fun k h => absurd h (Nat.not_lt_zero _)⟩
  have hl := lv_entry ([Value.ref b]) (n := 4) (Nat.le_of_ble_eq_true rfl)
  have hLL : hasL s.heap.size c ((lg_sl [Value.ref b] ++ List.replicate (4 - (lg_sl [Value.ref b]).length) Slot.unset).toArray) [some (xo b), none, none, none] := by
    refine ⟨by rw [hl.1, hml], ⟨hl.1, hl.2.1, ?_⟩, ?_⟩
    · rintro ⟨i, x⟩ hq
      obtain ⟨v, h1, rfl⟩ := mem_prL.mp hq
      have h2 := entry_args s.heap.size [xo b] (fun x hx => by rw [List.mem_singleton.mp hx]; rfl) 0 i v (ent_get (nL := 4) (as := [xo b]) h1)
      rw [Nat.zero_add] at h2
      exact hl.2.2 _ h2
    · intro v hv
      obtain ⟨i, hi⟩ := List.mem_iff_getElem?.mp hv
      have h2 := ent_get (nL := 4) (as := [xo b]) hi
      rw [List.mem_singleton.mp (List.mem_of_getElem? h2)]
      trivial
  have K := law_go (w := fun _ => xZ) hL p l e room_1 s m #[Value.ref b] below meth c s.heap [] (lw_Z below #[Value.ref b] s) s.heap.size D _ hAm hC hR rfl va_S.rf hLL (fun x hx => by cases hx)
  rw [List.map_nil, ← lg_entry_eq] at K
  exact K
