/-! ===== the judgement: from here, with this world, the method comes to a return with Post ===== -/
abbrev xC : Type := ByteArray × String × Nat × Nat × Nat × Nat × Bool × MethodName × Nat × Option FieldType
abbrev xP : Type := Option xV → xW → Prop
def isNest (w : Cond) : Bool := match w with
  | .fieldLinkNest _ _ _ _ _ _ => true
  | .methodLinkNest _ _ _ _ => true
  | _ => false
theorem nest_warm {w : Cond} (hw : isNest w = true) {s U : State} (hW : s.WarmedH U.vm) (h : va_Nw w s) : va_Nw w U := by
  cases w <;> first | exact va_Nw.warmF hW h | exact va_Nw.warmM hW h | cases hw
def retI (cc : ByteArray) (pc : Nat) (v : Option xV) : Prop := match v with
  | none => decode cc pc = .ok (.return_, 1)
  | some (.inl _) => decode cc pc = .ok (.ireturn, 1)
  | some (.inr _) => decode cc pc = .ok (.areturn, 1)
abbrev xS (B : Nat) (s : State) (H : Heap) (locs : List Loc) : Prop := va_S (fun q => B ≤ q) s.heap H locs
def Cx (X : xC) (Post : xP) (p : Program) (l : Launch) (e : Env) (R : Room) (s : State) (m : MethodId) (args : Array Value) (below : List Frame) (meth : Method) (c : Code) (Q : State → Prop) (B : Nat) (D : va_G) : Prop :=
  p.tables.exec = Jvm.exec ∧ c.code = X.1 ∧ s.vm.findClass X.2.1 = some m.cls ∧ (∀ w ∈ xWS, w.before args s = true) ∧ va_K D vwCl [] s ∧ (∀ w ∈ lw_tbl, isNest w = true → va_Nw w s) ∧ va_AO RX2 s ∧ (X.2.2.1 ≤ R.frames ∧ X.2.2.2.1 ≤ R.locals ∧ X.2.2.2.2.1 ≤ R.cells ∧ X.2.2.2.2.2.1 ≤ R.slots) ∧ (X.2.2.2.2.2.2.1 = true → meth.name = "<init>") ∧ B ≤ s.heap.size ∧
  ∀ (v : Option xV) (n : Nat) (w : xW) (j : Nat) (H : Heap) (locs : List Loc) (pc : Nat) (ls : Array Slot), Post v w → Rel B D s n w H → s.heap.size + X.2.2.2.2.1 = B + n → xS B s H locs → (∀ x, v = some x → inV x) → j ≤ X.2.2.2.2.2.1 → retI X.1 pc v → W p l e R s m args below meth c H locs X.2.2.2.2.1 j Q (F0 m pc ls (v.toList.map (rv B)))
def Ex (X : xC) (Post : xP) (k j n : Nat) (w : xW) (pc : Nat) (L : List (Option xV)) (st : List xV) : Prop :=
  ∀ (p : Program) (l : Launch) (e : Env) (R : Room) (s : State) (m : MethodId) (args : Array Value) (below : List Frame) (meth : Method) (c : Code) (H : Heap) (locs : List Loc) (Q : State → Prop) (B : Nat) (D : va_G) (ls : Array Slot), Cx X Post p l e R s m args below meth c Q B D → Rel B D s n w H → s.heap.size + k = B + n → xS B s H locs → hasL B c ls L → (∀ x ∈ st, inV x) →
    W p l e R s m args below meth c H locs k j Q (F0 m pc ls (st.map (rv B)))
theorem hst1 {v : xV} {st : List xV} (h : ∀ x ∈ v :: st, inV x) : inV v := h v List.mem_cons_self
theorem hst2 {v : xV} {st : List xV} (h : ∀ x ∈ v :: st, inV x) : ∀ x ∈ st, inV x := fun x hx => h x (List.mem_cons_of_mem _ hx)
theorem hstc {v : xV} {st : List xV} (h1 : inV v) (h : ∀ x ∈ st, inV x) : ∀ x ∈ v :: st, inV x := List.forall_mem_cons.mpr ⟨h1, h⟩
theorem i8_32 {n : Int} (h : -128 ≤ n ∧ n ≤ 127) : (Int8.ofInt n).toInt32 = Int32.ofInt n := by
  apply Int32.toInt_inj.mp
  rw [Int8.toInt_toInt32, i32_to (by unfold inI; omega), Int8.toInt_ofInt]
  apply Int.bmod_eq_of_le <;> simp [Int8.size] <;> omega
theorem i16_32 {n : Int} (h : -32768 ≤ n ∧ n ≤ 32767) : (Int16.ofInt n).toInt32 = Int32.ofInt n := by
  apply Int32.toInt_inj.mp
  rw [Int16.toInt_toInt32, i32_to (by unfold inI; omega), Int16.toInt_ofInt]
  apply Int.bmod_eq_of_le <;> simp [Int16.size] <;> omega
theorem i64_to {a : Int} (h : inJ a) : (Int64.ofInt a).toInt = a := by
  rw [Int64.toInt_ofInt]
  obtain ⟨h1, h2⟩ := h
  apply Int.bmod_eq_of_le <;> simp [Int64.size] <;> omega
def xand (a b : Int) : Int := (Int32.ofInt a &&& Int32.ofInt b).toInt
def xor (a b : Int) : Int := (Int32.ofInt a ||| Int32.ofInt b).toInt
def xxor (a b : Int) : Int := (Int32.ofInt a ^^^ Int32.ofInt b).toInt
def xshl (a b : Int) : Int := (Int32.ofInt a <<< (Int32.ofInt b &&& 31)).toInt
def xshr (a b : Int) : Int := (Int32.ofInt a >>> (Int32.ofInt b &&& 31)).toInt
def xushr (a b : Int) : Int := ((Int32.ofInt a).toUInt32 >>> ((Int32.ofInt b).toUInt32 &&& Int32.toUInt32 31)).toInt32.toInt
theorem i32_div {a b : Int} (ha : inI a) (hb : inI b) (h0 : 0 ≤ a) (h1 : 0 < b) : Int32.ofInt a / Int32.ofInt b = Int32.ofInt (a / b) := by
  apply Int32.toInt_inj.mp
  have h3 : a / b ≤ a := Int.ediv_le_self b h0
  have h4 : 0 ≤ a / b := Int.ediv_nonneg h0 (by omega)
  have hq : inI (a / b) := by unfold inI at *; omega
  rw [Int32.toInt_div, i32_to ha, i32_to hb, i32_to hq, Int.tdiv_eq_ediv_of_nonneg h0]
  unfold inI at hq
  apply Int.bmod_eq_of_le <;> simp <;> omega
theorem i32_rem {a b : Int} (ha : inI a) (hb : inI b) (h0 : 0 ≤ a) (h1 : 0 < b) : Int32.ofInt a - Int32.ofInt a / Int32.ofInt b * Int32.ofInt b = Int32.ofInt (a % b) := by
  rw [i32_div ha hb h0 h1, ← Int32.ofInt_mul, ← Int32.ofInt_sub]
  congr 1
  have := Int.ediv_mul_add_emod a b
  omega
theorem i64_div {a b : Int} (ha : inJ a) (hb : inJ b) (h0 : 0 ≤ a) (h1 : 0 < b) : Int64.ofInt a / Int64.ofInt b = Int64.ofInt (a / b) := by
  apply Int64.toInt_inj.mp
  have h3 : a / b ≤ a := Int.ediv_le_self b h0
  have h4 : 0 ≤ a / b := Int.ediv_nonneg h0 (by omega)
  have hq : inJ (a / b) := by unfold inJ at *; omega
  rw [Int64.toInt_div, i64_to ha, i64_to hb, i64_to hq, Int.tdiv_eq_ediv_of_nonneg h0]
  unfold inJ at hq
  apply Int.bmod_eq_of_le <;> simp <;> omega
theorem i64_rem {a b : Int} (ha : inJ a) (hb : inJ b) (h0 : 0 ≤ a) (h1 : 0 < b) : Int64.ofInt a - Int64.ofInt a / Int64.ofInt b * Int64.ofInt b = Int64.ofInt (a % b) := by
  rw [i64_div ha hb h0 h1, ← Int64.ofInt_mul, ← Int64.ofInt_sub]
  congr 1
  have := Int.ediv_mul_add_emod a b
  omega
section RULES
variable {X : xC} {Post : xP} {k j n : Nat} {w : xW} {pc : Nat} {L : List (Option xV)} {st : List xV}

theorem ex_iconst {v : Int} (hd : decode X.1 pc = .ok (.iconst v, 1)) (hv : -32768 ≤ v ∧ v ≤ 32767) (kk : Ex X Post k j n w (pc + 1) L (xi v :: st)) : Ex X Post k j n w pc L (st) := by
  intro p l e R s m args below meth c H locs Q B D ls hC hR hk hS hL hst
  exact lv_iconst hC.1 hC.2.1 hd rfl (kk p l e R s m args below meth c H locs Q B D ls hC hR hk hS hL (hstc (by show inI v; unfold inI; omega) hst))

theorem ex_bipush {v : Int} (hd : decode X.1 pc = .ok (.bipush v, 2)) (hv : -128 ≤ v ∧ v ≤ 127) (kk : Ex X Post k j n w (pc + 2) L (xi v :: st)) : Ex X Post k j n w pc L (st) := by
  intro p l e R s m args below meth c H locs Q B D ls hC hR hk hS hL hst
  exact lv_bipush hC.1 hC.2.1 hd (i8_32 hv) (kk p l e R s m args below meth c H locs Q B D ls hC hR hk hS hL (hstc (by show inI v; unfold inI; omega) hst))

theorem ex_sipush {v : Int} (hd : decode X.1 pc = .ok (.sipush v, 3)) (hv : -32768 ≤ v ∧ v ≤ 32767) (kk : Ex X Post k j n w (pc + 3) L (xi v :: st)) : Ex X Post k j n w pc L (st) := by
  intro p l e R s m args below meth c H locs Q B D ls hC hR hk hS hL hst
  exact lv_sipush hC.1 hC.2.1 hd (i16_32 hv) (kk p l e R s m args below meth c H locs Q B D ls hC hR hk hS hL (hstc (by show inI v; unfold inI; omega) hst))

theorem ex_lconst1 (hd : decode X.1 pc = .ok (.lconst 1, 1)) (kk : Ex X Post k j n w (pc + 1) L (xl 1 :: st)) : Ex X Post k j n w pc L (st) := by
  intro p l e R s m args below meth c H locs Q B D ls hC hR hk hS hL hst
  exact lv_lconst hC.1 hC.2.1 hd (by decide) (kk p l e R s m args below meth c H locs Q B D ls hC hR hk hS hL (hstc (by show inJ 1; unfold inJ; omega) hst))

theorem ex_ldcw {idx : Nat} {v : Int} (hd : decode X.1 pc = .ok (.ldc_w idx, 3)) (hv : inI v) (hw : Cond.constant X.2.1 idx (Int32.ofInt v) ∈ xWS) (kk : Ex X Post k j n w (pc + 3) L (xi v :: st)) : Ex X Post k j n w pc L (st) := by
  intro p l e R s m args below meth c H locs Q B D ls hC hR hk hS hL hst
  exact lv_ldcw hC.1 hC.2.1 hC.2.2.1 (hC.2.2.2.1 _ hw) hd (kk p l e R s m args below meth c H locs Q B D ls hC hR hk hS hL (hstc hv hst))

theorem ex_ldc2 {idx : Nat} {v : Int} (hd : decode X.1 pc = .ok (.ldc2_w idx, 3)) (hv : inJ v) (hw : Cond.constantLong X.2.1 idx (Int64.ofInt v) ∈ xWS) (kk : Ex X Post k j n w (pc + 3) L (xl v :: st)) : Ex X Post k j n w pc L (st) := by
  intro p l e R s m args below meth c H locs Q B D ls hC hR hk hS hL hst
  exact lv_ldc2 hC.1 hC.2.1 hC.2.2.1 (hC.2.2.2.1 _ hw) hd (kk p l e R s m args below meth c H locs Q B D ls hC hR hk hS hL (hstc hv hst))

theorem ex_iload_n {i : Fin 4} {x : Int} (hd : decode X.1 pc = .ok (.iload_n i, 1)) (hl : L[(i : Nat)]? = some (some (xi x))) (kk : Ex X Post k j n w (pc + 1) L (xi x :: st)) : Ex X Post k j n w pc L (st) := by
  intro p l e R s m args below meth c H locs Q B D ls hC hR hk hS hL hst
  exact lv_iload_n hC.1 hC.2.1 hd rfl (hL.at hl) (kk p l e R s m args below meth c H locs Q B D ls hC hR hk hS hL (hstc (hL.inv hl) hst))

theorem ex_iload {i : Nat} {x : Int} (hd : decode X.1 pc = .ok (.iload i, 2)) (hl : L[i]? = some (some (xi x))) (kk : Ex X Post k j n w (pc + 2) L (xi x :: st)) : Ex X Post k j n w pc L (st) := by
  intro p l e R s m args below meth c H locs Q B D ls hC hR hk hS hL hst
  exact lv_iload hC.1 hC.2.1 hd (hL.at hl) (kk p l e R s m args below meth c H locs Q B D ls hC hR hk hS hL (hstc (hL.inv hl) hst))

theorem ex_lload_n {i : Fin 4} {x : Int} (hd : decode X.1 pc = .ok (.lload_n i, 1)) (hl : L[(i : Nat)]? = some (some (xl x))) (kk : Ex X Post k j n w (pc + 1) L (xl x :: st)) : Ex X Post k j n w pc L (st) := by
  intro p l e R s m args below meth c H locs Q B D ls hC hR hk hS hL hst
  exact lv_lload_n hC.1 hC.2.1 hd rfl (hL.at hl) (kk p l e R s m args below meth c H locs Q B D ls hC hR hk hS hL (hstc (hL.inv hl) hst))

theorem ex_lload {i : Nat} {x : Int} (hd : decode X.1 pc = .ok (.lload i, 2)) (hl : L[i]? = some (some (xl x))) (kk : Ex X Post k j n w (pc + 2) L (xl x :: st)) : Ex X Post k j n w pc L (st) := by
  intro p l e R s m args below meth c H locs Q B D ls hC hR hk hS hL hst
  exact lv_lload hC.1 hC.2.1 hd (hL.at hl) (kk p l e R s m args below meth c H locs Q B D ls hC hR hk hS hL (hstc (hL.inv hl) hst))

theorem ex_aload_n {i : Fin 4} {x : Nat} (hd : decode X.1 pc = .ok (.aload_n i, 1)) (hl : L[(i : Nat)]? = some (some (xr x))) (kk : Ex X Post k j n w (pc + 1) L (xr x :: st)) : Ex X Post k j n w pc L (st) := by
  intro p l e R s m args below meth c H locs Q B D ls hC hR hk hS hL hst
  exact lv_aload_n hC.1 hC.2.1 hd rfl (hL.at hl) (kk p l e R s m args below meth c H locs Q B D ls hC hR hk hS hL (hstc (hL.inv hl) hst))

theorem ex_aload {i : Nat} {x : Nat} (hd : decode X.1 pc = .ok (.aload i, 2)) (hl : L[i]? = some (some (xr x))) (kk : Ex X Post k j n w (pc + 2) L (xr x :: st)) : Ex X Post k j n w pc L (st) := by
  intro p l e R s m args below meth c H locs Q B D ls hC hR hk hS hL hst
  exact lv_aload hC.1 hC.2.1 hd (hL.at hl) (kk p l e R s m args below meth c H locs Q B D ls hC hR hk hS hL (hstc (hL.inv hl) hst))

theorem ex_aloado_n {i : Fin 4} {x : Nat} (hd : decode X.1 pc = .ok (.aload_n i, 1)) (hl : L[(i : Nat)]? = some (some (xo x))) (kk : Ex X Post k j n w (pc + 1) L (xo x :: st)) : Ex X Post k j n w pc L (st) := by
  intro p l e R s m args below meth c H locs Q B D ls hC hR hk hS hL hst
  exact lv_aload_n hC.1 hC.2.1 hd rfl (hL.at hl) (kk p l e R s m args below meth c H locs Q B D ls hC hR hk hS hL (hstc (hL.inv hl) hst))

theorem ex_aloado {i : Nat} {x : Nat} (hd : decode X.1 pc = .ok (.aload i, 2)) (hl : L[i]? = some (some (xo x))) (kk : Ex X Post k j n w (pc + 2) L (xo x :: st)) : Ex X Post k j n w pc L (st) := by
  intro p l e R s m args below meth c H locs Q B D ls hC hR hk hS hL hst
  exact lv_aload hC.1 hC.2.1 hd (hL.at hl) (kk p l e R s m args below meth c H locs Q B D ls hC hR hk hS hL (hstc (hL.inv hl) hst))

theorem ex_istore_n {i : Fin 4} {x : Int} {L2 : List (Option xV)} (hd : decode X.1 pc = .ok (.istore_n i, 1)) (hok : stOK L (i : Nat) = true) (hi : (i : Nat) < L.length) (hL2 : L.set (i : Nat) (some (xi x)) = L2) (kk : Ex X Post k j n w (pc + 1) L2 st) : Ex X Post k j n w pc L (xi x :: st) := by
  intro p l e R s m args below meth c H locs Q B D ls hC hR hk hS hL hst
  subst hL2
  exact lv_istore_n hC.1 hC.2.1 hd rfl hL.2.1 hi rfl (fun ls2 h2 => kk p l e R s m args below meth c H locs Q B D ls2 hC hR hk hS (hL.store hok hi (hst1 hst) h2) (hst2 hst))

theorem ex_istore {i : Nat} {x : Int} {L2 : List (Option xV)} (hd : decode X.1 pc = .ok (.istore i, 2)) (hok : stOK L i = true) (hi : i < L.length) (hL2 : L.set i (some (xi x)) = L2) (kk : Ex X Post k j n w (pc + 2) L2 st) : Ex X Post k j n w pc L (xi x :: st) := by
  intro p l e R s m args below meth c H locs Q B D ls hC hR hk hS hL hst
  subst hL2
  exact lv_istore hC.1 hC.2.1 hd hL.2.1 hi rfl (fun ls2 h2 => kk p l e R s m args below meth c H locs Q B D ls2 hC hR hk hS (hL.store hok hi (hst1 hst) h2) (hst2 hst))

theorem ex_astore_n {i : Fin 4} {x : Nat} {L2 : List (Option xV)} (hd : decode X.1 pc = .ok (.astore_n i, 1)) (hok : stOK L (i : Nat) = true) (hi : (i : Nat) < L.length) (hL2 : L.set (i : Nat) (some (xr x)) = L2) (kk : Ex X Post k j n w (pc + 1) L2 st) : Ex X Post k j n w pc L (xr x :: st) := by
  intro p l e R s m args below meth c H locs Q B D ls hC hR hk hS hL hst
  subst hL2
  exact lv_astore_n hC.1 hC.2.1 hd rfl hL.2.1 hi rfl (fun ls2 h2 => kk p l e R s m args below meth c H locs Q B D ls2 hC hR hk hS (hL.store hok hi (hst1 hst) h2) (hst2 hst))

theorem ex_astore {i : Nat} {x : Nat} {L2 : List (Option xV)} (hd : decode X.1 pc = .ok (.astore i, 2)) (hok : stOK L i = true) (hi : i < L.length) (hL2 : L.set i (some (xr x)) = L2) (kk : Ex X Post k j n w (pc + 2) L2 st) : Ex X Post k j n w pc L (xr x :: st) := by
  intro p l e R s m args below meth c H locs Q B D ls hC hR hk hS hL hst
  subst hL2
  exact lv_astore hC.1 hC.2.1 hd hL.2.1 hi rfl (fun ls2 h2 => kk p l e R s m args below meth c H locs Q B D ls2 hC hR hk hS (hL.store hok hi (hst1 hst) h2) (hst2 hst))

theorem ex_lstore_n {i : Fin 4} {x : Int} {L2 : List (Option xV)} (hd : decode X.1 pc = .ok (.lstore_n i, 1)) (hok : stOK L (i : Nat) = true) (hi : (i : Nat) + 1 < L.length) (hL2 : (L.set (i : Nat) (some (xl x))).set ((i : Nat) + 1) none = L2) (kk : Ex X Post k j n w (pc + 1) L2 st) : Ex X Post k j n w pc L (xl x :: st) := by
  intro p l e R s m args below meth c H locs Q B D ls hC hR hk hS hL hst
  subst hL2
  exact lv_lstore_n hC.1 hC.2.1 hd rfl hL.2.1 hi rfl (fun ls2 h2 => kk p l e R s m args below meth c H locs Q B D ls2 hC hR hk hS (hL.store2 hok hi (hst1 hst) h2) (hst2 hst))

theorem ex_lstore {i : Nat} {x : Int} {L2 : List (Option xV)} (hd : decode X.1 pc = .ok (.lstore i, 2)) (hok : stOK L i = true) (hi : i + 1 < L.length) (hL2 : (L.set i (some (xl x))).set (i + 1) none = L2) (kk : Ex X Post k j n w (pc + 2) L2 st) : Ex X Post k j n w pc L (xl x :: st) := by
  intro p l e R s m args below meth c H locs Q B D ls hC hR hk hS hL hst
  subst hL2
  exact lv_lstore hC.1 hC.2.1 hd hL.2.1 hi rfl (fun ls2 h2 => kk p l e R s m args below meth c H locs Q B D ls2 hC hR hk hS (hL.store2 hok hi (hst1 hst) h2) (hst2 hst))

theorem ex_iinc {i : Nat} {d x : Int} {L2 : List (Option xV)} (hd : decode X.1 pc = .ok (.iinc i d, 3)) (hl : L[i]? = some (some (xi x))) (hok : stOK L i = true) (hi : i < L.length) (hr : inI (x + d)) (hL2 : L.set i (some (xi (x + d))) = L2) (kk : Ex X Post k j n w (pc + 3) L2 st) : Ex X Post k j n w pc L st := by
  intro p l e R s m args below meth c H locs Q B D ls hC hR hk hS hL hst
  subst hL2
  obtain ⟨q, -, hq⟩ : ∃ q, True ∧ (prL B L)[q]? = some (i, Value.int (Int32.ofInt x)) := by
    obtain ⟨q, hq⟩ := List.mem_iff_getElem?.mp (mem_prL.mpr ⟨xi x, hl, rfl⟩ : (i, rv B (xi x)) ∈ prL B L)
    exact ⟨q, trivial, hq⟩
  exact lv_iinc (v := Int32.ofInt (x + d)) hC.1 hC.2.1 hd hL.2.1 hq (by rw [Int32.ofInt_add]) hi rfl (fun ls2 h2 => kk p l e R s m args below meth c H locs Q B D ls2 hC hR hk hS (hL.store hok hi hr h2) hst)

theorem ex_iadd {a b : Int} (hd : decode X.1 pc = .ok (.iadd, 1)) (hr : inI (a + b)) (kk : Ex X Post k j n w (pc + 1) L (xi (a + b) :: st)) : Ex X Post k j n w pc L (xi b :: xi a :: st) := by
  intro p l e R s m args below meth c H locs Q B D ls hC hR hk hS hL hst
  refine lv_iadd hC.1 hC.2.1 hd ?_
  rw [← Int32.ofInt_add]
  exact kk p l e R s m args below meth c H locs Q B D ls hC hR hk hS hL (hstc hr (hst2 (hst2 hst)))

theorem ex_isub {a b : Int} (hd : decode X.1 pc = .ok (.isub, 1)) (hr : inI (a - b)) (kk : Ex X Post k j n w (pc + 1) L (xi (a - b) :: st)) : Ex X Post k j n w pc L (xi b :: xi a :: st) := by
  intro p l e R s m args below meth c H locs Q B D ls hC hR hk hS hL hst
  refine lv_isub hC.1 hC.2.1 hd ?_
  rw [← Int32.ofInt_sub]
  exact kk p l e R s m args below meth c H locs Q B D ls hC hR hk hS hL (hstc hr (hst2 (hst2 hst)))

theorem ex_imul {a b : Int} (hd : decode X.1 pc = .ok (.imul, 1)) (hr : inI (a * b)) (kk : Ex X Post k j n w (pc + 1) L (xi (a * b) :: st)) : Ex X Post k j n w pc L (xi b :: xi a :: st) := by
  intro p l e R s m args below meth c H locs Q B D ls hC hR hk hS hL hst
  refine lv_imul hC.1 hC.2.1 hd ?_
  rw [← Int32.ofInt_mul]
  exact kk p l e R s m args below meth c H locs Q B D ls hC hR hk hS hL (hstc hr (hst2 (hst2 hst)))

theorem ex_ladd {a b : Int} (hd : decode X.1 pc = .ok (.ladd, 1)) (hr : inJ (a + b)) (kk : Ex X Post k j n w (pc + 1) L (xl (a + b) :: st)) : Ex X Post k j n w pc L (xl b :: xl a :: st) := by
  intro p l e R s m args below meth c H locs Q B D ls hC hR hk hS hL hst
  refine lv_ladd hC.1 hC.2.1 hd ?_
  rw [← Int64.ofInt_add]
  exact kk p l e R s m args below meth c H locs Q B D ls hC hR hk hS hL (hstc hr (hst2 (hst2 hst)))

theorem ex_lmul {a b : Int} (hd : decode X.1 pc = .ok (.lmul, 1)) (hr : inJ (a * b)) (kk : Ex X Post k j n w (pc + 1) L (xl (a * b) :: st)) : Ex X Post k j n w pc L (xl b :: xl a :: st) := by
  intro p l e R s m args below meth c H locs Q B D ls hC hR hk hS hL hst
  refine lv_lmul hC.1 hC.2.1 hd ?_
  rw [← Int64.ofInt_mul]
  exact kk p l e R s m args below meth c H locs Q B D ls hC hR hk hS hL (hstc hr (hst2 (hst2 hst)))

theorem ex_ineg {a : Int} (hd : decode X.1 pc = .ok (.ineg, 1)) (hr : inI (-a)) (kk : Ex X Post k j n w (pc + 1) L (xi (-a) :: st)) : Ex X Post k j n w pc L (xi a :: st) := by
  intro p l e R s m args below meth c H locs Q B D ls hC hR hk hS hL hst
  refine lv_ineg hC.1 hC.2.1 hd ?_
  rw [← Int32.ofInt_neg]
  exact kk p l e R s m args below meth c H locs Q B D ls hC hR hk hS hL (hstc hr (hst2 hst))

theorem ex_idiv {a b : Int} (hd : decode X.1 pc = .ok (.idiv, 1)) (h0 : 0 ≤ a) (h1 : 0 < b) (kk : Ex X Post k j n w (pc + 1) L (xi (a / b) :: st)) : Ex X Post k j n w pc L (xi b :: xi a :: st) := by
  intro p l e R s m args below meth c H locs Q B D ls hC hR hk hS hL hst
  refine lv_idiv hC.1 hC.2.1 hd (fun h => by have h2 : Int32.ofInt b = Int32.ofInt 0 := h; rw [i32_eq (hst1 hst) (by unfold inI; omega)] at h2; omega) ?_
  rw [i32_div (hst1 (hst2 hst)) (hst1 hst) h0 h1]
  have hr : inI (a / b) := by
    have h3 : a / b ≤ a := Int.ediv_le_self b h0
    have h4 : 0 ≤ a / b := Int.ediv_nonneg h0 (by omega)
    have h5 : inI a := hst1 (hst2 hst)
    unfold inI at *; omega
  exact kk p l e R s m args below meth c H locs Q B D ls hC hR hk hS hL (hstc hr (hst2 (hst2 hst)))

theorem ex_irem {a b : Int} (hd : decode X.1 pc = .ok (.irem, 1)) (h0 : 0 ≤ a) (h1 : 0 < b) (kk : Ex X Post k j n w (pc + 1) L (xi (a % b) :: st)) : Ex X Post k j n w pc L (xi b :: xi a :: st) := by
  intro p l e R s m args below meth c H locs Q B D ls hC hR hk hS hL hst
  refine lv_irem hC.1 hC.2.1 hd (fun h => by have h2 : Int32.ofInt b = Int32.ofInt 0 := h; rw [i32_eq (hst1 hst) (by unfold inI; omega)] at h2; omega) ?_
  rw [i32_rem (hst1 (hst2 hst)) (hst1 hst) h0 h1]
  have hr : inI (a % b) := by
    have h3 := Int.emod_lt_of_pos a h1
    have h4 := Int.emod_nonneg a (show b ≠ 0 by omega)
    have h5 : inI b := hst1 hst
    unfold inI at *; omega
  exact kk p l e R s m args below meth c H locs Q B D ls hC hR hk hS hL (hstc hr (hst2 (hst2 hst)))

theorem ex_iremT {a b : Int} (hd : decode X.1 pc = .ok (.irem, 1)) (h1 : 0 < b) (kk : Ex X Post k j n w (pc + 1) L (xi (Int.tmod a b) :: st)) : Ex X Post k j n w pc L (xi b :: xi a :: st) := by
  intro p l e R s m args below meth c H locs Q B D ls hC hR hk hS hL hst
  refine lv_irem hC.1 hC.2.1 hd (fun h => by have h2 : Int32.ofInt b = Int32.ofInt 0 := h; rw [i32_eq (hst1 hst) (by unfold inI; omega)] at h2; omega) ?_
  have ha : inI a := hst1 (hst2 hst)
  have hb : inI b := hst1 hst
  have h5 : (Int.tmod a b) = a - Int.tdiv a b * b := by have := Int.tdiv_mul_add_tmod a b; omega
  have h6 : Int.tmod a b < b := Int.tmod_lt_of_pos a h1
  have h7 : -b < Int.tmod a b := by
    rcases Int.le_total 0 a with q | q
    · have := Int.tmod_nonneg b q
      omega
    · have h8 := Int.tmod_lt_of_pos (-a) h1
      rw [Int.neg_tmod] at h8
      omega
  have hr : inI (Int.tmod a b) := by unfold inI at *; omega
  have hq : inI (Int.tdiv a b) := by
    have := Int.natAbs_tdiv_le_natAbs a b
    unfold inI at *
    by_cases h8 : b = 1
    · subst h8; rw [Int.tdiv_one]; exact ha
    · have h9 : (Int.tdiv a b).natAbs < a.natAbs ∨ a = 0 := by
        by_cases h0 : a = 0
        · exact Or.inr h0
        · left
          rw [Int.natAbs_tdiv]
          exact Nat.div_lt_self (by omega) (by omega)
      rcases h9 with h9 | h9
      · omega
      · subst h9; simp
  have e1 : Int32.ofInt a / Int32.ofInt b = Int32.ofInt (Int.tdiv a b) := by
    apply Int32.toInt_inj.mp
    rw [Int32.toInt_div, i32_to ha, i32_to hb, i32_to hq]
    unfold inI at hq
    apply Int.bmod_eq_of_le <;> simp <;> omega
  rw [e1, ← Int32.ofInt_mul, ← Int32.ofInt_sub, ← h5]
  exact kk p l e R s m args below meth c H locs Q B D ls hC hR hk hS hL (hstc hr (hst2 (hst2 hst)))

theorem ex_lrem {a b : Int} (hd : decode X.1 pc = .ok (.lrem, 1)) (h0 : 0 ≤ a) (h1 : 0 < b) (kk : Ex X Post k j n w (pc + 1) L (xl (a % b) :: st)) : Ex X Post k j n w pc L (xl b :: xl a :: st) := by
  intro p l e R s m args below meth c H locs Q B D ls hC hR hk hS hL hst
  refine lv_lrem hC.1 hC.2.1 hd (fun h => by have h3 : (Int64.ofInt b).toInt = (Int64.ofInt 0).toInt := congrArg Int64.toInt h; rw [i64_to (hst1 hst), i64_to (by unfold inJ; omega)] at h3; omega) ?_
  rw [i64_rem (hst1 (hst2 hst)) (hst1 hst) h0 h1]
  have hr : inJ (a % b) := by
    have h3 := Int.emod_lt_of_pos a h1
    have h4 := Int.emod_nonneg a (show b ≠ 0 by omega)
    have h5 : inJ b := hst1 hst
    unfold inJ at *; omega
  exact kk p l e R s m args below meth c H locs Q B D ls hC hR hk hS hL (hstc hr (hst2 (hst2 hst)))

theorem ex_iand {a b : Int} (hd : decode X.1 pc = .ok (.iand, 1)) (kk : Ex X Post k j n w (pc + 1) L (xi (xand a b) :: st)) : Ex X Post k j n w pc L (xi b :: xi a :: st) := by
  intro p l e R s m args below meth c H locs Q B D ls hC hR hk hS hL hst
  refine lv_iand hC.1 hC.2.1 hd ?_
  have h9 := kk p l e R s m args below meth c H locs Q B D ls hC hR hk hS hL (hstc (i32_r _) (hst2 (hst2 hst)))
  have e9 : rv B (xi (xand a b)) = _ := congrArg Value.int (i32_back _)
  rw [List.map_cons, e9] at h9
  exact h9

theorem ex_ior {a b : Int} (hd : decode X.1 pc = .ok (.ior, 1)) (kk : Ex X Post k j n w (pc + 1) L (xi (xor a b) :: st)) : Ex X Post k j n w pc L (xi b :: xi a :: st) := by
  intro p l e R s m args below meth c H locs Q B D ls hC hR hk hS hL hst
  refine lv_ior hC.1 hC.2.1 hd ?_
  have h9 := kk p l e R s m args below meth c H locs Q B D ls hC hR hk hS hL (hstc (i32_r _) (hst2 (hst2 hst)))
  have e9 : rv B (xi (xor a b)) = _ := congrArg Value.int (i32_back _)
  rw [List.map_cons, e9] at h9
  exact h9

theorem ex_ixor {a b : Int} (hd : decode X.1 pc = .ok (.ixor, 1)) (kk : Ex X Post k j n w (pc + 1) L (xi (xxor a b) :: st)) : Ex X Post k j n w pc L (xi b :: xi a :: st) := by
  intro p l e R s m args below meth c H locs Q B D ls hC hR hk hS hL hst
  refine lv_ixor hC.1 hC.2.1 hd ?_
  have h9 := kk p l e R s m args below meth c H locs Q B D ls hC hR hk hS hL (hstc (i32_r _) (hst2 (hst2 hst)))
  have e9 : rv B (xi (xxor a b)) = _ := congrArg Value.int (i32_back _)
  rw [List.map_cons, e9] at h9
  exact h9

theorem ex_ishl {a b : Int} (hd : decode X.1 pc = .ok (.ishl, 1)) (kk : Ex X Post k j n w (pc + 1) L (xi (xshl a b) :: st)) : Ex X Post k j n w pc L (xi b :: xi a :: st) := by
  intro p l e R s m args below meth c H locs Q B D ls hC hR hk hS hL hst
  refine lv_ishl hC.1 hC.2.1 hd ?_
  have h9 := kk p l e R s m args below meth c H locs Q B D ls hC hR hk hS hL (hstc (i32_r _) (hst2 (hst2 hst)))
  have e9 : rv B (xi (xshl a b)) = _ := congrArg Value.int (i32_back _)
  rw [List.map_cons, e9] at h9
  exact h9

theorem ex_ishr {a b : Int} (hd : decode X.1 pc = .ok (.ishr, 1)) (kk : Ex X Post k j n w (pc + 1) L (xi (xshr a b) :: st)) : Ex X Post k j n w pc L (xi b :: xi a :: st) := by
  intro p l e R s m args below meth c H locs Q B D ls hC hR hk hS hL hst
  refine lv_ishr hC.1 hC.2.1 hd ?_
  have h9 := kk p l e R s m args below meth c H locs Q B D ls hC hR hk hS hL (hstc (i32_r _) (hst2 (hst2 hst)))
  have e9 : rv B (xi (xshr a b)) = _ := congrArg Value.int (i32_back _)
  rw [List.map_cons, e9] at h9
  exact h9

theorem ex_iushr {a b : Int} (hd : decode X.1 pc = .ok (.iushr, 1)) (kk : Ex X Post k j n w (pc + 1) L (xi (xushr a b) :: st)) : Ex X Post k j n w pc L (xi b :: xi a :: st) := by
  intro p l e R s m args below meth c H locs Q B D ls hC hR hk hS hL hst
  exact lv_iushr hC.1 hC.2.1 hd (i32_back _).symm (kk p l e R s m args below meth c H locs Q B D ls hC hR hk hS hL (hstc (i32_r _) (hst2 (hst2 hst))))

theorem ex_i2l {a : Int} (hd : decode X.1 pc = .ok (.i2l, 1)) (kk : Ex X Post k j n w (pc + 1) L (xl a :: st)) : Ex X Post k j n w pc L (xi a :: st) := by
  intro p l e R s m args below meth c H locs Q B D ls hC hR hk hS hL hst
  have h5 : inI a := hst1 hst
  have h6 : inJ a := by unfold inI at h5; unfold inJ; omega
  exact lv_i2l hC.1 hC.2.1 hd (by apply Int64.toInt_inj.mp; rw [Int32.toInt_toInt64, i32_to h5, i64_to h6]) (kk p l e R s m args below meth c H locs Q B D ls hC hR hk hS hL (hstc h6 (hst2 hst)))

theorem ex_l2i {a : Int} (hd : decode X.1 pc = .ok (.l2i, 1)) (hr : inI a) (kk : Ex X Post k j n w (pc + 1) L (xi a :: st)) : Ex X Post k j n w pc L (xl a :: st) := by
  intro p l e R s m args below meth c H locs Q B D ls hC hR hk hS hL hst
  exact lv_l2i hC.1 hC.2.1 hd (by apply Int32.toInt_inj.mp; rw [Int64.toInt_toInt32, i32_to hr, i64_to (hst1 hst)]; unfold inI at hr; apply Int.bmod_eq_of_le <;> simp <;> omega) (kk p l e R s m args below meth c H locs Q B D ls hC hR hk hS hL (hstc hr (hst2 hst)))

theorem ex_dup {v : xV} (hd : decode X.1 pc = .ok (.dup, 1)) (hc : xcat v = 1) (kk : Ex X Post k j n w (pc + 1) L (v :: v :: st)) : Ex X Post k j n w pc L (v :: st) := by
  intro p l e R s m args below meth c H locs Q B D ls hC hR hk hS hL hst
  exact lv_dup hC.1 hC.2.1 hd (by rw [rv_cat]; exact hc) (kk p l e R s m args below meth c H locs Q B D ls hC hR hk hS hL (hstc (hst1 hst) hst))

theorem ex_pop {v : xV} (hd : decode X.1 pc = .ok (.pop, 1)) (hc : xcat v = 1) (kk : Ex X Post k j n w (pc + 1) L (st)) : Ex X Post k j n w pc L (v :: st) := by
  intro p l e R s m args below meth c H locs Q B D ls hC hR hk hS hL hst
  exact lv_pop hC.1 hC.2.1 hd (by rw [rv_cat]; exact hc) (kk p l e R s m args below meth c H locs Q B D ls hC hR hk hS hL (hst2 hst))

theorem ex_dup2 {v u : xV} (hd : decode X.1 pc = .ok (.dup2, 1)) (hc : xcat v = 1) (hc2 : xcat u = 1) (kk : Ex X Post k j n w (pc + 1) L (v :: u :: v :: u :: st)) : Ex X Post k j n w pc L (v :: u :: st) := by
  intro p l e R s m args below meth c H locs Q B D ls hC hR hk hS hL hst
  exact lv_dup2_11 hC.1 hC.2.1 hd (by rw [rv_cat]; exact hc) (by rw [rv_cat]; exact hc2) (kk p l e R s m args below meth c H locs Q B D ls hC hR hk hS hL (hstc (hst1 hst) (hstc (hst1 (hst2 hst)) hst)))

theorem ex_if_eq {a : Int} {off : Int} {tgt : Nat} (hd : decode X.1 pc = .ok (.ifCond .eq off, 3)) (ht : (pc : Int) + off = (tgt : Int)) (kt : a = 0 → Ex X Post k j n w tgt L st) (kf : ¬ (a = 0) → Ex X Post k j n w (pc + 3) L st) : Ex X Post k j n w pc L (xi a :: st) := by
  intro p l e R s m args below meth c H locs Q B D ls hC hR hk hS hL hst
  have hi := i32_eq (hst1 hst) (show inI 0 by unfold inI; omega)
  exact lv_if_eq hC.1 hC.2.1 hd ht (fun h => kt (hi.mp h) p l e R s m args below meth c H locs Q B D ls hC hR hk hS hL (hst2 hst)) (fun h => kf (fun q => h (hi.mpr q)) p l e R s m args below meth c H locs Q B D ls hC hR hk hS hL (hst2 hst))

theorem ex_if_ne {a : Int} {off : Int} {tgt : Nat} (hd : decode X.1 pc = .ok (.ifCond .ne off, 3)) (ht : (pc : Int) + off = (tgt : Int)) (kt : ¬ a = 0 → Ex X Post k j n w tgt L st) (kf : a = 0 → Ex X Post k j n w (pc + 3) L st) : Ex X Post k j n w pc L (xi a :: st) := by
  intro p l e R s m args below meth c H locs Q B D ls hC hR hk hS hL hst
  have hi := i32_eq (hst1 hst) (show inI 0 by unfold inI; omega)
  exact lv_if_ne hC.1 hC.2.1 hd ht (fun h => kt (fun q => h (hi.mpr q)) p l e R s m args below meth c H locs Q B D ls hC hR hk hS hL (hst2 hst)) (fun h => kf (hi.mp h) p l e R s m args below meth c H locs Q B D ls hC hR hk hS hL (hst2 hst))

theorem ex_if_lt {a : Int} {off : Int} {tgt : Nat} (hd : decode X.1 pc = .ok (.ifCond .lt off, 3)) (ht : (pc : Int) + off = (tgt : Int)) (kt : a < 0 → Ex X Post k j n w tgt L st) (kf : ¬ (a < 0) → Ex X Post k j n w (pc + 3) L st) : Ex X Post k j n w pc L (xi a :: st) := by
  intro p l e R s m args below meth c H locs Q B D ls hC hR hk hS hL hst
  have hi := i32_lt (hst1 hst) (show inI 0 by unfold inI; omega)
  exact lv_if_lt hC.1 hC.2.1 hd ht (fun h => kt (hi.mp h) p l e R s m args below meth c H locs Q B D ls hC hR hk hS hL (hst2 hst)) (fun h => kf (fun q => h (hi.mpr q)) p l e R s m args below meth c H locs Q B D ls hC hR hk hS hL (hst2 hst))

theorem ex_if_ge {a : Int} {off : Int} {tgt : Nat} (hd : decode X.1 pc = .ok (.ifCond .ge off, 3)) (ht : (pc : Int) + off = (tgt : Int)) (kt : 0 ≤ a → Ex X Post k j n w tgt L st) (kf : ¬ (0 ≤ a) → Ex X Post k j n w (pc + 3) L st) : Ex X Post k j n w pc L (xi a :: st) := by
  intro p l e R s m args below meth c H locs Q B D ls hC hR hk hS hL hst
  have hi := i32_le (show inI 0 by unfold inI; omega) (hst1 hst)
  exact lv_if_ge hC.1 hC.2.1 hd ht (fun h => kt (hi.mp h) p l e R s m args below meth c H locs Q B D ls hC hR hk hS hL (hst2 hst)) (fun h => kf (fun q => h (hi.mpr q)) p l e R s m args below meth c H locs Q B D ls hC hR hk hS hL (hst2 hst))

theorem ex_if_gt {a : Int} {off : Int} {tgt : Nat} (hd : decode X.1 pc = .ok (.ifCond .gt off, 3)) (ht : (pc : Int) + off = (tgt : Int)) (kt : 0 < a → Ex X Post k j n w tgt L st) (kf : ¬ (0 < a) → Ex X Post k j n w (pc + 3) L st) : Ex X Post k j n w pc L (xi a :: st) := by
  intro p l e R s m args below meth c H locs Q B D ls hC hR hk hS hL hst
  have hi := i32_lt (show inI 0 by unfold inI; omega) (hst1 hst)
  exact lv_if_gt hC.1 hC.2.1 hd ht (fun h => kt (hi.mp h) p l e R s m args below meth c H locs Q B D ls hC hR hk hS hL (hst2 hst)) (fun h => kf (fun q => h (hi.mpr q)) p l e R s m args below meth c H locs Q B D ls hC hR hk hS hL (hst2 hst))

theorem ex_if_le {a : Int} {off : Int} {tgt : Nat} (hd : decode X.1 pc = .ok (.ifCond .le off, 3)) (ht : (pc : Int) + off = (tgt : Int)) (kt : a ≤ 0 → Ex X Post k j n w tgt L st) (kf : ¬ (a ≤ 0) → Ex X Post k j n w (pc + 3) L st) : Ex X Post k j n w pc L (xi a :: st) := by
  intro p l e R s m args below meth c H locs Q B D ls hC hR hk hS hL hst
  have hi := i32_le (hst1 hst) (show inI 0 by unfold inI; omega)
  exact lv_if_le hC.1 hC.2.1 hd ht (fun h => kt (hi.mp h) p l e R s m args below meth c H locs Q B D ls hC hR hk hS hL (hst2 hst)) (fun h => kf (fun q => h (hi.mpr q)) p l e R s m args below meth c H locs Q B D ls hC hR hk hS hL (hst2 hst))

theorem ex_icmp_eq {a b : Int} {off : Int} {tgt : Nat} (hd : decode X.1 pc = .ok (.if_icmp .eq off, 3)) (ht : (pc : Int) + off = (tgt : Int)) (kt : a = b → Ex X Post k j n w tgt L st) (kf : ¬ (a = b) → Ex X Post k j n w (pc + 3) L st) : Ex X Post k j n w pc L (xi b :: xi a :: st) := by
  intro p l e R s m args below meth c H locs Q B D ls hC hR hk hS hL hst
  have hi := i32_eq (hst1 (hst2 hst)) (hst1 hst)
  exact lv_icmp_eq hC.1 hC.2.1 hd ht (fun h => kt (hi.mp h) p l e R s m args below meth c H locs Q B D ls hC hR hk hS hL (hst2 (hst2 hst))) (fun h => kf (fun q => h (hi.mpr q)) p l e R s m args below meth c H locs Q B D ls hC hR hk hS hL (hst2 (hst2 hst)))

theorem ex_icmp_ne {a b : Int} {off : Int} {tgt : Nat} (hd : decode X.1 pc = .ok (.if_icmp .ne off, 3)) (ht : (pc : Int) + off = (tgt : Int)) (kt : ¬ a = b → Ex X Post k j n w tgt L st) (kf : a = b → Ex X Post k j n w (pc + 3) L st) : Ex X Post k j n w pc L (xi b :: xi a :: st) := by
  intro p l e R s m args below meth c H locs Q B D ls hC hR hk hS hL hst
  have hi := i32_eq (hst1 (hst2 hst)) (hst1 hst)
  exact lv_icmp_ne hC.1 hC.2.1 hd ht (fun h => kt (fun q => h (hi.mpr q)) p l e R s m args below meth c H locs Q B D ls hC hR hk hS hL (hst2 (hst2 hst))) (fun h => kf (hi.mp h) p l e R s m args below meth c H locs Q B D ls hC hR hk hS hL (hst2 (hst2 hst)))

theorem ex_icmp_lt {a b : Int} {off : Int} {tgt : Nat} (hd : decode X.1 pc = .ok (.if_icmp .lt off, 3)) (ht : (pc : Int) + off = (tgt : Int)) (kt : a < b → Ex X Post k j n w tgt L st) (kf : ¬ (a < b) → Ex X Post k j n w (pc + 3) L st) : Ex X Post k j n w pc L (xi b :: xi a :: st) := by
  intro p l e R s m args below meth c H locs Q B D ls hC hR hk hS hL hst
  have hi := i32_lt (hst1 (hst2 hst)) (hst1 hst)
  exact lv_icmp_lt hC.1 hC.2.1 hd ht (fun h => kt (hi.mp h) p l e R s m args below meth c H locs Q B D ls hC hR hk hS hL (hst2 (hst2 hst))) (fun h => kf (fun q => h (hi.mpr q)) p l e R s m args below meth c H locs Q B D ls hC hR hk hS hL (hst2 (hst2 hst)))

theorem ex_icmp_ge {a b : Int} {off : Int} {tgt : Nat} (hd : decode X.1 pc = .ok (.if_icmp .ge off, 3)) (ht : (pc : Int) + off = (tgt : Int)) (kt : b ≤ a → Ex X Post k j n w tgt L st) (kf : ¬ (b ≤ a) → Ex X Post k j n w (pc + 3) L st) : Ex X Post k j n w pc L (xi b :: xi a :: st) := by
  intro p l e R s m args below meth c H locs Q B D ls hC hR hk hS hL hst
  have hi := i32_le (hst1 hst) (hst1 (hst2 hst))
  exact lv_icmp_ge hC.1 hC.2.1 hd ht (fun h => kt (hi.mp h) p l e R s m args below meth c H locs Q B D ls hC hR hk hS hL (hst2 (hst2 hst))) (fun h => kf (fun q => h (hi.mpr q)) p l e R s m args below meth c H locs Q B D ls hC hR hk hS hL (hst2 (hst2 hst)))

theorem ex_icmp_gt {a b : Int} {off : Int} {tgt : Nat} (hd : decode X.1 pc = .ok (.if_icmp .gt off, 3)) (ht : (pc : Int) + off = (tgt : Int)) (kt : b < a → Ex X Post k j n w tgt L st) (kf : ¬ (b < a) → Ex X Post k j n w (pc + 3) L st) : Ex X Post k j n w pc L (xi b :: xi a :: st) := by
  intro p l e R s m args below meth c H locs Q B D ls hC hR hk hS hL hst
  have hi := i32_lt (hst1 hst) (hst1 (hst2 hst))
  exact lv_icmp_gt hC.1 hC.2.1 hd ht (fun h => kt (hi.mp h) p l e R s m args below meth c H locs Q B D ls hC hR hk hS hL (hst2 (hst2 hst))) (fun h => kf (fun q => h (hi.mpr q)) p l e R s m args below meth c H locs Q B D ls hC hR hk hS hL (hst2 (hst2 hst)))

theorem ex_icmp_le {a b : Int} {off : Int} {tgt : Nat} (hd : decode X.1 pc = .ok (.if_icmp .le off, 3)) (ht : (pc : Int) + off = (tgt : Int)) (kt : a ≤ b → Ex X Post k j n w tgt L st) (kf : ¬ (a ≤ b) → Ex X Post k j n w (pc + 3) L st) : Ex X Post k j n w pc L (xi b :: xi a :: st) := by
  intro p l e R s m args below meth c H locs Q B D ls hC hR hk hS hL hst
  have hi := i32_le (hst1 (hst2 hst)) (hst1 hst)
  exact lv_icmp_le hC.1 hC.2.1 hd ht (fun h => kt (hi.mp h) p l e R s m args below meth c H locs Q B D ls hC hR hk hS hL (hst2 (hst2 hst))) (fun h => kf (fun q => h (hi.mpr q)) p l e R s m args below meth c H locs Q B D ls hC hR hk hS hL (hst2 (hst2 hst)))

theorem ex_goto {off : Int} {tgt : Nat} (hd : decode X.1 pc = .ok (.goto off, 3)) (ht : (pc : Int) + off = (tgt : Int)) (kk : Ex X Post k j n w tgt L st) : Ex X Post k j n w pc L st := by
  intro p l e R s m args below meth c H locs Q B D ls hC hR hk hS hL hst
  exact lv_goto hC.1 hC.2.1 hd ht (kk p l e R s m args below meth c H locs Q B D ls hC hR hk hS hL hst)

theorem ex_tableIn {dflt lo hi : Int} {offs : Array Int} {len : Nat} {a off : Int} {tgt : Nat} (hd : decode X.1 pc = .ok (.tableswitch dflt lo hi offs, len)) (h1 : lo ≤ a) (h2 : a ≤ hi) (ho : offs[(a - lo).toNat]? = some off) (ht : (pc : Int) + off = (tgt : Int)) (kk : Ex X Post k j n w tgt L st) : Ex X Post k j n w pc L (xi a :: st) := by
  intro p l e R s m args below meth c H locs Q B D ls hC hR hk hS hL hst
  have e9 := i32_to (hst1 hst)
  exact lv_tableIn hC.1 hC.2.1 hd (by rw [e9]; omega) (by rw [e9]; omega) (by rw [e9]; exact ho) ht (kk p l e R s m args below meth c H locs Q B D ls hC hR hk hS hL (hst2 hst))
theorem ex_tableOut {dflt lo hi : Int} {offs : Array Int} {len : Nat} {a : Int} {tgt : Nat} (hd : decode X.1 pc = .ok (.tableswitch dflt lo hi offs, len)) (h : a < lo ∨ hi < a) (ht : (pc : Int) + dflt = (tgt : Int)) (kk : Ex X Post k j n w tgt L st) : Ex X Post k j n w pc L (xi a :: st) := by
  intro p l e R s m args below meth c H locs Q B D ls hC hR hk hS hL hst
  have e9 := i32_to (hst1 hst)
  exact lv_tableOut hC.1 hC.2.1 hd (by rw [e9]; exact h) ht (kk p l e R s m args below meth c H locs Q B D ls hC hR hk hS hL (hst2 hst))
end RULES
