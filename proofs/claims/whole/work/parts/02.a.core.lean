/-! ===== a small machine of whole numbers over the kit's rows: values, cells, worlds ===== -/
abbrev xV : Type := Int ⊕ (Option Nat ⊕ (Int ⊕ Nat))
abbrev xi (i : Int) : xV := .inl i
abbrev xr (k : Nat) : xV := .inr (.inl (some k))
abbrev xn : xV := .inr (.inl none)
abbrev xl (j : Int) : xV := .inr (.inr (.inl j))
abbrev xo (a : Nat) : xV := .inr (.inr (.inr a))
def rv (B : Nat) (v : xV) : Value := match v with
  | .inl i => .int (Int32.ofInt i)
  | .inr (.inl none) => .null
  | .inr (.inl (some k)) => .ref (B + k)
  | .inr (.inr (.inl j)) => .long (Int64.ofInt j)
  | .inr (.inr (.inr a)) => .ref a
def xcat (v : xV) : Nat := match v with
  | .inr (.inr (.inl _)) => 2
  | _ => 1
theorem rv_cat (B : Nat) (v : xV) : (rv B v).category = xcat v := by
  rcases v with i | (_ | k) | j | a <;> rfl
def inI (i : Int) : Prop := -2147483648 ≤ i ∧ i ≤ 2147483647
def inJ (i : Int) : Prop := -9223372036854775808 ≤ i ∧ i ≤ 9223372036854775807
def inV (v : xV) : Prop := match v with
  | .inl i => inI i
  | .inr (.inr (.inl j)) => inJ j
  | _ => True
abbrev xE : Type := (Nat × ((Nat → Int) ⊕ (Nat → Option Nat))) ⊕ (Nat × List xV)
abbrev xA (n : Nat) (f : Nat → Int) : xE := .inl (n, .inl f)
abbrev xQ (n : Nat) (g : Nat → Option Nat) : xE := .inl (n, .inr g)
abbrev xO (ci : Nat) (fs : List xV) : xE := .inr (ci, fs)
abbrev xW : Type := Nat → xE
def rE (B : Nat) (cA : ClassId) (e : xE) : va_E := match e with
  | .inl (n, .inl f) => .inl (cA, n, .inl (fun j => Int32.ofInt (f j)))
  | .inl (n, .inr g) => .inl (cA, n, .inr (.inr (.inr (.inr (fun j => (g j).map (fun k => B + k))))))
  | .inr (ci, fs) => .inr (ci, fs.map (rv B))
def wsOf (B : Nat) (ka : Nat → ClassId) (n : Nat) (w : xW) : va_W := (List.range n).map (fun k => (B + k, rE B (ka k) (w k)))
def eOK (s : State) (cA : ClassId) (e : xE) : Prop := match e with
  | .inl (_, .inl f) => (ArrOfT s cA .int ∧ va_RA s cA .int) ∧ ∀ j, inI (f j)
  | .inl (_, .inr _) => ArrOfT s cA (.object RX2) ∧ va_RA s cA (.object RX2)
  | .inr (_, fs) => ∀ v ∈ fs, inV v
def xZ : xE := xO 99 []
def Rel (B : Nat) (D : va_G) (s : State) (n : Nat) (w : xW) (H : Heap) : Prop :=
  (∀ k, n ≤ k → w k = xZ) ∧ ∃ ka : Nat → ClassId, va_P D vwCl (wsOf B ka n w) H ∧ ∀ k, k < n → eOK s (ka k) (w k)
theorem wsOf_get {B : Nat} {ka : Nat → ClassId} {n : Nat} {w : xW} {k : Nat} (h : k < n) : (wsOf B ka n w)[k]? = some (B + k, rE B (ka k) (w k)) := by
  unfold wsOf
  rw [List.getElem?_map, List.getElem?_range h]
  rfl
theorem wsOf_len {B : Nat} {ka : Nat → ClassId} {n : Nat} {w : xW} : (wsOf B ka n w).length = n := by simp [wsOf]
theorem wsOf_at {B : Nat} {ka : Nat → ClassId} {n : Nat} {w : xW} {k : Nat} {q : Nat × va_E} (h : (wsOf B ka n w)[k]? = some q) : k < n ∧ q = (B + k, rE B (ka k) (w k)) := by
  have hk : k < n := by
    have := (List.getElem?_eq_some_iff.mp h).1
    rwa [wsOf_len] at this
  rw [wsOf_get hk] at h
  exact ⟨hk, (Option.some.inj h).symm⟩
theorem wsOf_D {B : Nat} {ka : Nat → ClassId} {n : Nat} {w : xW} : va_D (fun q => B ≤ q) (wsOf B ka n w) := by
  refine ⟨fun i j p q h1 h2 e => ?_, fun k q h => ?_⟩
  · obtain ⟨-, rfl⟩ := wsOf_at h1
    obtain ⟨-, rfl⟩ := wsOf_at h2
    have e : B + i = B + j := e
    omega
  · obtain ⟨-, rfl⟩ := wsOf_at h
    show B ≤ B + k
    omega
theorem wsOf_set {B : Nat} {ka : Nat → ClassId} {n : Nat} {w : xW} {k : Nat} {e : xE} (h : k < n) : (wsOf B ka n w).set k (B + k, rE B (ka k) e) = wsOf B ka n (va_up w k e) := by
  apply List.ext_getElem?
  intro i
  by_cases hi : i < n
  · rw [wsOf_get hi, List.getElem?_set]
    by_cases hk : k = i
    · subst hk
      rw [if_pos rfl, if_pos (by rw [wsOf_len]; exact h)]
      simp [va_up]
    · rw [if_neg hk, wsOf_get hi]
      simp [va_up, Ne.symm hk]
  · rw [List.getElem?_eq_none (by rw [List.length_set, wsOf_len]; omega), List.getElem?_eq_none (by rw [wsOf_len]; omega)]
theorem Rel.lt {B : Nat} {D : va_G} {s : State} {n : Nat} {w : xW} {H : Heap} (h : Rel B D s n w H) {k : Nat} (hk : w k ≠ xZ) : k < n := by
  rcases Nat.lt_or_ge k n with q | q
  · exact q
  · exact absurd (h.1 k q) hk
theorem eOK.moved {u U : State} (hvm : u.vm.Alike U.vm) {cA : ClassId} {e : xE} (h : eOK u cA e) : eOK U cA e := by
  rcases e with ⟨n, f | g⟩ | ⟨ci, fs⟩
  · exact ⟨⟨arrOfT_moved hvm h.1.1, h.1.2.moved hvm⟩, h.2⟩
  · exact ⟨arrOfT_moved hvm h.1, h.2.moved hvm⟩
  · exact h
theorem Rel.moved {B : Nat} {D : va_G} {s U : State} (hvm : s.vm.Alike U.vm) {n : Nat} {w : xW} {H : Heap} (h : Rel B D s n w H) : Rel B D U n w H := by
  obtain ⟨h2, ka, h3, h4⟩ := h
  exact ⟨h2, ka, h3, fun k hk => (h4 k hk).moved hvm⟩
theorem Rel.inA {B : Nat} {D : va_G} {s : State} {n : Nat} {w : xW} {H : Heap} (h : Rel B D s n w H) {r N : Nat} {f : Nat → Int} (hw : w r = xA N f) : ∀ j, inI (f j) := by
  have hr : r < n := h.lt (by rw [hw]; intro q; cases q)
  obtain ⟨-, ka, -, h4⟩ := h
  have := h4 r hr
  rw [hw] at this
  exact this.2
theorem Rel.inO {B : Nat} {D : va_G} {s : State} {n : Nat} {w : xW} {H : Heap} (h : Rel B D s n w H) {r ci : Nat} {fs : List xV} (hw : w r = xO ci fs) (hne : ci ≠ 99) : ∀ v ∈ fs, inV v := by
  have hr : r < n := h.lt (by rw [hw]; intro q; cases q; exact hne rfl)
  obtain ⟨-, ka, -, h4⟩ := h
  have := h4 r hr
  rw [hw] at this
  exact this
/-- how large the heap is -/
theorem Rel.size {B : Nat} {D : va_G} {u : State} {n : Nat} {w : xW} {H : Heap} (h : Rel B D u n w H) {p : Program} {l : Launch} {e : Env} {R : Room} {s : State} {m : MethodId} {args : Array Value} {below : List Frame} {meth : Method} {c : Code} {T : State} {locs : List Loc} {k j : Nat} (hB : B ≤ s.heap.size) (hk : s.heap.size + k = B + n) (X : Stand p l e R s m args below meth c T locs k j) (hT : T.heap = H) : H.size = B + n := by
  have h1 : T.heap.size ≤ s.heap.size + k := X.same.2.2.1
  have h0 : s.heap.size ≤ T.heap.size := X.same.2.1
  rw [hT] at h1 h0
  obtain ⟨-, ka, hP, -⟩ := h
  rcases Nat.eq_zero_or_pos n with q | q
  · omega
  · have h2 := (hP (n - 1) _ (wsOf_get (by omega))).lt
    have h3 : B + (n - 1) < H.size := h2
    omega
/-- a cell is given another content of its kind -/
theorem Rel.set {B : Nat} {D : va_G} {s : State} {n : Nat} {w : xW} {H1 : Heap} {ka : Nat → ClassId} {k : Nat} {e : xE} (hk : k < n) (hw : ∀ i, n ≤ i → w i = xZ) (hP : va_P D vwCl ((wsOf B ka n w).set k (B + k, rE B (ka k) e)) H1) (h4 : ∀ i, i < n → eOK s (ka i) (w i)) (he : eOK s (ka k) e) : Rel B D s n (va_up w k e) H1 := by
  rw [wsOf_set hk] at hP
  refine ⟨fun i hi => ?_, ka, hP, fun i hi => ?_⟩
  · have : i ≠ k := by omega
    simp [va_up, this]
    exact hw i hi
  · by_cases q : i = k
    · subst q; simpa [va_up] using he
    · simpa [va_up, q] using h4 i hi
/-! ===== locals ===== -/
def prL (B : Nat) (L : List (Option xV)) : List (Nat × Value) := (List.range L.length).filterMap (fun i => (L[i]?.join).map (fun v => (i, rv B v)))
theorem mem_prL {B : Nat} {L : List (Option xV)} {i : Nat} {x : Value} : (i, x) ∈ prL B L ↔ ∃ v, L[i]? = some (some v) ∧ x = rv B v := by
  unfold prL
  rw [List.mem_filterMap]
  constructor
  · rintro ⟨a, -, h⟩
    obtain ⟨v, h1, h2⟩ := Option.map_eq_some_iff.mp h
    cases h2
    exact ⟨v, by rw [Option.join_eq_some_iff] at h1; exact h1, rfl⟩
  · rintro ⟨v, h1, rfl⟩
    refine ⟨i, List.mem_range.mpr ((List.getElem?_eq_some_iff.mp h1).1), ?_⟩
    rw [h1]; rfl
def hasL (B : Nat) (c : Code) (ls : Array Slot) (L : List (Option xV)) : Prop := ls.size = c.maxLocals ∧ lv_has ls L.length (prL B L) ∧ ∀ v, some v ∈ L → inV v
theorem hasL.at {B : Nat} {c : Code} {ls : Array Slot} {L : List (Option xV)} (h : hasL B c ls L) {i : Nat} {v : xV} (hi : L[i]? = some (some v)) : ls[i]? = some (.val (rv B v)) := h.2.1.2.2 (i, rv B v) (mem_prL.mpr ⟨v, hi, rfl⟩)
theorem hasL.inv {B : Nat} {c : Code} {ls : Array Slot} {L : List (Option xV)} (h : hasL B c ls L) {i : Nat} {v : xV} (hi : L[i]? = some (some v)) : inV v := h.2.2 v (List.mem_of_getElem? hi)
def stOK (L : List (Option xV)) (i : Nat) : Bool := match i with
  | 0 => true
  | i + 1 => match L[i]? with
    | some (some v) => xcat v == 1
    | _ => true
theorem stOK_ne {L : List (Option xV)} {i i2 : Nat} {v : xV} (h : stOK L i = true) (hi : i2 + 1 = i) (hv : L[i2]? = some (some v)) : xcat v = 1 := by
  subst hi
  simp only [stOK, hv] at h
  simpa using h
theorem hasL.store {B : Nat} {c : Code} {ls ls' : Array Slot} {L : List (Option xV)} {i : Nat} {v : xV} (h : hasL B c ls L) (hok : stOK L i = true) (hi : i < L.length) (hv : inV v)
    (h' : lv_has ls' L.length ((i, rv B v) :: (prL B L).filter (fun q => !(q.1 == i) && !(q.1 + 1 == i && q.2.category == 2)))) : hasL B c ls' (L.set i (some v)) := by
  refine ⟨?_, ⟨by rw [List.length_set]; exact h'.1, h'.2.1, ?_⟩, ?_⟩
  · rw [h'.1, ← h.2.1.1]; exact h.1
  · rintro ⟨i2, x⟩ hq
    obtain ⟨v2, h1, rfl⟩ := mem_prL.mp hq
    rw [List.getElem?_set] at h1
    by_cases e : i = i2
    · subst e
      rw [if_pos rfl, if_pos hi] at h1
      cases h1
      exact h'.2.2 _ List.mem_cons_self
    · rw [if_neg e] at h1
      refine h'.2.2 _ (List.mem_cons_of_mem _ (List.mem_filter.mpr ⟨mem_prL.mpr ⟨v2, h1, rfl⟩, ?_⟩))
      have e2 : ¬ i2 = i := fun q => e q.symm
      by_cases e3 : i2 + 1 = i
      · have := stOK_ne hok e3 h1
        simp [e2, rv_cat, this]
      · simp [e2, e3]
  · intro v2 h2
    rcases List.mem_or_eq_of_mem_set h2 with q | q
    · exact h.2.2 v2 q
    · cases q; exact hv
theorem hasL.store2 {B : Nat} {c : Code} {ls ls' : Array Slot} {L : List (Option xV)} {i : Nat} {v : xV} (h : hasL B c ls L) (hok : stOK L i = true) (hi : i + 1 < L.length) (hv : inV v)
    (h' : lv_has ls' L.length ((i, rv B v) :: (prL B L).filter (fun q => !(q.1 == i) && (!(q.1 == i + 1) && !(q.1 + 1 == i && q.2.category == 2))))) : hasL B c ls' ((L.set i (some v)).set (i + 1) none) := by
  refine ⟨?_, ⟨by rw [List.length_set, List.length_set]; exact h'.1, h'.2.1, ?_⟩, ?_⟩
  · rw [h'.1, ← h.2.1.1]; exact h.1
  · rintro ⟨i2, x⟩ hq
    obtain ⟨v2, h1, rfl⟩ := mem_prL.mp hq
    rw [List.getElem?_set] at h1
    by_cases e0 : i + 1 = i2
    · subst e0
      rw [if_pos rfl] at h1
      split at h1 <;> cases h1
    rw [if_neg e0, List.getElem?_set] at h1
    by_cases e : i = i2
    · subst e
      rw [if_pos rfl, if_pos (by omega)] at h1
      cases h1
      exact h'.2.2 _ List.mem_cons_self
    · rw [if_neg e] at h1
      refine h'.2.2 _ (List.mem_cons_of_mem _ (List.mem_filter.mpr ⟨mem_prL.mpr ⟨v2, h1, rfl⟩, ?_⟩))
      have e2 : ¬ i2 = i := fun q => e q.symm
      have e4 : ¬ i2 = i + 1 := fun q => e0 q.symm
      by_cases e3 : i2 + 1 = i
      · have := stOK_ne hok e3 h1
        simp [e2, e4, rv_cat, this]
      · simp [e2, e3, e4]
  · intro v2 h2
    rcases List.mem_or_eq_of_mem_set h2 with q | q
    · rcases List.mem_or_eq_of_mem_set q with q | q
      · exact h.2.2 v2 q
      · cases q; exact hv
    · cases q
/-! ===== words ===== -/
def xWS : List Cond := lw_tbl.filter goodWord
theorem xws {i : Nat} {w : Cond} (h : lw_tbl[i]? = some w) (hg : goodWord w = true) : w ∈ xWS := List.mem_filter.mpr ⟨List.mem_of_getElem? h, hg⟩
def fOK (own : String) (idx ci q : Nat) : Prop := ∃ (C : String) (T : u_T) (N : Nat), vwCl[ci]? = some (C, T, N) ∧ q < N ∧ (T q).1 = C ∧ ((Cond.fieldLink own idx C (T q).2.1 (T q).2.2.1 ∈ xWS) ∨ ∃ host, Cond.fieldLinkNest own idx C (T q).2.1 (T q).2.2.1 host ∈ lw_tbl)
def lkOK (own : String) (idx : Nat) (y : MethodName) : Prop := Cond.methodLink own idx y ∈ xWS ∨ ∃ host, Cond.methodLinkNest own idx y host ∈ lw_tbl
def yOK (y : MethodName) (cc : ByteArray) (nL : Nat) (ret : Option FieldType) (np : Nat) : Prop := Cond.code y cc nL ret ∈ xWS ∧ Cond.initialized y.cls ∈ xWS ∧ plainFor y = true ∧ (y.cls ≠ "java/lang/invoke/MethodHandle" ∧ y.cls ≠ "java/lang/invoke/VarHandle" ∧ (parseMethodDescriptor y.desc).map (fun d => d.parameters.length) = some np)
def vOK (y : MethodName) : Prop := Cond.instanceMethod y ∈ xWS ∧ Cond.selects y.cls y y ∈ xWS
def nOK (y : MethodName) : Prop := y.name = "<init>" ∧ Cond.instanceMethod y ∈ xWS
/-! ===== numbers ===== -/
theorem i32_to {a : Int} (h : inI a) : (Int32.ofInt a).toInt = a := by
  rw [Int32.toInt_ofInt]
  obtain ⟨h1, h2⟩ := h
  apply Int.bmod_eq_of_le <;> simp [Int32.size] <;> omega
theorem i32_eq {a b : Int} (ha : inI a) (hb : inI b) : Int32.ofInt a = Int32.ofInt b ↔ a = b := by
  constructor
  · intro h
    rw [← i32_to ha, ← i32_to hb, h]
  · rintro rfl; rfl
theorem i32_lt {a b : Int} (ha : inI a) (hb : inI b) : Int32.ofInt a < Int32.ofInt b ↔ a < b := by
  rw [Int32.lt_iff_toInt_lt, i32_to ha, i32_to hb]
theorem i32_le {a b : Int} (ha : inI a) (hb : inI b) : Int32.ofInt a ≤ Int32.ofInt b ↔ a ≤ b := by
  rw [Int32.le_iff_toInt_le, i32_to ha, i32_to hb]
theorem i32_nat {a : Int} (ha : inI a) (h0 : 0 ≤ a) : (Int32.ofInt a).toNatClampNeg = a.toNat := by
  show (Int32.ofInt a).toInt.toNat = _
  rw [i32_to ha]
theorem i32_in {a : Int} {n : Nat} (ha : inI a) (h0 : 0 ≤ a) (h1 : a < n) : vp_in (Int32.ofInt a) n := by
  rw [vp_in_iff, i32_to ha]
  exact ⟨h0, h1⟩
theorem i32_back (x : Int32) : Int32.ofInt x.toInt = x := Int32.ofInt_toInt x
theorem i32_r (x : Int32) : inI x.toInt := ⟨Int32.le_toInt x, by have := Int32.toInt_lt x; omega⟩
theorem i32_as {a : Int} {x : Int32} (h : x.toInt = a) : x = Int32.ofInt a := by rw [← h, i32_back]
