/-! ===== new cells ===== -/
theorem Rel.push {B : Nat} {D : va_G} {s : State} {n : Nat} {w : xW} {H H1 : Heap} (h : Rel B D s n w H) {cA : ClassId} {e : xE} (o1 : ∀ q, q < B + n → H1[q]? = H[q]?) (hat : va_at D vwCl (B + n, rE B cA e) H1) (he : eOK s cA e) : Rel B D s (n + 1) (va_up w n e) H1 := by
  obtain ⟨h2, ka, hP, h4⟩ := h
  refine ⟨fun i hi => ?_, va_up ka n cA, fun i q hq => ?_, fun i hi => ?_⟩
  · have : i ≠ n := by omega
    simp only [va_up, this, if_false]
    exact h2 i (by omega)
  · obtain ⟨hi, rfl⟩ := wsOf_at hq
    by_cases e1 : i = n
    · subst e1
      simp only [va_up, if_true]
      exact hat
    · simp only [va_up, e1, if_false]
      exact (hP i _ (wsOf_get (by omega))).kept (o1 _ (by show B + i < B + n; omega))
  · by_cases e1 : i = n
    · subst e1; simpa [va_up] using he
    · simp only [va_up, e1, if_false]; exact h4 i (by omega)
theorem xS.push {B : Nat} {s : State} {H H1 : Heap} {locs : List Loc} {n : Nat} (hS : xS B s H locs) (hz : H.size = B + n) (hB : B ≤ s.heap.size) (z1 : H1.size = B + n + 1) (o1 : ∀ q, q < B + n → H1[q]? = H[q]?) : xS B s H1 locs := by
  refine ⟨Nat.le_trans hS.1 (by omega), fun q h1 h2 => ?_, hS.2.2⟩
  have h3 : ¬ B ≤ q := h2
  rw [o1 q (by omega)]
  exact hS.2.1 q h1 h2
def isDef (v : xV) : Bool := match v with
  | .inl _ => true
  | .inr (.inl none) => true
  | _ => false
theorem rv_def {B : Nat} {v : xV} (h : isDef v = true) : rv B v = rv 0 v := by
  rcases v with i | (_ | k) | j | a
  · rfl
  · rfl
  · cases h
  · cases h
  · cases h
theorem W.ofSize {B : Nat} {D : va_G} {u : State} {n : Nat} {w : xW} {H : Heap} {p : Program} {l : Launch} {e : Env} {R : Room} {s : State} {m : MethodId} {args : Array Value} {below : List Frame} {meth : Method} {c : Code} {locs : List Loc} {k j : Nat} {Q : State → Prop} {g : JFrame} (hR : Rel B D u n w H) (hB : B ≤ s.heap.size) (hk : s.heap.size + k = B + n) (h : H.size = B + n → W p l e R s m args below meth c H locs k j Q g) : W p l e R s m args below meth c H locs k j Q g := fun T hT X0 => h (hR.size hB hk X0 hT) T hT X0
section RULES
variable {X : xC} {Post : xP} {k j n : Nat} {w : xW} {pc : Nat} {L : List (Option xV)} {st : List xV}
theorem ex_newarr {a : Int} {N : Nat} (hd : decode X.1 pc = .ok (.newarray .int, 2)) (ha : a = (N : Int)) (hN : N ≤ 100000) (hc : k + 1 ≤ X.2.2.2.2.1) (hs : j + N ≤ X.2.2.2.2.2.1) (kk : Ex X Post (k + 1) (j + N) (n + 1) (va_up w n (xA N (fun _ => 0))) (pc + 2) L (xr n :: st)) : Ex X Post k j n w pc L (xi a :: st) := by
  intro p l e R s m args below meth c H locs Q B D ls hC hR hk hS hL hst
  subst ha
  refine W.ofSize hR hC.2.2.2.2.2.2.2.2.2.1 hk (fun hz => ?_)
  have hi : inI (N : Int) := hst1 hst
  refine va_newaK (atype := .int) (n := Int32.ofInt (N : Int)) (N := N) (h := B + n) (rest := st.map (rv B)) hC.1 hC.2.1 (hC.2.2.2.1 _ w_arrI) rfl hd rfl (by show ¬ Int32.ofInt (N : Int) < Int32.ofInt 0; rw [i32_lt hi (by unfold inI; omega)]; omega) (by rw [i32_nat hi (by omega)]; simp) (by show N * 4 ≤ _; omega) (by have := hC.2.2.2.2.2.2.2.1.2.2.1; omega) (by have := hC.2.2.2.2.2.2.2.1.2.2.2; omega) hz (fun H1 cA e1 z1 o1 hAr hNm => ?_)
  refine kk p l e R s m args below meth c H1 locs Q B D ls hC (hR.push (cA := cA) o1 ?_ ⟨⟨hAr, hNm⟩, fun _ => by show inI 0; unfold inI; omega⟩) (by omega) (hS.push hz hC.2.2.2.2.2.2.2.2.2.1 z1 o1) hL (hstc (show inV (xr n) from trivial) (hst2 hst))
  exact e1
theorem ex_new {idx ci N : Nat} {C : String} {T0 : u_T} {fs : List xV} (ty : Nat → FieldType) (hd : decode X.1 pc = .ok (.new idx, 3)) (hcl : Cond.classLink X.2.1 idx C ∈ xWS) (hin : Cond.instantiable C N ∈ xWS) (hini : Cond.initialized C ∈ xWS) (hci : vwCl[ci]? = some (C, T0, N)) (hty : ∀ k, k < N → parseFieldDescriptor (T0 k).2.2.1 = some (ty k)) (hfs : fs.all isDef = true) (hz0 : ∀ v ∈ fs, inV v) (hfv : ∀ q, q < N → defaultValue (ty q) = vp_V (fs.map (rv 0)) q) (hc : k + 1 ≤ X.2.2.2.2.1) (hs : j + N ≤ X.2.2.2.2.2.1) (kk : Ex X Post (k + 1) (j + N) (n + 1) (va_up w n (xO ci fs)) (pc + 3) L (xr n :: st)) : Ex X Post k j n w pc L st := by
  intro p l e R s m args below meth c H locs Q B D ls hC hR hk hS hL hst
  refine W.ofSize hR hC.2.2.2.2.2.2.2.2.2.1 hk (fun hz => ?_)
  have hKn := hC.2.2.2.2.1.1 ci _ hci
  obtain ⟨ty0, hin0, -, -⟩ := cl_all hci
  refine W.newcK (h := B + n) hC.1 hC.2.1 hC.2.2.1 (hC.2.2.2.1 _ hcl) (hC.2.2.2.1 _ hin) (hC.2.2.2.1 _ hini) rfl hd (by have := hC.2.2.2.2.2.2.2.1.2.2.1; omega) (by have := hC.2.2.2.2.2.2.2.1.2.2.2; omega) hKn.2.1 hz (fun H1 kC hkC e1 z1 o1 => ?_)
  have em : fs.map (rv B) = fs.map (rv 0) := List.map_congr_left (fun v hv => rv_def (List.all_eq_true.mp hfs v hv))
  refine kk p l e R s m args below meth c H1 locs Q B D ls hC (hR.push (cA := 0) o1 ?_ hz0) (by omega) (hS.push hz hC.2.2.2.2.2.2.2.2.2.1 z1 o1) hL (hstc (show inV (xr n) from trivial) hst)
  refine ⟨_, hci, (u_born ty hC.2.2.2.1 hin0 hKn hkC e1 hty).to (fun q hq => ?_)⟩
  show _ = vp_V (fs.map (rv B)) q
  rw [em]
  exact hfv q hq
theorem ex_anew {idx : Nat} {a : Int} {N : Nat} (hd : decode X.1 pc = .ok (.anewarray idx, 3)) (hcl : Cond.classLink X.2.1 idx RX2 ∈ xWS) (ha : a = (N : Int)) (hN : N ≤ 100000) (hc : k + 1 ≤ X.2.2.2.2.1) (hs : j + N ≤ X.2.2.2.2.2.1) (kk : Ex X Post (k + 1) (j + N) (n + 1) (va_up w n (xQ N (fun _ => none))) (pc + 3) L (xr n :: st)) : Ex X Post k j n w pc L (xi a :: st) := by
  intro p l e R s m args below meth c H locs Q B D ls hC hR hk hS hL hst
  subst ha
  refine W.ofSize hR hC.2.2.2.2.2.2.2.2.2.1 hk (fun hz => ?_)
  have hi : inI (N : Int) := hst1 hst
  have hn9 : (Int32.ofInt (N : Int)).toNatClampNeg = N := by rw [i32_nat hi (by omega)]; simp
  refine W.anew (rest := st.map (rv B)) (n := Int32.ofInt (N : Int)) hC.1 hC.2.1 hC.2.2.1 (hC.2.2.2.1 _ hcl) (va_AO.use hC.2.2.2.2.2.2.1) rfl hd rfl (by show ¬ Int32.ofInt (N : Int) < Int32.ofInt 0; rw [i32_lt hi (by unfold inI; omega)]; omega) (by rw [hn9]; omega) (by have := hC.2.2.2.2.2.2.2.1.2.2.1; omega) (by rw [hn9]; have := hC.2.2.2.2.2.2.2.1.2.2.2; omega) (fun cA kA comp f1 f2 f3 f4 => ?_)
  generalize hH1 : H.push ({ cls := cA, slots := Array.replicate (Int32.ofInt (N : Int)).toNatClampNeg .null, vm := .none } : Cell) = H1
  have z1 : H1.size = B + n + 1 := by rw [← hH1, Array.size_push, hz]
  have e1 : H1[B + n]? = some (arrV cA N (fun _ => .null)) := by rw [← hH1, ← hz, Array.getElem?_push_size, ← arrV_new, hn9]
  have o1 : ∀ q : Nat, q < B + n → H1[q]? = H[q]? := fun q hq => by rw [← hH1, Array.getElem?_push, if_neg (by omega)]
  have hAr : ArrOfT s cA (.object RX2) := fun N z => ⟨(fun k h => by cases h), kA, f2, comp, f3⟩
  rw [hn9, hz]
  refine kk p l e R s m args below meth c H1 locs Q B D ls hC (hR.push (cA := cA) o1 ?_ ⟨hAr, kA, comp, f2, f3, f4, f1⟩) (by omega) (hS.push hz hC.2.2.2.2.2.2.2.2.2.1 z1 o1) hL (hstc (show inV (xr n) from trivial) (hst2 hst))
  exact e1
theorem ex_objInit {idx r : Nat} (hd : decode X.1 pc = .ok (.invokespecial idx, 3)) (hlk : lkOK X.2.1 idx objectInit) (hnn : ∀ host, Cond.methodLinkNest X.2.1 idx objectInit host ∉ lw_tbl) (hfr : 1 ≤ X.2.2.1) (hlo : (st.map xcat).sum + 12 ≤ X.2.2.2.1) (kk : Ex X Post k j n w (pc + 3) L st) : Ex X Post k j n w pc L (xr r :: st) := by
  intro p l e R s m args below meth c H locs Q B D ls hC hR hk hS hL hst
  have hl : Cond.methodLink X.2.1 idx objectInit ∈ xWS := by
    rcases hlk with h | ⟨host, h⟩
    · exact h
    · exact absurd h (hnn host)
  have hcs : ((st.map (rv B)).map fun v => v.category).sum = (st.map xcat).sum := by
    rw [List.map_map]
    congr 1
    exact List.map_congr_left (fun v _ => rv_cat B v)
  refine W.objInit hC.1 hC.2.1 hC.2.2.1 (hC.2.2.2.1 _ hl) (hC.2.2.2.1 _ w_oin) (hC.2.2.2.1 _ w_oco) rfl hL.1 rfl hd (by have := hC.2.2.2.2.2.2.2.1.1; omega) (by show 2 * 0 + _ + 12 ≤ _; rw [hcs]; have := hC.2.2.2.2.2.2.2.1.2.1; omega) ?_
  exact kk p l e R s m args below meth c H locs Q B D ls hC hR hk hS hL (hst2 hst)
end RULES

/-! ===== contracts ===== -/
def Pre (B : Nat) (D : va_G) (as : List xV) (n : Nat) (w : xW) (U : State) : Prop := va_K D vwCl [] U ∧ (∀ w ∈ lw_tbl, isNest w = true → va_Nw w U) ∧ va_AO RX2 U ∧ Rel B D U n w U.heap ∧ U.heap.size = B + n ∧ ∀ x ∈ as, inV x
def Qx (B : Nat) (D : va_G) (n : Nat) (Post : xP) : Array Value → State → Outcome → State → Prop := fun _ st oc t => ∃ (v : Option xV) (w : xW), oc = .returned (v.map (rv B)) ∧ Post v w ∧ (∀ x, v = some x → inV x) ∧ Rel B D t n w t.heap ∧ st.heap.size ≤ t.heap.size ∧ ∀ q, q < B → t.heap[q]? = st.heap[q]?
def Ctr (X : xC) (as : List xV) (n : Nat) (w : xW) (Post : xP) : Prop := ∀ (l : Launch) (B : Nat) (D : va_G), Met l X.2.2.2.2.2.2.2.1 (Cond.code X.2.2.2.2.2.2.2.1 X.1 X.2.2.2.2.2.2.2.2.1 X.2.2.2.2.2.2.2.2.2 :: xWS) ({ frames := X.2.2.1, cells := X.2.2.2.2.1, slots := X.2.2.2.2.2.1, locals := X.2.2.2.1 }) (va_Pc (as.map (rv B)) (Pre B D as n w)) (Qx B D (n + X.2.2.2.2.1) Post) X.2.2.2.2.1 X.2.2.2.2.2.1 (fun q => B ≤ q)
def mkC (y : MethodName) (cc : ByteArray) (nL : Nat) (ret : Option FieldType) (fr lo mc ms : Nat) : xC := (cc, y.cls, fr, lo, mc, ms, y.name == "<init>", y, nL, ret)
def okRet (ret : Option FieldType) (v : Option xV) : Prop := match ret, v with
  | none, none => True
  | some .int, some (.inl _) => True
  | some .boolean, some (.inl i) => i = 0 ∨ i = 1
  | some (.object _), some (.inr (.inl (some _))) => True
  | _, _ => False
def inW (w : xW) : Prop := ∀ r, (∀ N f, w r = xA N f → ∀ j, inI (f j)) ∧ (∀ ci fs, w r = xO ci fs → ∀ v ∈ fs, inV v)
theorem Rel.inW {B : Nat} {D : va_G} {s : State} {n : Nat} {w : xW} {H : Heap} (h : Rel B D s n w H) : inW w := by
  refine fun r => ⟨fun N f hw => h.inA hw, fun ci fs hw => ?_⟩
  by_cases e : ci = 99
  · subst e
    rcases Nat.lt_or_ge r n with q | q
    · obtain ⟨-, ka, -, h4⟩ := h
      have := h4 r q
      rw [hw] at this
      exact this
    · have := h.1 r q
      rw [hw] at this
      cases this
      intro v hv; cases hv
  · exact h.inO hw e
theorem entry_args (B : Nat) (as : List xV) (hc : ∀ x ∈ as, xcat x = 1) : ∀ (i : Nat) (q : Nat) (v : xV), as[q]? = some v → (i + q, rv B v) ∈ lv_args i (as.map (rv B)) := by
  induction as with
  | nil => intro i q v h; simp at h
  | cons a as ih =>
    intro i q v h
    have h1 : ¬ (rv B a).category = 2 := by rw [rv_cat, hc a List.mem_cons_self]; decide
    simp only [List.map_cons, lv_args, if_neg h1]
    match q, h with
    | 0, h => cases h; exact List.mem_cons_self
    | q + 1, h =>
      refine List.mem_cons_of_mem _ ?_
      have := ih (fun x hx => hc x (List.mem_cons_of_mem _ hx)) (i + 1) q v (by simpa using h)
      rwa [show i + (q + 1) = i + 1 + q by omega]
theorem lg_len (B : Nat) (as : List xV) (hc : ∀ x ∈ as, xcat x = 1) : (lg_sl (as.map (rv B))).length = as.length := by
  induction as with
  | nil => rfl
  | cons a as ih =>
    have h1 : ¬ (rv B a).category = 2 := by rw [rv_cat, hc a List.mem_cons_self]; decide
    have := ih (fun x hx => hc x (List.mem_cons_of_mem _ hx))
    simp only [lg_sl, List.map_cons, List.flatMap_cons, if_neg h1, List.length_append, List.length_cons, List.length_nil] at this ⊢
    omega
def ent (nL : Nat) (as : List xV) : List (Option xV) := as.map some ++ List.replicate (nL - as.length) none
theorem ent_get {nL : Nat} {as : List xV} {i : Nat} {v : xV} (h : (ent nL as)[i]? = some (some v)) : as[i]? = some v := by
  unfold ent at h
  by_cases q : i < as.length
  · rw [List.getElem?_append_left (by simpa using q), List.getElem?_map] at h
    obtain ⟨a, h1, h2⟩ := Option.map_eq_some_iff.mp h
    cases h2; exact h1
  · rw [List.getElem?_append_right (by simpa using q)] at h
    have := List.mem_of_getElem? h
    have := (List.mem_replicate.mp this).2
    cases this
set_option maxHeartbeats 1000000 in
/-- a contract out of a walk -/
theorem Ctr.of {y : MethodName} {cc : ByteArray} {nL : Nat} {ret : Option FieldType} {np fr lo mc ms : Nat} {as : List xV} {n : Nat} {w : xW} {Post : xP} (hy : yOK y cc nL ret np) (hcat : as.all (fun x => xcat x == 1) = true) (hlen : as.length ≤ nL) (hP : ∀ v w', Post v w' → okRet ret v) (h : (∀ x ∈ as, inV x) → inW w → Ex (mkC y cc nL ret fr lo mc ms) Post 0 0 n w 0 (ent nL as) []) : Ctr (mkC y cc nL ret fr lo mc ms) as n w Post := by
  intro l B D
  have hcat : ∀ x ∈ as, xcat x = 1 := fun x hx => by simpa using List.all_eq_true.mp hcat x hx
  show Met l y (Cond.code y cc nL ret :: xWS) ({ frames := fr, cells := mc, slots := ms, locals := lo }) (va_Pc (as.map (rv B)) (Pre B D as n w)) (Qx B D (n + mc) Post) mc ms (fun q => B ≤ q)
  refine MetFree.of_bodySF (code := cc) (maxLocals := nL) (ret := ret) hy.2.2.1 ?_ ?_
  · intro args s m h hn
    obtain ⟨meth, c, h1, h2, h3, h4, h5, h6, -, -⟩ := Cond.code_spec hn (atoms_spec (ws := Cond.code y cc nL ret :: xWS) h _ List.mem_cons_self)
    exact ⟨meth, c, h1, h2, h3, h4, h5, h6⟩
  · intro p e s m args below meth c s₁ BL hml hP0 _
    obtain ⟨rfl, hK, hN, hAO, hR, hz, hin⟩ := hP0
    have hh0 : s₁.heap = s.heap := by rw [BL.state]; rfl
    have hts0 := atoms_spec (ws := Cond.code y cc nL ret :: xWS) BL.pre
    have hr := BL.returns
    have hlocks := BL.notSynchronized
    have hX : Cx (mkC y cc nL ret fr lo mc ms) Post p l e ({ frames := fr, cells := mc, slots := ms, locals := lo }) s m (as.map (rv B)).toArray below meth c (MQ below (Qx B D (n + mc) Post) (as.map (rv B)).toArray s mc ms (fun q => B ≤ q)) B D := by
      refine ⟨BL.exec, BL.bytes, findClass_of_methodNamed BL.named, fun w hw => hts0 w (List.mem_cons_of_mem _ hw), hK, hN, hAO, ⟨Nat.le_refl _, Nat.le_refl _, Nat.le_refl _, Nat.le_refl _⟩, fun hi => ?_, by omega, ?_⟩
      · have h1 : meth.name = y.name := (name_of_methodNamed BL.named BL.method).1
        rw [h1]
        simpa [mkC] using hi
      · intro v n' w' j H locs pc ls hp hRel hk hS hv hj hret
        have hn' : n' = n + mc := by
          have hk : s.heap.size + mc = B + n' := hk
          omega
        subst hn'
        have hQ : ∀ t : State, t.heap = H → s.WarmedH t.vm → Qx B D (n + mc) Post (as.map (rv B)).toArray s (.returned (v.map (rv B))) t := by
          intro t ht hW
          refine ⟨v, w', rfl, hp, hv, by rw [ht]; exact hRel.moved hW.alike, by rw [ht]; exact hS.1, fun q hq => ?_⟩
          rw [ht]
          exact hS.2.1 q (by omega) (by show ¬ B ≤ q; omega)
        refine W.widen (k := mc) (n := ms) (Nat.le_refl _) hj ?_
        have hok := hP v w' hp
        match ret, v, hr, hok, hQ, hret with
        | none, none, hr, _, hQ, hret => exact W.vret BL.exec BL.bytes hr hQ hS.2.2 hret
        | some .int, some (.inl i), hr, _, hQ, hret => exact W.iret BL.exec BL.bytes hr hQ hS.2.2 hret
        | some .boolean, some (.inl i), hr, hb, hQ, hret =>
          refine W.zret BL.exec BL.bytes hr ?_ hQ hS.2.2 hret
          rcases hb with rfl | rfl <;> rfl
        | some (.object C), some (.inr (.inl (some r))), hr, _, hQ, hret => exact W.aret BL.exec BL.bytes hr (Or.inl ⟨C, rfl⟩) (Or.inr ⟨_, rfl⟩) hQ hS.2.2 hret
    have hl := lv_entry (as.map (rv B)) (n := nL) (by rw [lg_len B as hcat]; exact hlen)
    have hL : hasL B c ((lg_sl (as.map (rv B)) ++ List.replicate (nL - (lg_sl (as.map (rv B))).length) Slot.unset).toArray) (ent nL as) := by
      have hle : (ent nL as).length = nL := by simp [ent]; omega
      refine ⟨by rw [hl.1, hml], ⟨by rw [hle]; exact hl.1, hl.2.1, ?_⟩, ?_⟩
      · rintro ⟨i, x⟩ hq
        obtain ⟨v, h1, rfl⟩ := mem_prL.mp hq
        have h2 := entry_args B as hcat 0 i v (ent_get h1)
        rw [Nat.zero_add] at h2
        exact hl.2.2 _ h2
      · intro v hv
        obtain ⟨i, hi⟩ := List.mem_iff_getElem?.mp hv
        exact hin v (List.mem_of_getElem? (ent_get hi))
    have K := h hin hR.inW p l e _ s m _ below meth c s.heap [] _ B D _ hX hR hz va_S.rf hL (fun x hx => by cases hx)
    rw [List.map_nil, ← lg_entry_eq] at K
    obtain ⟨t, a1, o, b1, b2, b3⟩ := K s₁ hh0 (Stand.of_body BL)
    exact ⟨t, o, a1, b1, b2, ⟨b3.1, b3.2⟩⟩
