/-! ===== calls ===== -/
def pI (P : Int → xW → Prop) : xP := fun v w => ∃ i, v = some (xi i) ∧ P i w
def pZ (P : Int → xW → Prop) : xP := fun v w => ∃ i, v = some (xi i) ∧ (i = 0 ∨ i = 1) ∧ P i w
def pV (P : xW → Prop) : xP := fun v w => v = none ∧ P w
def pR (P : Nat → xW → Prop) : xP := fun v w => ∃ r, v = some (xr r) ∧ P r w
theorem okI {P : Int → xW → Prop} : ∀ v w, pI P v w → okRet (some .int) v := by rintro v w ⟨i, rfl, -⟩; trivial
theorem okZ {P : Int → xW → Prop} : ∀ v w, pZ P v w → okRet (some .boolean) v := by rintro v w ⟨i, rfl, h, -⟩; exact h
theorem okV {P : xW → Prop} : ∀ v w, pV P v w → okRet none v := by rintro v w ⟨rfl, -⟩; trivial
theorem okR {P : Nat → xW → Prop} {C : String} : ∀ v w, pR P v w → okRet (some (.object C)) v := by rintro v w ⟨r, rfl, -⟩; trivial
theorem good_ws {y : MethodName} {cc : ByteArray} {nL : Nat} {ret : Option FieldType} (h : Cond.code y cc nL ret ∈ xWS) : GoodIn xWS (Cond.code y cc nL ret :: xWS) := by
  intro w hw
  have hm : w ∈ xWS := by
    rcases List.mem_cons.mp hw with q | q
    · rw [q]; exact h
    · exact q
  exact ⟨hm, good_of_word (List.mem_filter.mp hm).2⟩
theorem Pre.blind {B : Nat} {D : va_G} {as : List xV} {n : Nat} {w : xW} : FrameBlind (va_Pc (as.map (rv B)) (Pre B D as n w)) := by
  rintro a U g mk ⟨h0, h1, h2, h3, h4, h5, h6⟩
  exact ⟨h0, va_K.moved (u := U) (U := U.calling g mk a) (Vm.Alike.refl U.vm) h1, fun w hw hn => va_Nw.same (by cases w <;> first | rfl | cases hn) (u := U) (U := U.calling g mk a) rfl (h2 w hw hn), h3, h4.moved (U := U.calling g mk a) (Vm.Alike.refl U.vm), h5, h6⟩
theorem cat_sum (B : Nat) (st : List xV) : ((st.map (rv B)).map fun v => v.category).sum = (st.map xcat).sum := by
  rw [List.map_map]
  congr 1
  exact List.map_congr_left (fun v _ => rv_cat B v)
/-- what the callee is given -/
theorem Cx.pre {X : xC} {Post : xP} {p : Program} {l : Launch} {e : Env} {R : Room} {s : State} {m : MethodId} {args : Array Value} {below : List Frame} {meth : Method} {c : Code} {Q : State → Prop} {B : Nat} {D : va_G} (hC : Cx X Post p l e R s m args below meth c Q B D) {n : Nat} {w : xW} {H : Heap} {as : List xV} (hR : Rel B D s n w H) (hz : H.size = B + n) (hin : ∀ x ∈ as, inV x) : ∀ U : State, U.heap = H → s.WarmedH U.vm → va_Pc (as.map (rv B)) (Pre B D as n w) (as.map (rv B)).toArray U := fun U hU hW =>
  ⟨rfl, va_K.moved hW.alike hC.2.2.2.2.1, fun w hw hn => nest_warm hn hW (hC.2.2.2.2.2.1 w hw hn), hC.2.2.2.2.2.2.1.moved hW.alike, by rw [hU]; exact hR.moved hW.alike, by rw [hU]; exact hz, hin⟩
/-- behind a call -/
theorem ex_behind {X : xC} {Post : xP} {p : Program} {l : Launch} {e : Env} {R : Room} {s : State} {m : MethodId} {args : Array Value} {below : List Frame} {meth : Method} {c : Code} {Q : State → Prop} {B : Nat} {D : va_G} (hC : Cx X Post p l e R s m args below meth c Q B D) {k j n mc ms : Nat} {H : Heap} {locs : List Loc} {ls : Array Slot} {L : List (Option xV)} {pc : Nat} {st0 : List Value} {rest : List xV} {PostY : xP} {a : Array Value} (hk : s.heap.size + k = B + n) (hS : xS B s H locs) (hL : hasL B c ls L) (hst : ∀ x ∈ rest, inV x)
    (hr : va_Run p l e R s m args below meth c H locs k j mc ms (F0 m pc ls st0) (rest.map (rv B)) (Qx B D (n + mc) PostY a) (fun q => B ≤ q))
    (kk : ∀ (v : Option xV) (w' : xW), PostY v w' → Ex X Post (k + mc) (j + ms) (n + mc) w' (pc + 3) L (v.toList ++ rest)) : W p l e R s m args below meth c H locs k j Q (F0 m pc ls st0) := by
  intro T hT X0
  obtain ⟨v, st₀, t, T', Lq, h0, X', hLq, e1, e2, ⟨v', w', hv, hp, hin, hRel, hz, hb⟩, st⟩ := hr T hT X0
  cases hv
  rw [h0] at hz hb
  have hal : s.vm.Alike t.vm := by rw [← e2]; exact X'.warmed.alike
  have K := kk v' w' hp p l e R s m args below meth c T'.heap (locs ++ Lq) Q B D ls hC (by rw [e1]; exact hRel.moved hal.symm) (by omega)
    ⟨Nat.le_trans hS.1 (by rw [e1]; exact hz), fun q h1 h2 => by
      have h3 : ¬ B ≤ q := h2
      rw [e1, hb q (by omega)]; exact hS.2.1 q h1 h2, fun q hq => by
      rcases List.mem_append.mp hq with h | h
      · exact hS.2.2 q h
      · exact hLq q h⟩ hL (fun x hx => by
      rcases List.mem_append.mp hx with h | h
      · cases v' with
        | none => cases h
        | some u => exact hin x (by rw [List.mem_singleton.mp h])
      · exact hst x h)
  obtain ⟨t2, a1, b1⟩ := K T' rfl X'
  refine ⟨t2, st t2 ?_, b1⟩
  have em : (v'.toList ++ rest).map (rv B) = (v'.map (rv B)).toList ++ rest.map (rv B) := by
    cases v' <;> simp
  rw [em] at a1
  exact a1
section RULES
variable {X : xC} {Post : xP} {k j n : Nat} {w : xW} {pc : Nat} {L : List (Option xV)} {st : List xV}

/-- the top of the stack is within its range -/
theorem ex_inI {i : Int} (kk : inI i → Ex X Post k j n w pc L (xi i :: st)) : Ex X Post k j n w pc L (xi i :: st) := by
  intro p l e R s m args below meth c H locs Q B D ls hC hR hk hS hL hst
  exact kk (hst1 hst) p l e R s m args below meth c H locs Q B D ls hC hR hk hS hL hst
/-- what the world holds is within its range -/
theorem ex_inW (kk : inW w → Ex X Post k j n w pc L st) : Ex X Post k j n w pc L st := by
  intro p l e R s m args below meth c H locs Q B D ls hC hR hk hS hL hst
  exact kk hR.inW p l e R s m args below meth c H locs Q B D ls hC hR hk hS hL hst
theorem ex_ret {v : Option xV} (hd : retI X.1 pc v) (hp : Post v w) (hk9 : k = X.2.2.2.2.1) (hj : j ≤ X.2.2.2.2.2.1) : Ex X Post k j n w pc L v.toList := by
  intro p l e R s m args below meth c H locs Q B D ls hC hR hk hS hL hst
  subst hk9
  exact hC.2.2.2.2.2.2.2.2.2.2 v n w j H locs pc ls hp hR hk hS (fun x hx => hst x (by rw [hx]; exact List.mem_singleton.mpr rfl)) hj hd
theorem ex_iret {i : Int} {P : Int → xW → Prop} (hd : decode X.1 pc = .ok (.ireturn, 1)) (hp : P i w) (hk9 : k = X.2.2.2.2.1) (hj : j ≤ X.2.2.2.2.2.1) : Ex X (pI P) k j n w pc L [xi i] := ex_ret (v := some (xi i)) hd ⟨i, rfl, hp⟩ hk9 hj
theorem ex_zret {i : Int} {P : Int → xW → Prop} (hd : decode X.1 pc = .ok (.ireturn, 1)) (hp : (i = 0 ∨ i = 1) ∧ P i w) (hk9 : k = X.2.2.2.2.1) (hj : j ≤ X.2.2.2.2.2.1) : Ex X (pZ P) k j n w pc L [xi i] := ex_ret (v := some (xi i)) hd ⟨i, rfl, hp.1, hp.2⟩ hk9 hj
theorem ex_vret {P : xW → Prop} (hd : decode X.1 pc = .ok (.return_, 1)) (hp : P w) (hk9 : k = X.2.2.2.2.1) (hj : j ≤ X.2.2.2.2.2.1) : Ex X (pV P) k j n w pc L [] := ex_ret (v := none) hd ⟨rfl, hp⟩ hk9 hj
theorem ex_aret {r : Nat} {P : Nat → xW → Prop} (hd : decode X.1 pc = .ok (.areturn, 1)) (hp : P r w) (hk9 : k = X.2.2.2.2.1) (hj : j ≤ X.2.2.2.2.2.1) : Ex X (pR P) k j n w pc L [xr r] := ex_ret (v := some (xr r)) hd ⟨r, rfl, hp⟩ hk9 hj

theorem ex_callV {y : MethodName} {cc : ByteArray} {nL : Nat} {ret : Option FieldType} {np fr lo mc ms : Nat} {idx ci r N : Nat} {T0 : u_T} {as rest fs : List xV} {PostY : xP} (hd : decode X.1 pc = .ok (.invokevirtual idx, 3)) (hc : Ctr (mkC y cc nL ret fr lo mc ms) (xr r :: as) n w PostY) (hlk : lkOK X.2.1 idx y) (hy : yOK y cc nL ret np) (hv : vOK y) (hw : w r = xO ci fs) (hci : vwCl[ci]? = some (y.cls, T0, N)) (hn : as.length = np) (hst0 : st = as.reverse ++ xr r :: rest) (hcat : (rest.map xcat).sum ≤ 8) (hroom : fr + 1 ≤ X.2.2.1 ∧ 8 + (nL + 11) + lo ≤ X.2.2.2.1) (hcell : k + mc ≤ X.2.2.2.2.1 ∧ j + ms ≤ X.2.2.2.2.2.1) (kk : ∀ (v : Option xV) (w2 : xW), PostY v w2 → Ex X Post (k + mc) (j + ms) (n + mc) w2 (pc + 3) L (v.toList ++ rest)) : Ex X Post k j n w pc L st := by
  intro p l e R s m args below meth c H locs Q B D ls hC hR hk hS hL hst
  subst hst0
  refine W.ofSize hR hC.2.2.2.2.2.2.2.2.2.1 hk (fun hz => ?_)
  have hin : ∀ x ∈ xr r :: as, inV x := hstc trivial (fun x hx => hst x (List.mem_append_left _ (List.mem_reverse.mpr hx)))
  have hrest : ∀ x ∈ rest, inV x := fun x hx => hst x (List.mem_append_right _ (List.mem_cons_of_mem _ hx))
  have hne : ci ≠ 99 := by rintro rfl; simp [vwCl] at hci
  have hr : r < n := hR.lt (ciZ hw hne)
  obtain ⟨-, ka, hP, -⟩ := id hR
  have he : (wsOf B ka n w)[r]? = some (B + r, .inr (ci, fs.map (rv B))) := by rw [wsOf_get hr, hw]; rfl
  have hrec := va_recv hC.2.2.2.2.1 hP hci he
  have hts := hC.2.2.2.1
  have hstk : ((as.reverse ++ xr r :: rest).map (rv B)) = (as.map (rv B)).reverse ++ .ref (B + r) :: rest.map (rv B) := by simp [rv]
  refine ex_behind (a := ((xr r :: as).map (rv B)).toArray) hC hk hS hL hrest ?_ kk
  rcases hlk with hl | ⟨host, hl⟩
  · exact va_runV (nL := c.maxLocals) (n := np) (Ts := xWS) (As := as.map (rv B)) (rest := rest.map (rv B)) ⟨hC.1, hC.2.1, rfl, hC.2.2.1, hts⟩ (hc l B D)
      ⟨callB_of np hts (good_ws hy.1) rfl rfl rfl (hts _ hy.2.1) (hts _ hl) hy.2.2.2 ⟨show fr + 1 ≤ R.frames by have := hC.2.2.2.2.2.2.2.1.1; omega, show 8 + (nL + 11) + lo ≤ R.locals by have := hC.2.2.2.2.2.2.2.1.2.1; omega⟩, hts _ hv.1, hts _ hv.2⟩
      ⟨Pre.blind (as := xr r :: as), hrec, hC.pre hR hz hin⟩ rfl (by simpa using hn) hL.1 hstk (lv_room (by rw [cat_sum]; exact hcat)) hd ⟨show k + mc ≤ R.cells by have := hC.2.2.2.2.2.2.2.1.2.2.1; omega, show j + ms ≤ R.slots by have := hC.2.2.2.2.2.2.2.1.2.2.2; omega⟩
  · exact va_runVN (nL := c.maxLocals) (n := np) (Ts := xWS) (As := as.map (rv B)) (rest := rest.map (rv B)) ⟨hC.1, hC.2.1, rfl, hC.2.2.1, hts⟩ (hc l B D)
      ⟨va_cnB np hts (good_ws hy.1) rfl rfl rfl (hC.2.2.2.2.2.1 _ hl rfl) (hts _ hy.2.1) hy.2.2.2 ⟨show fr + 1 ≤ R.frames by have := hC.2.2.2.2.2.2.2.1.1; omega, show 8 + (nL + 11) + lo ≤ R.locals by have := hC.2.2.2.2.2.2.2.1.2.1; omega⟩, hts _ hv.1, hts _ hv.2⟩
      ⟨Pre.blind (as := xr r :: as), hrec, hC.pre hR hz hin⟩ rfl (by simpa using hn) hL.1 hstk (lv_room (by rw [cat_sum]; exact hcat)) hd ⟨show k + mc ≤ R.cells by have := hC.2.2.2.2.2.2.2.1.2.2.1; omega, show j + ms ≤ R.slots by have := hC.2.2.2.2.2.2.2.1.2.2.2; omega⟩

theorem ex_callS {y : MethodName} {cc : ByteArray} {nL : Nat} {ret : Option FieldType} {np fr lo mc ms : Nat} {idx : Nat} {as rest : List xV} {PostY : xP} (hd : decode X.1 pc = .ok (.invokestatic idx, 3)) (hc : Ctr (mkC y cc nL ret fr lo mc ms) as n w PostY) (hlk : lkOK X.2.1 idx y) (hy : yOK y cc nL ret np) (hv : Cond.static y ∈ xWS) (hn : as.length = np) (hst0 : st = as.reverse ++ rest) (hcat : (rest.map xcat).sum ≤ 8) (hroom : fr + 1 ≤ X.2.2.1 ∧ 8 + (nL + 11) + lo ≤ X.2.2.2.1) (hcell : k + mc ≤ X.2.2.2.2.1 ∧ j + ms ≤ X.2.2.2.2.2.1) (kk : ∀ (v : Option xV) (w2 : xW), PostY v w2 → Ex X Post (k + mc) (j + ms) (n + mc) w2 (pc + 3) L (v.toList ++ rest)) : Ex X Post k j n w pc L st := by
  intro p l e R s m args below meth c H locs Q B D ls hC hR hk hS hL hst
  subst hst0
  refine W.ofSize hR hC.2.2.2.2.2.2.2.2.2.1 hk (fun hz => ?_)
  have hin : ∀ x ∈ as, inV x := fun x hx => hst x (List.mem_append_left _ (List.mem_reverse.mpr hx))
  have hrest : ∀ x ∈ rest, inV x := fun x hx => hst x (List.mem_append_right _ hx)
  have hts := hC.2.2.2.1
  have hstk : ((as.reverse ++ rest).map (rv B)) = (as.map (rv B)).reverse ++ rest.map (rv B) := by simp
  refine ex_behind (a := (as.map (rv B)).toArray) hC hk hS hL hrest ?_ kk
  rcases hlk with hl | ⟨host, hl⟩
  · exact va_runS (nL := c.maxLocals) (n := np) (Ts := xWS) (As := as.map (rv B)) (rest := rest.map (rv B)) ⟨hC.1, hC.2.1, rfl, hC.2.2.1, hts⟩ (hc l B D)
      ⟨callB_of np hts (good_ws hy.1) rfl rfl rfl (hts _ hy.2.1) (hts _ hl) hy.2.2.2 ⟨show fr + 1 ≤ R.frames by have := hC.2.2.2.2.2.2.2.1.1; omega, show 8 + (nL + 11) + lo ≤ R.locals by have := hC.2.2.2.2.2.2.2.1.2.1; omega⟩, hts _ hv⟩
      ⟨Pre.blind (as := as), hC.pre hR hz hin⟩ rfl (by simpa using hn) hL.1 hstk (lv_room (by rw [cat_sum]; exact hcat)) hd ⟨show k + mc ≤ R.cells by have := hC.2.2.2.2.2.2.2.1.2.2.1; omega, show j + ms ≤ R.slots by have := hC.2.2.2.2.2.2.2.1.2.2.2; omega⟩
  · exact va_runSN (nL := c.maxLocals) (n := np) (Ts := xWS) (As := as.map (rv B)) (rest := rest.map (rv B)) ⟨hC.1, hC.2.1, rfl, hC.2.2.1, hts⟩ (hc l B D)
      ⟨va_cnB np hts (good_ws hy.1) rfl rfl rfl (hC.2.2.2.2.2.1 _ hl rfl) (hts _ hy.2.1) hy.2.2.2 ⟨show fr + 1 ≤ R.frames by have := hC.2.2.2.2.2.2.2.1.1; omega, show 8 + (nL + 11) + lo ≤ R.locals by have := hC.2.2.2.2.2.2.2.1.2.1; omega⟩, hts _ hv, trivial⟩
      ⟨Pre.blind (as := as), hC.pre hR hz hin⟩ rfl (by simpa using hn) hL.1 hstk (lv_room (by rw [cat_sum]; exact hcat)) hd ⟨show k + mc ≤ R.cells by have := hC.2.2.2.2.2.2.2.1.2.2.1; omega, show j + ms ≤ R.slots by have := hC.2.2.2.2.2.2.2.1.2.2.2; omega⟩

theorem ex_callI {y : MethodName} {cc : ByteArray} {nL : Nat} {np fr lo mc ms : Nat} {idx r : Nat} {as rest : List xV} {PostY : xP} (hd : decode X.1 pc = .ok (.invokespecial idx, 3)) (hc : Ctr (mkC y cc nL none fr lo mc ms) (xr r :: as) n w PostY) (hlk : lkOK X.2.1 idx y) (hy : yOK y cc nL none np) (hv : nOK y) (hn : as.length = np) (hst0 : st = as.reverse ++ xr r :: rest) (hcat : (rest.map xcat).sum ≤ 8) (hroom : fr + 1 ≤ X.2.2.1 ∧ 8 + (nL + 11) + lo ≤ X.2.2.2.1) (hcell : k + mc ≤ X.2.2.2.2.1 ∧ j + ms ≤ X.2.2.2.2.2.1) (kk : ∀ (v : Option xV) (w2 : xW), PostY v w2 → Ex X Post (k + mc) (j + ms) (n + mc) w2 (pc + 3) L (v.toList ++ rest)) : Ex X Post k j n w pc L st := by
  intro p l e R s m args below meth c H locs Q B D ls hC hR hk hS hL hst
  subst hst0
  refine W.ofSize hR hC.2.2.2.2.2.2.2.2.2.1 hk (fun hz => ?_)
  have hin : ∀ x ∈ xr r :: as, inV x := hstc trivial (fun x hx => hst x (List.mem_append_left _ (List.mem_reverse.mpr hx)))
  have hrest : ∀ x ∈ rest, inV x := fun x hx => hst x (List.mem_append_right _ (List.mem_cons_of_mem _ hx))
  have hts := hC.2.2.2.1
  have hstk : ((as.reverse ++ xr r :: rest).map (rv B)) = (as.map (rv B)).reverse ++ .ref (B + r) :: rest.map (rv B) := by simp [rv]
  refine ex_behind (a := ((xr r :: as).map (rv B)).toArray) hC hk hS hL hrest ?_ kk
  rcases hlk with hl | ⟨host, hl⟩
  · exact va_runI (nL := c.maxLocals) (n := np) (Ts := xWS) (As := as.map (rv B)) (rest := rest.map (rv B)) ⟨hC.1, hC.2.1, rfl, hC.2.2.1, hts⟩ (hc l B D)
      ⟨callB_of np hts (good_ws hy.1) rfl rfl rfl (hts _ hy.2.1) (hts _ hl) hy.2.2.2 ⟨show fr + 1 ≤ R.frames by have := hC.2.2.2.2.2.2.2.1.1; omega, show 8 + (nL + 11) + lo ≤ R.locals by have := hC.2.2.2.2.2.2.2.1.2.1; omega⟩, hv.1, hts _ hv.2⟩
      ⟨Pre.blind (as := xr r :: as), hC.pre hR hz hin⟩ rfl (by simpa using hn) hL.1 hstk (lv_room (by rw [cat_sum]; exact hcat)) hd ⟨show k + mc ≤ R.cells by have := hC.2.2.2.2.2.2.2.1.2.2.1; omega, show j + ms ≤ R.slots by have := hC.2.2.2.2.2.2.2.1.2.2.2; omega⟩
  · exact va_runIN (nL := c.maxLocals) (n := np) (Ts := xWS) (As := as.map (rv B)) (rest := rest.map (rv B)) ⟨hC.1, hC.2.1, rfl, hC.2.2.1, hts⟩ (hc l B D)
      ⟨va_cnB np hts (good_ws hy.1) rfl rfl rfl (hC.2.2.2.2.2.1 _ hl rfl) (hts _ hy.2.1) hy.2.2.2 ⟨show fr + 1 ≤ R.frames by have := hC.2.2.2.2.2.2.2.1.1; omega, show 8 + (nL + 11) + lo ≤ R.locals by have := hC.2.2.2.2.2.2.2.1.2.1; omega⟩, hv.1, hts _ hv.2⟩
      ⟨Pre.blind (as := xr r :: as), hC.pre hR hz hin⟩ rfl (by simpa using hn) hL.1 hstk (lv_room (by rw [cat_sum]; exact hcat)) hd ⟨show k + mc ≤ R.cells by have := hC.2.2.2.2.2.2.2.1.2.2.1; omega, show j + ms ≤ R.slots by have := hC.2.2.2.2.2.2.2.1.2.2.2; omega⟩

theorem ex_callVI {y : MethodName} {cc : ByteArray} {nL : Nat} {ret : Option FieldType} {np fr lo mc ms : Nat} {idx ci r N : Nat} {T0 : u_T} {as rest fs : List xV} {P : Int → xW → Prop} (hd : decode X.1 pc = .ok (.invokevirtual idx, 3)) (hc : Ctr (mkC y cc nL ret fr lo mc ms) (xr r :: as) n w (pI P)) (hlk : lkOK X.2.1 idx y) (hy : yOK y cc nL ret np) (hv : vOK y) (hw : w r = xO ci fs) (hci : vwCl[ci]? = some (y.cls, T0, N)) (hn : as.length = np) (hst0 : st = as.reverse ++ xr r :: rest) (hcat : (rest.map xcat).sum ≤ 8) (hroom : fr + 1 ≤ X.2.2.1 ∧ 8 + (nL + 11) + lo ≤ X.2.2.2.1) (hcell : k + mc ≤ X.2.2.2.2.1 ∧ j + ms ≤ X.2.2.2.2.2.1) (kk : ∀ (i : Int) (w2 : xW), inI i → P i w2 → Ex X Post (k + mc) (j + ms) (n + mc) w2 (pc + 3) L (xi i :: rest)) : Ex X Post k j n w pc L st :=
  ex_callV hd hc hlk hy hv hw hci hn hst0 hcat hroom hcell (fun v w2 h => by obtain ⟨i, rfl, h⟩ := h; exact ex_inI (fun hi => kk i w2 hi h))

theorem ex_callVZ {y : MethodName} {cc : ByteArray} {nL : Nat} {ret : Option FieldType} {np fr lo mc ms : Nat} {idx ci r N : Nat} {T0 : u_T} {as rest fs : List xV} {P : Int → xW → Prop} (hd : decode X.1 pc = .ok (.invokevirtual idx, 3)) (hc : Ctr (mkC y cc nL ret fr lo mc ms) (xr r :: as) n w (pZ P)) (hlk : lkOK X.2.1 idx y) (hy : yOK y cc nL ret np) (hv : vOK y) (hw : w r = xO ci fs) (hci : vwCl[ci]? = some (y.cls, T0, N)) (hn : as.length = np) (hst0 : st = as.reverse ++ xr r :: rest) (hcat : (rest.map xcat).sum ≤ 8) (hroom : fr + 1 ≤ X.2.2.1 ∧ 8 + (nL + 11) + lo ≤ X.2.2.2.1) (hcell : k + mc ≤ X.2.2.2.2.1 ∧ j + ms ≤ X.2.2.2.2.2.1) (kk : ∀ (i : Int) (w2 : xW), (i = 0 ∨ i = 1) → P i w2 → Ex X Post (k + mc) (j + ms) (n + mc) w2 (pc + 3) L (xi i :: rest)) : Ex X Post k j n w pc L st :=
  ex_callV hd hc hlk hy hv hw hci hn hst0 hcat hroom hcell (fun v w2 h => by obtain ⟨i, rfl, h0, h⟩ := h; exact kk i w2 h0 h)

theorem ex_callVV {y : MethodName} {cc : ByteArray} {nL : Nat} {ret : Option FieldType} {np fr lo mc ms : Nat} {idx ci r N : Nat} {T0 : u_T} {as rest fs : List xV} {P : xW → Prop} (hd : decode X.1 pc = .ok (.invokevirtual idx, 3)) (hc : Ctr (mkC y cc nL ret fr lo mc ms) (xr r :: as) n w (pV P)) (hlk : lkOK X.2.1 idx y) (hy : yOK y cc nL ret np) (hv : vOK y) (hw : w r = xO ci fs) (hci : vwCl[ci]? = some (y.cls, T0, N)) (hn : as.length = np) (hst0 : st = as.reverse ++ xr r :: rest) (hcat : (rest.map xcat).sum ≤ 8) (hroom : fr + 1 ≤ X.2.2.1 ∧ 8 + (nL + 11) + lo ≤ X.2.2.2.1) (hcell : k + mc ≤ X.2.2.2.2.1 ∧ j + ms ≤ X.2.2.2.2.2.1) (kk : ∀ (w2 : xW), P w2 → Ex X Post (k + mc) (j + ms) (n + mc) w2 (pc + 3) L rest) : Ex X Post k j n w pc L st :=
  ex_callV hd hc hlk hy hv hw hci hn hst0 hcat hroom hcell (fun v w2 h => by obtain ⟨rfl, h⟩ := h; exact kk w2 h)

theorem ex_callVR {y : MethodName} {cc : ByteArray} {nL : Nat} {ret : Option FieldType} {np fr lo mc ms : Nat} {idx ci r N : Nat} {T0 : u_T} {as rest fs : List xV} {P : Nat → xW → Prop} (hd : decode X.1 pc = .ok (.invokevirtual idx, 3)) (hc : Ctr (mkC y cc nL ret fr lo mc ms) (xr r :: as) n w (pR P)) (hlk : lkOK X.2.1 idx y) (hy : yOK y cc nL ret np) (hv : vOK y) (hw : w r = xO ci fs) (hci : vwCl[ci]? = some (y.cls, T0, N)) (hn : as.length = np) (hst0 : st = as.reverse ++ xr r :: rest) (hcat : (rest.map xcat).sum ≤ 8) (hroom : fr + 1 ≤ X.2.2.1 ∧ 8 + (nL + 11) + lo ≤ X.2.2.2.1) (hcell : k + mc ≤ X.2.2.2.2.1 ∧ j + ms ≤ X.2.2.2.2.2.1) (kk : ∀ (i : Nat) (w2 : xW), P i w2 → Ex X Post (k + mc) (j + ms) (n + mc) w2 (pc + 3) L (xr i :: rest)) : Ex X Post k j n w pc L st :=
  ex_callV hd hc hlk hy hv hw hci hn hst0 hcat hroom hcell (fun v w2 h => by obtain ⟨i, rfl, h⟩ := h; exact kk i w2 h)

theorem ex_callSI {y : MethodName} {cc : ByteArray} {nL : Nat} {ret : Option FieldType} {np fr lo mc ms : Nat} {idx : Nat} {as rest : List xV} {P : Int → xW → Prop} (hd : decode X.1 pc = .ok (.invokestatic idx, 3)) (hc : Ctr (mkC y cc nL ret fr lo mc ms) as n w (pI P)) (hlk : lkOK X.2.1 idx y) (hy : yOK y cc nL ret np) (hv : Cond.static y ∈ xWS) (hn : as.length = np) (hst0 : st = as.reverse ++ rest) (hcat : (rest.map xcat).sum ≤ 8) (hroom : fr + 1 ≤ X.2.2.1 ∧ 8 + (nL + 11) + lo ≤ X.2.2.2.1) (hcell : k + mc ≤ X.2.2.2.2.1 ∧ j + ms ≤ X.2.2.2.2.2.1) (kk : ∀ (i : Int) (w2 : xW), inI i → P i w2 → Ex X Post (k + mc) (j + ms) (n + mc) w2 (pc + 3) L (xi i :: rest)) : Ex X Post k j n w pc L st :=
  ex_callS hd hc hlk hy hv hn hst0 hcat hroom hcell (fun v w2 h => by obtain ⟨i, rfl, h⟩ := h; exact ex_inI (fun hi => kk i w2 hi h))

theorem ex_callSZ {y : MethodName} {cc : ByteArray} {nL : Nat} {ret : Option FieldType} {np fr lo mc ms : Nat} {idx : Nat} {as rest : List xV} {P : Int → xW → Prop} (hd : decode X.1 pc = .ok (.invokestatic idx, 3)) (hc : Ctr (mkC y cc nL ret fr lo mc ms) as n w (pZ P)) (hlk : lkOK X.2.1 idx y) (hy : yOK y cc nL ret np) (hv : Cond.static y ∈ xWS) (hn : as.length = np) (hst0 : st = as.reverse ++ rest) (hcat : (rest.map xcat).sum ≤ 8) (hroom : fr + 1 ≤ X.2.2.1 ∧ 8 + (nL + 11) + lo ≤ X.2.2.2.1) (hcell : k + mc ≤ X.2.2.2.2.1 ∧ j + ms ≤ X.2.2.2.2.2.1) (kk : ∀ (i : Int) (w2 : xW), (i = 0 ∨ i = 1) → P i w2 → Ex X Post (k + mc) (j + ms) (n + mc) w2 (pc + 3) L (xi i :: rest)) : Ex X Post k j n w pc L st :=
  ex_callS hd hc hlk hy hv hn hst0 hcat hroom hcell (fun v w2 h => by obtain ⟨i, rfl, h0, h⟩ := h; exact kk i w2 h0 h)

theorem ex_callSV {y : MethodName} {cc : ByteArray} {nL : Nat} {ret : Option FieldType} {np fr lo mc ms : Nat} {idx : Nat} {as rest : List xV} {P : xW → Prop} (hd : decode X.1 pc = .ok (.invokestatic idx, 3)) (hc : Ctr (mkC y cc nL ret fr lo mc ms) as n w (pV P)) (hlk : lkOK X.2.1 idx y) (hy : yOK y cc nL ret np) (hv : Cond.static y ∈ xWS) (hn : as.length = np) (hst0 : st = as.reverse ++ rest) (hcat : (rest.map xcat).sum ≤ 8) (hroom : fr + 1 ≤ X.2.2.1 ∧ 8 + (nL + 11) + lo ≤ X.2.2.2.1) (hcell : k + mc ≤ X.2.2.2.2.1 ∧ j + ms ≤ X.2.2.2.2.2.1) (kk : ∀ (w2 : xW), P w2 → Ex X Post (k + mc) (j + ms) (n + mc) w2 (pc + 3) L rest) : Ex X Post k j n w pc L st :=
  ex_callS hd hc hlk hy hv hn hst0 hcat hroom hcell (fun v w2 h => by obtain ⟨rfl, h⟩ := h; exact kk w2 h)

theorem ex_callIV {y : MethodName} {cc : ByteArray} {nL : Nat} {np fr lo mc ms : Nat} {idx r : Nat} {as rest : List xV} {P : xW → Prop} (hd : decode X.1 pc = .ok (.invokespecial idx, 3)) (hc : Ctr (mkC y cc nL none fr lo mc ms) (xr r :: as) n w (pV P)) (hlk : lkOK X.2.1 idx y) (hy : yOK y cc nL none np) (hv : nOK y) (hn : as.length = np) (hst0 : st = as.reverse ++ xr r :: rest) (hcat : (rest.map xcat).sum ≤ 8) (hroom : fr + 1 ≤ X.2.2.1 ∧ 8 + (nL + 11) + lo ≤ X.2.2.2.1) (hcell : k + mc ≤ X.2.2.2.2.1 ∧ j + ms ≤ X.2.2.2.2.2.1) (kk : ∀ (w2 : xW), P w2 → Ex X Post (k + mc) (j + ms) (n + mc) w2 (pc + 3) L rest) : Ex X Post k j n w pc L st :=
  ex_callI hd hc hlk hy hv hn hst0 hcat hroom hcell (fun v w2 h => by obtain ⟨rfl, h⟩ := h; exact kk w2 h)

theorem ex_max {idx : Nat} {a b : Int} (hd : decode X.1 pc = .ok (.invokestatic idx, 3)) (hlk : Cond.methodLink X.2.1 idx Lib.Math.max.name ∈ xWS) (hfr : 1 ≤ X.2.2.1) (hlo : (st.map xcat).sum + 13 ≤ X.2.2.2.1) (hkc : k ≤ X.2.2.2.2.1) (hjc : j ≤ X.2.2.2.2.2.1) (kk : Ex X Post k j n w (pc + 3) L (xi (if a < b then b else a) :: st)) : Ex X Post k j n w pc L (xi b :: xi a :: st) := by
  intro p l e R s m args below meth c H locs Q B D ls hC hR hk hS hL hst
  have hts := hC.2.2.2.1
  refine va_mmax hC.1 hC.2.1 (by rw [hL.1]) hC.2.2.1 (hts _ hlk) (hts _ w_mst) (hts _ w_min) (hts _ w_mco) (by have := hC.2.2.2.2.2.2.2.1.1; omega) (by rw [cat_sum]; have := hC.2.2.2.2.2.2.2.1.2.1; omega) (by have := hC.2.2.2.2.2.2.2.1.2.2.1; omega) (by have := hC.2.2.2.2.2.2.2.1.2.2.2; omega) hd ?_
  have hi : inI (if a < b then b else a) := by
    split
    · exact hst1 hst
    · exact hst1 (hst2 hst)
  have K := kk p l e R s m args below meth c H locs Q B D ls hC hR hk hS hL (hstc hi (hst2 (hst2 hst)))
  have e9 : (if Int32.ofInt a < Int32.ofInt b then Int32.ofInt b else Int32.ofInt a) = Int32.ofInt (if a < b then b else a) := by
    by_cases q : a < b
    · rw [if_pos q, if_pos ((i32_lt (hst1 (hst2 hst)) (hst1 hst)).mpr q)]
    · rw [if_neg q, if_neg (fun z => q ((i32_lt (hst1 (hst2 hst)) (hst1 hst)).mp z))]
  rw [e9]
  exact K
theorem ex_copy {idx r1 r2 N1 N2 : Nat} {f g : Nat → Int} {M : Nat} {sp dp m9 : Int} (hd : decode X.1 pc = .ok (.invokestatic idx, 3)) (hlk : Cond.methodLink X.2.1 idx arraycopyName ∈ xWS) (h1 : w r1 = xA N1 f) (h2 : w r2 = xA N2 g) (hsp : sp = 0) (hdp : dp = 0) (hm : m9 = (M : Int)) (hM1 : M ≤ N1) (hM2 : M ≤ N2) (hfr : 1 ≤ X.2.2.1) (hlo : (st.map xcat).sum + (nativeFrameWords "java/lang/System" "arraycopy" 5 + 11) ≤ X.2.2.2.1) (kk : Ex X Post k j n (va_up w r2 (xA N2 (fun q => if q < M then f q else g q))) (pc + 3) L st) : Ex X Post k j n w pc L (xi m9 :: xi dp :: xr r2 :: xi sp :: xr r1 :: st) := by
  intro p l e R s m args below meth c H locs Q B D ls hC hR hk hS hL hst
  subst hsp; subst hdp; subst hm
  have hts := hC.2.2.2.1
  have hr1 : r1 < n := hR.lt (arZ h1)
  have hr2 : r2 < n := hR.lt (arZ h2)
  have hin1 := hR.inA h1
  have hin2 := hR.inA h2
  obtain ⟨hz2, ka, hP, h4⟩ := id hR
  have h5 := h4 r1 hr1
  rw [h1] at h5
  have h6 := h4 r2 hr2
  rw [h2] at h6
  have he1 : (wsOf B ka n w)[r1]? = some (B + r1, .inl (ka r1, N1, .inl (fun j => Int32.ofInt (f j)))) := by rw [wsOf_get hr1, h1]; rfl
  have he2 : (wsOf B ka n w)[r2]? = some (B + r2, .inl (ka r2, N2, .inl (fun j => Int32.ofInt (g j)))) := by rw [wsOf_get hr2, h2]; rfl
  have hiM : inI (M : Int) := hst1 hst
  have z0 : (Int32.ofInt 0).toNatClampNeg = 0 := by decide
  have zM : (Int32.ofInt (M : Int)).toNatClampNeg = M := by rw [i32_nat hiM (by omega)]; simp
  refine va_copyi (D := D) (A := fun q => B ≤ q) (H0 := s.heap) (cl := vwCl) (ty := .int) (sp := Int32.ofInt 0) (dp := Int32.ofInt 0) (n := Int32.ofInt (M : Int)) (tys := [(ka r1, .int), (ka r2, .int)]) hC.1 hC.2.1 (by rw [hL.1]) hC.2.2.1 (hts _ hlk) (hts _ w_cna) (hts _ w_cst) (hts _ w_cin) (hC.2.2.2.2.1.plus2 h5.1 h6.1) hP wsOf_D hS r1 r2 0 1 he1 he2 rfl rfl rfl (by decide) (by decide) (by show ¬ Int32.ofInt (M : Int) < Int32.ofInt 0; rw [i32_lt hiM (by unfold inI; omega)]; omega) (by rw [z0, zM]; omega) (by rw [z0, zM]; omega) (fun _ _ => rfl) (by have := hC.2.2.2.2.2.2.2.1.1; omega) (by rw [cat_sum]; have := hC.2.2.2.2.2.2.2.1.2.1; omega) hd (fun H1 locs1 hP1 _ hS1 => ?_)
  rw [z0, zM] at hP1
  refine kk p l e R s m args below meth c H1 locs1 Q B D ls hC (Rel.set (ka := ka) hr2 hz2 ?_ h4 ?_) hk hS1 hL (hst2 (hst2 (hst2 (hst2 (hst2 hst)))))
  · have e1 : va_cpy (fun j => Int32.ofInt (f j)) (fun j => Int32.ofInt (g j)) 0 0 M = fun j => Int32.ofInt (if j < M then f j else g j) := by
      funext q
      by_cases h : q < M <;> simp [va_cpy, h]
    rw [e1] at hP1
    exact hP1
  · refine ⟨h6.1, fun q => ?_⟩
    by_cases h : q < M
    · simp only [h, if_true]; exact hin1 q
    · simp only [h, if_false]; exact hin2 q
end RULES
