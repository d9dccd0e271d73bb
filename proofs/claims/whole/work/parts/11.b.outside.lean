/-! ===== the rules once more, with a word on what lies outside (statics, the script) ===== -/
def Ez (Am : Nat → State → Prop) (X : xC) (Post : xP) (k j n : Nat) (w : xW) (pc : Nat) (L : List (Option xV)) (st : List xV) : Prop :=
  ∀ (p : Program) (l : Launch) (e : Env) (R : Room) (s : State) (m : MethodId) (args : Array Value) (below : List Frame) (meth : Method) (c : Code) (H : Heap) (locs : List Loc) (Q : State → Prop) (B : Nat) (D : va_G) (ls : Array Slot), Am B s → Cx X Post p l e R s m args below meth c Q B D → Rel B D s n w H → s.heap.size + k = B + n → xS B s H locs → hasL B c ls L → (∀ x ∈ st, inV x) →
    W p l e R s m args below meth c H locs k j Q (F0 m pc ls (st.map (rv B)))
theorem ez_behind {Am : Nat → State → Prop} {X : xC} {Post : xP} {p : Program} {l : Launch} {e : Env} {R : Room} {s : State} {m : MethodId} {args : Array Value} {below : List Frame} {meth : Method} {c : Code} {Q : State → Prop} {B : Nat} {D : va_G} (hA : Am B s) (hC : Cx X Post p l e R s m args below meth c Q B D) {k j n mc ms : Nat} {H : Heap} {locs : List Loc} {ls : Array Slot} {L : List (Option xV)} {pc : Nat} {st0 : List Value} {rest : List xV} {PostY : xP} {a : Array Value} (hk : s.heap.size + k = B + n) (hS : xS B s H locs) (hL : hasL B c ls L) (hst : ∀ x ∈ rest, inV x)
    (hr : va_Run p l e R s m args below meth c H locs k j mc ms (F0 m pc ls st0) (rest.map (rv B)) (Qx B D (n + mc) PostY a) (fun q => B ≤ q))
    (kk : ∀ (v : Option xV) (w' : xW), PostY v w' → Ez Am X Post (k + mc) (j + ms) (n + mc) w' (pc + 3) L (v.toList ++ rest)) : W p l e R s m args below meth c H locs k j Q (F0 m pc ls st0) := by
  intro T hT X0
  obtain ⟨v, st₀, t, T', Lq, h0, X', hLq, e1, e2, ⟨v', w', hv, hp, hin, hRel, hz, hb⟩, st⟩ := hr T hT X0
  cases hv
  rw [h0] at hz hb
  have hal : s.vm.Alike t.vm := by rw [← e2]; exact X'.warmed.alike
  have K := kk v' w' hp p l e R s m args below meth c T'.heap (locs ++ Lq) Q B D ls hA hC (by rw [e1]; exact hRel.moved hal.symm) (by omega)
    ⟨Nat.le_trans hS.1 (by rw [e1]; exact hz), fun q h1 h2 => by
      have h3 : ¬ B ≤ q := h2
      rw [e1, hb q (by omega)]; exact hS.2.1 q h1 h2, fun q hq => by
      rcases List.mem_append.mp hq with h | h
      · exact hS.2.2 q h
      · exact hLq q h⟩ hL (fun x hx => by
      rcases List.mem_append.mp hx with h | h
      · cases v' with
        | none => cases h
        | some u => exact hin x (by rw [List.mem_singleton.mp h])
      · exact hst x h)
  obtain ⟨t2, a1, b1⟩ := K T' rfl X'
  refine ⟨t2, st t2 ?_, b1⟩
  have em : (v'.toList ++ rest).map (rv B) = (v'.map (rv B)).toList ++ rest.map (rv B) := by
    cases v' <;> simp
  rw [em] at a1
  exact a1
section RULES
variable {Am : Nat → State → Prop} {X : xC} {Post : xP} {k j n : Nat} {w : xW} {pc : Nat} {L : List (Option xV)} {st : List xV}
theorem ez_iconst {v : Int} (hd : decode X.1 pc = .ok (.iconst v, 1)) (hv : -32768 ≤ v ∧ v ≤ 32767) (kk : Ez Am X Post k j n w (pc + 1) L (xi v :: st)) : Ez Am X Post k j n w pc L (st) := by
  intro p l e R s m args below meth c H locs Q B D ls hA hC hR hk hS hL hst
  exact lv_iconst hC.1 hC.2.1 hd rfl (kk p l e R s m args below meth c H locs Q B D ls hA hC hR hk hS hL (hstc (by show inI v; unfold inI; omega) hst))
theorem ez_bipush {v : Int} (hd : decode X.1 pc = .ok (.bipush v, 2)) (hv : -128 ≤ v ∧ v ≤ 127) (kk : Ez Am X Post k j n w (pc + 2) L (xi v :: st)) : Ez Am X Post k j n w pc L (st) := by
  intro p l e R s m args below meth c H locs Q B D ls hA hC hR hk hS hL hst
  exact lv_bipush hC.1 hC.2.1 hd (i8_32 hv) (kk p l e R s m args below meth c H locs Q B D ls hA hC hR hk hS hL (hstc (by show inI v; unfold inI; omega) hst))
theorem ez_iload_n {i : Fin 4} {x : Int} (hd : decode X.1 pc = .ok (.iload_n i, 1)) (hl : L[(i : Nat)]? = some (some (xi x))) (kk : Ez Am X Post k j n w (pc + 1) L (xi x :: st)) : Ez Am X Post k j n w pc L (st) := by
  intro p l e R s m args below meth c H locs Q B D ls hA hC hR hk hS hL hst
  exact lv_iload_n hC.1 hC.2.1 hd rfl (hL.at hl) (kk p l e R s m args below meth c H locs Q B D ls hA hC hR hk hS hL (hstc (hL.inv hl) hst))
theorem ez_aload_n {i : Fin 4} {x : Nat} (hd : decode X.1 pc = .ok (.aload_n i, 1)) (hl : L[(i : Nat)]? = some (some (xr x))) (kk : Ez Am X Post k j n w (pc + 1) L (xr x :: st)) : Ez Am X Post k j n w pc L (st) := by
  intro p l e R s m args below meth c H locs Q B D ls hA hC hR hk hS hL hst
  exact lv_aload_n hC.1 hC.2.1 hd rfl (hL.at hl) (kk p l e R s m args below meth c H locs Q B D ls hA hC hR hk hS hL (hstc (hL.inv hl) hst))
theorem ez_aloado_n {i : Fin 4} {x : Nat} (hd : decode X.1 pc = .ok (.aload_n i, 1)) (hl : L[(i : Nat)]? = some (some (xo x))) (kk : Ez Am X Post k j n w (pc + 1) L (xo x :: st)) : Ez Am X Post k j n w pc L (st) := by
  intro p l e R s m args below meth c H locs Q B D ls hA hC hR hk hS hL hst
  exact lv_aload_n hC.1 hC.2.1 hd rfl (hL.at hl) (kk p l e R s m args below meth c H locs Q B D ls hA hC hR hk hS hL (hstc (hL.inv hl) hst))
theorem ez_istore_n {i : Fin 4} {x : Int} {L2 : List (Option xV)} (hd : decode X.1 pc = .ok (.istore_n i, 1)) (hok : stOK L (i : Nat) = true) (hi : (i : Nat) < L.length) (hL2 : L.set (i : Nat) (some (xi x)) = L2) (kk : Ez Am X Post k j n w (pc + 1) L2 st) : Ez Am X Post k j n w pc L (xi x :: st) := by
  intro p l e R s m args below meth c H locs Q B D ls hA hC hR hk hS hL hst
  subst hL2
  exact lv_istore_n hC.1 hC.2.1 hd rfl hL.2.1 hi rfl (fun ls2 h2 => kk p l e R s m args below meth c H locs Q B D ls2 hA hC hR hk hS (hL.store hok hi (hst1 hst) h2) (hst2 hst))
theorem ez_astore_n {i : Fin 4} {x : Nat} {L2 : List (Option xV)} (hd : decode X.1 pc = .ok (.astore_n i, 1)) (hok : stOK L (i : Nat) = true) (hi : (i : Nat) < L.length) (hL2 : L.set (i : Nat) (some (xr x)) = L2) (kk : Ez Am X Post k j n w (pc + 1) L2 st) : Ez Am X Post k j n w pc L (xr x :: st) := by
  intro p l e R s m args below meth c H locs Q B D ls hA hC hR hk hS hL hst
  subst hL2
  exact lv_astore_n hC.1 hC.2.1 hd rfl hL.2.1 hi rfl (fun ls2 h2 => kk p l e R s m args below meth c H locs Q B D ls2 hA hC hR hk hS (hL.store hok hi (hst1 hst) h2) (hst2 hst))
theorem ez_iinc {i : Nat} {d x : Int} {L2 : List (Option xV)} (hd : decode X.1 pc = .ok (.iinc i d, 3)) (hl : L[i]? = some (some (xi x))) (hok : stOK L i = true) (hi : i < L.length) (hr : inI (x + d)) (hL2 : L.set i (some (xi (x + d))) = L2) (kk : Ez Am X Post k j n w (pc + 3) L2 st) : Ez Am X Post k j n w pc L st := by
  intro p l e R s m args below meth c H locs Q B D ls hA hC hR hk hS hL hst
  subst hL2
  obtain ⟨q, -, hq⟩ : ∃ q, True ∧ (prL B L)[q]? = some (i, Value.int (Int32.ofInt x)) := by
    obtain ⟨q, hq⟩ := List.mem_iff_getElem?.mp (mem_prL.mpr ⟨xi x, hl, rfl⟩ : (i, rv B (xi x)) ∈ prL B L)
    exact ⟨q, trivial, hq⟩
  exact lv_iinc (v := Int32.ofInt (x + d)) hC.1 hC.2.1 hd hL.2.1 hq (by rw [Int32.ofInt_add]) hi rfl (fun ls2 h2 => kk p l e R s m args below meth c H locs Q B D ls2 hA hC hR hk hS (hL.store hok hi hr h2) hst)
theorem ez_iadd {a b : Int} (hd : decode X.1 pc = .ok (.iadd, 1)) (hr : inI (a + b)) (kk : Ez Am X Post k j n w (pc + 1) L (xi (a + b) :: st)) : Ez Am X Post k j n w pc L (xi b :: xi a :: st) := by
  intro p l e R s m args below meth c H locs Q B D ls hA hC hR hk hS hL hst
  refine lv_iadd hC.1 hC.2.1 hd ?_
  rw [← Int32.ofInt_add]
  exact kk p l e R s m args below meth c H locs Q B D ls hA hC hR hk hS hL (hstc hr (hst2 (hst2 hst)))
theorem ez_isub {a b : Int} (hd : decode X.1 pc = .ok (.isub, 1)) (hr : inI (a - b)) (kk : Ez Am X Post k j n w (pc + 1) L (xi (a - b) :: st)) : Ez Am X Post k j n w pc L (xi b :: xi a :: st) := by
  intro p l e R s m args below meth c H locs Q B D ls hA hC hR hk hS hL hst
  refine lv_isub hC.1 hC.2.1 hd ?_
  rw [← Int32.ofInt_sub]
  exact kk p l e R s m args below meth c H locs Q B D ls hA hC hR hk hS hL (hstc hr (hst2 (hst2 hst)))
theorem ez_iand {a b : Int} (hd : decode X.1 pc = .ok (.iand, 1)) (kk : Ez Am X Post k j n w (pc + 1) L (xi (xand a b) :: st)) : Ez Am X Post k j n w pc L (xi b :: xi a :: st) := by
  intro p l e R s m args below meth c H locs Q B D ls hA hC hR hk hS hL hst
  refine lv_iand hC.1 hC.2.1 hd ?_
  have h9 := kk p l e R s m args below meth c H locs Q B D ls hA hC hR hk hS hL (hstc (i32_r _) (hst2 (hst2 hst)))
  have e9 : rv B (xi (xand a b)) = _ := congrArg Value.int (i32_back _)
  rw [List.map_cons, e9] at h9
  exact h9
theorem ez_dup {v : xV} (hd : decode X.1 pc = .ok (.dup, 1)) (hc : xcat v = 1) (kk : Ez Am X Post k j n w (pc + 1) L (v :: v :: st)) : Ez Am X Post k j n w pc L (v :: st) := by
  intro p l e R s m args below meth c H locs Q B D ls hA hC hR hk hS hL hst
  exact lv_dup hC.1 hC.2.1 hd (by rw [rv_cat]; exact hc) (kk p l e R s m args below meth c H locs Q B D ls hA hC hR hk hS hL (hstc (hst1 hst) hst))
theorem ez_pop {v : xV} (hd : decode X.1 pc = .ok (.pop, 1)) (hc : xcat v = 1) (kk : Ez Am X Post k j n w (pc + 1) L (st)) : Ez Am X Post k j n w pc L (v :: st) := by
  intro p l e R s m args below meth c H locs Q B D ls hA hC hR hk hS hL hst
  exact lv_pop hC.1 hC.2.1 hd (by rw [rv_cat]; exact hc) (kk p l e R s m args below meth c H locs Q B D ls hA hC hR hk hS hL (hst2 hst))
theorem ez_icmp_eq {a b : Int} {off : Int} {tgt : Nat} (hd : decode X.1 pc = .ok (.if_icmp .eq off, 3)) (ht : (pc : Int) + off = (tgt : Int)) (kt : a = b → Ez Am X Post k j n w tgt L st) (kf : ¬ (a = b) → Ez Am X Post k j n w (pc + 3) L st) : Ez Am X Post k j n w pc L (xi b :: xi a :: st) := by
  intro p l e R s m args below meth c H locs Q B D ls hA hC hR hk hS hL hst
  have hi := i32_eq (hst1 (hst2 hst)) (hst1 hst)
  exact lv_icmp_eq hC.1 hC.2.1 hd ht (fun h => kt (hi.mp h) p l e R s m args below meth c H locs Q B D ls hA hC hR hk hS hL (hst2 (hst2 hst))) (fun h => kf (fun q => h (hi.mpr q)) p l e R s m args below meth c H locs Q B D ls hA hC hR hk hS hL (hst2 (hst2 hst)))
theorem ez_icmp_ge {a b : Int} {off : Int} {tgt : Nat} (hd : decode X.1 pc = .ok (.if_icmp .ge off, 3)) (ht : (pc : Int) + off = (tgt : Int)) (kt : b ≤ a → Ez Am X Post k j n w tgt L st) (kf : ¬ (b ≤ a) → Ez Am X Post k j n w (pc + 3) L st) : Ez Am X Post k j n w pc L (xi b :: xi a :: st) := by
  intro p l e R s m args below meth c H locs Q B D ls hA hC hR hk hS hL hst
  have hi := i32_le (hst1 hst) (hst1 (hst2 hst))
  exact lv_icmp_ge hC.1 hC.2.1 hd ht (fun h => kt (hi.mp h) p l e R s m args below meth c H locs Q B D ls hA hC hR hk hS hL (hst2 (hst2 hst))) (fun h => kf (fun q => h (hi.mpr q)) p l e R s m args below meth c H locs Q B D ls hA hC hR hk hS hL (hst2 (hst2 hst)))
theorem ez_icmp_gt {a b : Int} {off : Int} {tgt : Nat} (hd : decode X.1 pc = .ok (.if_icmp .gt off, 3)) (ht : (pc : Int) + off = (tgt : Int)) (kt : b < a → Ez Am X Post k j n w tgt L st) (kf : ¬ (b < a) → Ez Am X Post k j n w (pc + 3) L st) : Ez Am X Post k j n w pc L (xi b :: xi a :: st) := by
  intro p l e R s m args below meth c H locs Q B D ls hA hC hR hk hS hL hst
  have hi := i32_lt (hst1 hst) (hst1 (hst2 hst))
  exact lv_icmp_gt hC.1 hC.2.1 hd ht (fun h => kt (hi.mp h) p l e R s m args below meth c H locs Q B D ls hA hC hR hk hS hL (hst2 (hst2 hst))) (fun h => kf (fun q => h (hi.mpr q)) p l e R s m args below meth c H locs Q B D ls hA hC hR hk hS hL (hst2 (hst2 hst)))
theorem ez_goto {off : Int} {tgt : Nat} (hd : decode X.1 pc = .ok (.goto off, 3)) (ht : (pc : Int) + off = (tgt : Int)) (kk : Ez Am X Post k j n w tgt L st) : Ez Am X Post k j n w pc L st := by
  intro p l e R s m args below meth c H locs Q B D ls hA hC hR hk hS hL hst
  exact lv_goto hC.1 hC.2.1 hd ht (kk p l e R s m args below meth c H locs Q B D ls hA hC hR hk hS hL hst)
theorem ez_tableIn {dflt lo hi : Int} {offs : Array Int} {len : Nat} {a off : Int} {tgt : Nat} (hd : decode X.1 pc = .ok (.tableswitch dflt lo hi offs, len)) (h1 : lo ≤ a) (h2 : a ≤ hi) (ho : offs[(a - lo).toNat]? = some off) (ht : (pc : Int) + off = (tgt : Int)) (kk : Ez Am X Post k j n w tgt L st) : Ez Am X Post k j n w pc L (xi a :: st) := by
  intro p l e R s m args below meth c H locs Q B D ls hA hC hR hk hS hL hst
  have e9 := i32_to (hst1 hst)
  exact lv_tableIn hC.1 hC.2.1 hd (by rw [e9]; omega) (by rw [e9]; omega) (by rw [e9]; exact ho) ht (kk p l e R s m args below meth c H locs Q B D ls hA hC hR hk hS hL (hst2 hst))
theorem ez_tableOut {dflt lo hi : Int} {offs : Array Int} {len : Nat} {a : Int} {tgt : Nat} (hd : decode X.1 pc = .ok (.tableswitch dflt lo hi offs, len)) (h : a < lo ∨ hi < a) (ht : (pc : Int) + dflt = (tgt : Int)) (kk : Ez Am X Post k j n w tgt L st) : Ez Am X Post k j n w pc L (xi a :: st) := by
  intro p l e R s m args below meth c H locs Q B D ls hA hC hR hk hS hL hst
  have e9 := i32_to (hst1 hst)
  exact lv_tableOut hC.1 hC.2.1 hd (by rw [e9]; exact h) ht (kk p l e R s m args below meth c H locs Q B D ls hA hC hR hk hS hL (hst2 hst))
theorem ez_getfield {idx ci q r : Nat} {fs : List xV} {v : xV} (hd : decode X.1 pc = .ok (.getfield idx, 3)) (hf : fOK X.2.1 idx ci q) (hw : w r = xO ci fs) (hv : fs[q]? = some v) (kk : Ez Am X Post k j n w (pc + 3) L (v :: st)) : Ez Am X Post k j n w pc L (xr r :: st) := by
  intro p l e R s m args below meth c H locs Q B D ls hA hC hR hk hS hL hst
  have hin : inV v := hR.inO hw (fOK_ci hf) v (List.mem_of_getElem? hv)
  have hr : r < n := hR.lt (ciZ hw (fOK_ci hf))
  obtain ⟨-, ka, hP, -⟩ := id hR
  obtain ⟨C, T, N, hc, hq, hC0, hlk⟩ := hf
  obtain ⟨ty0, hin0, -, -⟩ := cl_all hc
  have he : (wsOf B ka n w)[r]? = some (B + r, .inr (ci, fs.map (rv B))) := by rw [wsOf_get hr, hw]; rfl
  have hv2 : (fs.map (rv B))[q]? = some (rv B v) := by rw [List.getElem?_map, hv]; rfl
  have K := kk p l e R s m args below meth c H locs Q B D ls hA hC hR hk hS hL (hstc hin (hst2 hst))
  have hsame : ∀ x, s.fieldFound? (T q).1 (T q).2.1 (T q).2.2.1 = some x → s.fieldFound? C (T q).2.1 (T q).2.2.1 = some x := by rw [hC0]; exact fun _ h => h
  rcases hlk with hl | ⟨host, hl⟩
  · exact va_get (D := D) hC.1 hC.2.1 hC.2.2.2.1 hin0 hC.2.2.1 hC.2.2.2.2.1 hP r he hc q hq (hC.2.2.2.1 _ hl) hsame hv2 hd K
  · exact va_getN (D := D) hC.1 hC.2.1 hC.2.2.2.1 hin0 hC.2.2.1 hC.2.2.2.2.1 hP r he hc q hq (va_Nw.use rfl (hC.2.2.2.2.2.1 _ hl rfl)) hsame hv2 hd K
theorem ez_putF {idx ci q r : Nat} {fs : List xV} {v : xV} {ty : FieldType} (hd : decode X.1 pc = .ok (.putfield idx, 3)) (hf : fOK X.2.1 idx ci q) (hT : ∀ C T N, vwCl[ci]? = some (C, T, N) → parseFieldDescriptor (T q).2.2.1 = some ty ∧ (T q).2.2.2 = true ∧ (T q).1 = X.2.1) (hnn : ∀ C T N, vwCl[ci]? = some (C, T, N) → ((Cond.fieldLink X.2.1 idx C (T q).2.1 (T q).2.2.1 ∈ xWS) ∨ ∃ host, Cond.fieldLinkNest X.2.1 idx C (T q).2.1 (T q).2.2.1 host ∈ lw_tbl) → Cond.fieldLink X.2.1 idx C (T q).2.1 (T q).2.2.1 ∈ xWS) (hw : w r = xO ci fs) (hl : q < fs.length) (hn : ∀ B, narrow ty (rv B v) = rv B v) (hfit : ∀ B, fits ty (rv B v) = true) (hini : X.2.2.2.2.2.2.1 = true) (kk : Ez Am X Post k j n (va_up w r (xO ci (fs.set q v))) (pc + 3) L st) : Ez Am X Post k j n w pc L (v :: xr r :: st) := by
  intro p l e R s m args below meth c H locs Q B D ls hA hC hR hk hS hL hst
  have hr : r < n := hR.lt (ciZ hw (fOK_ci hf))
  have hin := hR.inO hw (fOK_ci hf)
  obtain ⟨hz2, ka, hP, h4⟩ := id hR
  obtain ⟨C, T, N, hc, hq, hC0, hlk⟩ := hf
  have hlk := hnn C T N hc hlk
  obtain ⟨hty, hfin, hdc⟩ := hT C T N hc
  obtain ⟨ty0, hin0, ht0, hnm⟩ := cl_all hc
  have he : (wsOf B ka n w)[r]? = some (B + r, .inr (ci, fs.map (rv B))) := by rw [wsOf_get hr, hw]; rfl
  have hsame : ∀ x, s.fieldFound? (T q).1 (T q).2.1 (T q).2.2.1 = some x → s.fieldFound? C (T q).2.1 (T q).2.2.1 = some x := by rw [hC0]; exact fun _ h => h
  have K : ∀ (H1 : Heap) (locs1 : List Loc), va_P D vwCl ((wsOf B ka n w).set r (B + r, .inr (ci, (fs.map (rv B)).set q (rv B v)))) H1 → va_D (fun q => B ≤ q) ((wsOf B ka n w).set r (B + r, .inr (ci, (fs.map (rv B)).set q (rv B v)))) → va_S (fun q => B ≤ q) s.heap H1 locs1 → W p l e R s m args below meth c H1 locs1 k j Q (F0 m (pc + 3) ls (st.map (rv B))) := by
    intro H1 locs1 hP1 _ hS1
    refine kk p l e R s m args below meth c H1 locs1 Q B D ls hA hC (Rel.set (ka := ka) hr hz2 ?_ h4 ?_) hk hS1 hL (hst2 (hst2 hst))
    · show va_P D vwCl ((wsOf B ka n w).set r (B + r, .inr (ci, (fs.set q v).map (rv B)))) H1
      rw [List.map_set]
      exact hP1
    · intro u hu
      rcases List.mem_or_eq_of_mem_set hu with h | h
      · exact hin u h
      · rw [h]; exact hst1 hst
  exact va_putF (D := D) hC.1 hC.2.1 hC.2.2.2.1 hin0 ty0 ht0 hnm hC.2.2.1 hC.2.2.2.2.1 hP wsOf_D hS r he hc q hq (hC.2.2.2.1 _ hlk) hsame hfin (hC.2.2.2.2.2.2.2.2.1 hini) hdc hty (hn B) (hfit B) (by rw [List.length_map]; exact hl) hd K
theorem ez_new {idx ci N : Nat} {C : String} {T0 : u_T} {fs : List xV} (ty : Nat → FieldType) (hd : decode X.1 pc = .ok (.new idx, 3)) (hcl : Cond.classLink X.2.1 idx C ∈ xWS) (hin : Cond.instantiable C N ∈ xWS) (hini : Cond.initialized C ∈ xWS) (hci : vwCl[ci]? = some (C, T0, N)) (hty : ∀ k, k < N → parseFieldDescriptor (T0 k).2.2.1 = some (ty k)) (hfs : fs.all isDef = true) (hz0 : ∀ v ∈ fs, inV v) (hfv : ∀ q, q < N → defaultValue (ty q) = vp_V (fs.map (rv 0)) q) (hc : k + 1 ≤ X.2.2.2.2.1) (hs : j + N ≤ X.2.2.2.2.2.1) (kk : Ez Am X Post (k + 1) (j + N) (n + 1) (va_up w n (xO ci fs)) (pc + 3) L (xr n :: st)) : Ez Am X Post k j n w pc L st := by
  intro p l e R s m args below meth c H locs Q B D ls hA hC hR hk hS hL hst
  refine W.ofSize hR hC.2.2.2.2.2.2.2.2.2.1 hk (fun hz => ?_)
  have hKn := hC.2.2.2.2.1.1 ci _ hci
  obtain ⟨ty0, hin0, -, -⟩ := cl_all hci
  refine W.newcK (h := B + n) hC.1 hC.2.1 hC.2.2.1 (hC.2.2.2.1 _ hcl) (hC.2.2.2.1 _ hin) (hC.2.2.2.1 _ hini) rfl hd (by have := hC.2.2.2.2.2.2.2.1.2.2.1; omega) (by have := hC.2.2.2.2.2.2.2.1.2.2.2; omega) hKn.2.1 hz (fun H1 kC hkC e1 z1 o1 => ?_)
  have em : fs.map (rv B) = fs.map (rv 0) := List.map_congr_left (fun v hv => rv_def (List.all_eq_true.mp hfs v hv))
  refine kk p l e R s m args below meth c H1 locs Q B D ls hA hC (hR.push (cA := 0) o1 ?_ hz0) (by omega) (hS.push hz hC.2.2.2.2.2.2.2.2.2.1 z1 o1) hL (hstc (show inV (xr n) from trivial) hst)
  refine ⟨_, hci, (u_born ty hC.2.2.2.1 hin0 hKn hkC e1 hty).to (fun q hq => ?_)⟩
  show _ = vp_V (fs.map (rv B)) q
  rw [em]
  exact hfv q hq
theorem ez_up {r : Nat} {e : xE} (kk : ∀ w2, w2 = va_up w r e → Ez Am X Post k j n w2 pc L st) : Ez Am X Post k j n (va_up w r e) pc L st := kk _ rfl
theorem ez_eq {i x : Int} (h : i = x) (kk : Ez Am X Post k j n w pc L (xi x :: st)) : Ez Am X Post k j n w pc L (xi i :: st) := h ▸ kk
theorem ez_obj {idx r : Nat} (hd : decode X.1 pc = .ok (.invokespecial idx, 3)) (hl : Cond.methodLink X.2.1 idx objectInit ∈ xWS) (hfr : 1 ≤ X.2.2.1) (hlo : (st.map xcat).sum + 12 ≤ X.2.2.2.1) (kk : Ez Am X Post k j n w (pc + 3) L st) : Ez Am X Post k j n w pc L (xr r :: st) := by
  intro p l e R s m args below meth c H locs Q B D ls hA hC hR hk hS hL hst
  have hcs : ((st.map (rv B)).map fun v => v.category).sum = (st.map xcat).sum := cat_sum B st
  refine W.objInit hC.1 hC.2.1 hC.2.2.1 (hC.2.2.2.1 _ hl) (hC.2.2.2.1 _ w_oin) (hC.2.2.2.1 _ w_oco) rfl hL.1 rfl hd (by have := hC.2.2.2.2.2.2.2.1.1; omega) (by show 2 * 0 + _ + 12 ≤ _; rw [hcs]; have := hC.2.2.2.2.2.2.2.1.2.1; omega) ?_
  exact kk p l e R s m args below meth c H locs Q B D ls hA hC hR hk hS hL (hst2 hst)
theorem ez_num {k2 j2 n2 : Nat} (h1 : k = k2) (h2 : j = j2) (h3 : n = n2) (kk : Ez Am X Post k2 j2 n2 w pc L st) : Ez Am X Post k j n w pc L st := by
  subst h1; subst h2; subst h3; exact kk
theorem ez_inI {i : Int} (kk : inI i → Ez Am X Post k j n w pc L (xi i :: st)) : Ez Am X Post k j n w pc L (xi i :: st) := by
  intro p l e R s m args below meth c H locs Q B D ls hA hC hR hk hS hL hst
  exact kk (hst1 hst) p l e R s m args below meth c H locs Q B D ls hA hC hR hk hS hL hst
theorem ez_ret {v : Option xV} (hd : retI X.1 pc v) (hp : Post v w) (hk9 : k = X.2.2.2.2.1) (hj : j ≤ X.2.2.2.2.2.1) : Ez Am X Post k j n w pc L v.toList := by
  intro p l e R s m args below meth c H locs Q B D ls hA hC hR hk hS hL hst
  subst hk9
  exact hC.2.2.2.2.2.2.2.2.2.2 v n w j H locs pc ls hp hR hk hS (fun x hx => hst x (by rw [hx]; exact List.mem_singleton.mpr rfl)) hj hd
theorem ez_iret {i : Int} {P : Int → xW → Prop} (hd : decode X.1 pc = .ok (.ireturn, 1)) (hp : P i w) (hk9 : k = X.2.2.2.2.1) (hj : j ≤ X.2.2.2.2.2.1) : Ez Am X (pI P) k j n w pc L [xi i] := ez_ret (v := some (xi i)) hd ⟨i, rfl, hp⟩ hk9 hj
theorem ez_zret {i : Int} {P : Int → xW → Prop} (hd : decode X.1 pc = .ok (.ireturn, 1)) (hp : (i = 0 ∨ i = 1) ∧ P i w) (hk9 : k = X.2.2.2.2.1) (hj : j ≤ X.2.2.2.2.2.1) : Ez Am X (pZ P) k j n w pc L [xi i] := ez_ret (v := some (xi i)) hd ⟨i, rfl, hp.1, hp.2⟩ hk9 hj
theorem ez_vret {P : xW → Prop} (hd : decode X.1 pc = .ok (.return_, 1)) (hp : P w) (hk9 : k = X.2.2.2.2.1) (hj : j ≤ X.2.2.2.2.2.1) : Ez Am X (pV P) k j n w pc L [] := ez_ret (v := none) hd ⟨rfl, hp⟩ hk9 hj
theorem ez_callV {y : MethodName} {cc : ByteArray} {nL : Nat} {ret : Option FieldType} {np fr lo mc ms : Nat} {idx ci r N : Nat} {T0 : u_T} {as rest fs : List xV} {PostY : xP} (hd : decode X.1 pc = .ok (.invokevirtual idx, 3)) (hc : Ctr (mkC y cc nL ret fr lo mc ms) (xr r :: as) n w PostY) (hlk : lkOK X.2.1 idx y) (hy : yOK y cc nL ret np) (hv : vOK y) (hw : w r = xO ci fs) (hci : vwCl[ci]? = some (y.cls, T0, N)) (hn : as.length = np) (hst0 : st = as.reverse ++ xr r :: rest) (hcat : (rest.map xcat).sum ≤ 8) (hroom : fr + 1 ≤ X.2.2.1 ∧ 8 + (nL + 11) + lo ≤ X.2.2.2.1) (hcell : k + mc ≤ X.2.2.2.2.1 ∧ j + ms ≤ X.2.2.2.2.2.1) (kk : ∀ (v : Option xV) (w2 : xW), PostY v w2 → Ez Am X Post (k + mc) (j + ms) (n + mc) w2 (pc + 3) L (v.toList ++ rest)) : Ez Am X Post k j n w pc L st := by
  intro p l e R s m args below meth c H locs Q B D ls hA hC hR hk hS hL hst
  subst hst0
  refine W.ofSize hR hC.2.2.2.2.2.2.2.2.2.1 hk (fun hz => ?_)
  have hin : ∀ x ∈ xr r :: as, inV x := hstc trivial (fun x hx => hst x (List.mem_append_left _ (List.mem_reverse.mpr hx)))
  have hrest : ∀ x ∈ rest, inV x := fun x hx => hst x (List.mem_append_right _ (List.mem_cons_of_mem _ hx))
  have hne : ci ≠ 99 := by rintro rfl; simp [vwCl] at hci
  have hr : r < n := hR.lt (ciZ hw hne)
  obtain ⟨-, ka, hP, -⟩ := id hR
  have he : (wsOf B ka n w)[r]? = some (B + r, .inr (ci, fs.map (rv B))) := by rw [wsOf_get hr, hw]; rfl
  have hrec := va_recv hC.2.2.2.2.1 hP hci he
  have hts := hC.2.2.2.1
  have hstk : ((as.reverse ++ xr r :: rest).map (rv B)) = (as.map (rv B)).reverse ++ .ref (B + r) :: rest.map (rv B) := by simp [rv]
  refine ez_behind (a := ((xr r :: as).map (rv B)).toArray) hA hC hk hS hL hrest ?_ kk
  rcases hlk with hl | ⟨host, hl⟩
  · exact va_runV (nL := c.maxLocals) (n := np) (Ts := xWS) (As := as.map (rv B)) (rest := rest.map (rv B)) ⟨hC.1, hC.2.1, rfl, hC.2.2.1, hts⟩ (hc l B D)
      ⟨callB_of np hts (good_ws hy.1) rfl rfl rfl (hts _ hy.2.1) (hts _ hl) hy.2.2.2 ⟨show fr + 1 ≤ R.frames by have := hC.2.2.2.2.2.2.2.1.1; omega, show 8 + (nL + 11) + lo ≤ R.locals by have := hC.2.2.2.2.2.2.2.1.2.1; omega⟩, hts _ hv.1, hts _ hv.2⟩
      ⟨Pre.blind (as := xr r :: as), hrec, hC.pre hR hz hin⟩ rfl (by simpa using hn) hL.1 hstk (lv_room (by rw [cat_sum]; exact hcat)) hd ⟨show k + mc ≤ R.cells by have := hC.2.2.2.2.2.2.2.1.2.2.1; omega, show j + ms ≤ R.slots by have := hC.2.2.2.2.2.2.2.1.2.2.2; omega⟩
  · exact va_runVN (nL := c.maxLocals) (n := np) (Ts := xWS) (As := as.map (rv B)) (rest := rest.map (rv B)) ⟨hC.1, hC.2.1, rfl, hC.2.2.1, hts⟩ (hc l B D)
      ⟨va_cnB np hts (good_ws hy.1) rfl rfl rfl (hC.2.2.2.2.2.1 _ hl rfl) (hts _ hy.2.1) hy.2.2.2 ⟨show fr + 1 ≤ R.frames by have := hC.2.2.2.2.2.2.2.1.1; omega, show 8 + (nL + 11) + lo ≤ R.locals by have := hC.2.2.2.2.2.2.2.1.2.1; omega⟩, hts _ hv.1, hts _ hv.2⟩
      ⟨Pre.blind (as := xr r :: as), hrec, hC.pre hR hz hin⟩ rfl (by simpa using hn) hL.1 hstk (lv_room (by rw [cat_sum]; exact hcat)) hd ⟨show k + mc ≤ R.cells by have := hC.2.2.2.2.2.2.2.1.2.2.1; omega, show j + ms ≤ R.slots by have := hC.2.2.2.2.2.2.2.1.2.2.2; omega⟩
theorem ez_callS {y : MethodName} {cc : ByteArray} {nL : Nat} {ret : Option FieldType} {np fr lo mc ms : Nat} {idx : Nat} {as rest : List xV} {PostY : xP} (hd : decode X.1 pc = .ok (.invokestatic idx, 3)) (hc : Ctr (mkC y cc nL ret fr lo mc ms) as n w PostY) (hlk : lkOK X.2.1 idx y) (hy : yOK y cc nL ret np) (hv : Cond.static y ∈ xWS) (hn : as.length = np) (hst0 : st = as.reverse ++ rest) (hcat : (rest.map xcat).sum ≤ 8) (hroom : fr + 1 ≤ X.2.2.1 ∧ 8 + (nL + 11) + lo ≤ X.2.2.2.1) (hcell : k + mc ≤ X.2.2.2.2.1 ∧ j + ms ≤ X.2.2.2.2.2.1) (kk : ∀ (v : Option xV) (w2 : xW), PostY v w2 → Ez Am X Post (k + mc) (j + ms) (n + mc) w2 (pc + 3) L (v.toList ++ rest)) : Ez Am X Post k j n w pc L st := by
  intro p l e R s m args below meth c H locs Q B D ls hA hC hR hk hS hL hst
  subst hst0
  refine W.ofSize hR hC.2.2.2.2.2.2.2.2.2.1 hk (fun hz => ?_)
  have hin : ∀ x ∈ as, inV x := fun x hx => hst x (List.mem_append_left _ (List.mem_reverse.mpr hx))
  have hrest : ∀ x ∈ rest, inV x := fun x hx => hst x (List.mem_append_right _ hx)
  have hts := hC.2.2.2.1
  have hstk : ((as.reverse ++ rest).map (rv B)) = (as.map (rv B)).reverse ++ rest.map (rv B) := by simp
  refine ez_behind (a := (as.map (rv B)).toArray) hA hC hk hS hL hrest ?_ kk
  rcases hlk with hl | ⟨host, hl⟩
  · exact va_runS (nL := c.maxLocals) (n := np) (Ts := xWS) (As := as.map (rv B)) (rest := rest.map (rv B)) ⟨hC.1, hC.2.1, rfl, hC.2.2.1, hts⟩ (hc l B D)
      ⟨callB_of np hts (good_ws hy.1) rfl rfl rfl (hts _ hy.2.1) (hts _ hl) hy.2.2.2 ⟨show fr + 1 ≤ R.frames by have := hC.2.2.2.2.2.2.2.1.1; omega, show 8 + (nL + 11) + lo ≤ R.locals by have := hC.2.2.2.2.2.2.2.1.2.1; omega⟩, hts _ hv⟩
      ⟨Pre.blind (as := as), hC.pre hR hz hin⟩ rfl (by simpa using hn) hL.1 hstk (lv_room (by rw [cat_sum]; exact hcat)) hd ⟨show k + mc ≤ R.cells by have := hC.2.2.2.2.2.2.2.1.2.2.1; omega, show j + ms ≤ R.slots by have := hC.2.2.2.2.2.2.2.1.2.2.2; omega⟩
  · exact va_runSN (nL := c.maxLocals) (n := np) (Ts := xWS) (As := as.map (rv B)) (rest := rest.map (rv B)) ⟨hC.1, hC.2.1, rfl, hC.2.2.1, hts⟩ (hc l B D)
      ⟨va_cnB np hts (good_ws hy.1) rfl rfl rfl (hC.2.2.2.2.2.1 _ hl rfl) (hts _ hy.2.1) hy.2.2.2 ⟨show fr + 1 ≤ R.frames by have := hC.2.2.2.2.2.2.2.1.1; omega, show 8 + (nL + 11) + lo ≤ R.locals by have := hC.2.2.2.2.2.2.2.1.2.1; omega⟩, hts _ hv, trivial⟩
      ⟨Pre.blind (as := as), hC.pre hR hz hin⟩ rfl (by simpa using hn) hL.1 hstk (lv_room (by rw [cat_sum]; exact hcat)) hd ⟨show k + mc ≤ R.cells by have := hC.2.2.2.2.2.2.2.1.2.2.1; omega, show j + ms ≤ R.slots by have := hC.2.2.2.2.2.2.2.1.2.2.2; omega⟩
theorem ez_callI {y : MethodName} {cc : ByteArray} {nL : Nat} {np fr lo mc ms : Nat} {idx r : Nat} {as rest : List xV} {PostY : xP} (hd : decode X.1 pc = .ok (.invokespecial idx, 3)) (hc : Ctr (mkC y cc nL none fr lo mc ms) (xr r :: as) n w PostY) (hlk : lkOK X.2.1 idx y) (hy : yOK y cc nL none np) (hv : nOK y) (hn : as.length = np) (hst0 : st = as.reverse ++ xr r :: rest) (hcat : (rest.map xcat).sum ≤ 8) (hroom : fr + 1 ≤ X.2.2.1 ∧ 8 + (nL + 11) + lo ≤ X.2.2.2.1) (hcell : k + mc ≤ X.2.2.2.2.1 ∧ j + ms ≤ X.2.2.2.2.2.1) (kk : ∀ (v : Option xV) (w2 : xW), PostY v w2 → Ez Am X Post (k + mc) (j + ms) (n + mc) w2 (pc + 3) L (v.toList ++ rest)) : Ez Am X Post k j n w pc L st := by
  intro p l e R s m args below meth c H locs Q B D ls hA hC hR hk hS hL hst
  subst hst0
  refine W.ofSize hR hC.2.2.2.2.2.2.2.2.2.1 hk (fun hz => ?_)
  have hin : ∀ x ∈ xr r :: as, inV x := hstc trivial (fun x hx => hst x (List.mem_append_left _ (List.mem_reverse.mpr hx)))
  have hrest : ∀ x ∈ rest, inV x := fun x hx => hst x (List.mem_append_right _ (List.mem_cons_of_mem _ hx))
  have hts := hC.2.2.2.1
  have hstk : ((as.reverse ++ xr r :: rest).map (rv B)) = (as.map (rv B)).reverse ++ .ref (B + r) :: rest.map (rv B) := by simp [rv]
  refine ez_behind (a := ((xr r :: as).map (rv B)).toArray) hA hC hk hS hL hrest ?_ kk
  rcases hlk with hl | ⟨host, hl⟩
  · exact va_runI (nL := c.maxLocals) (n := np) (Ts := xWS) (As := as.map (rv B)) (rest := rest.map (rv B)) ⟨hC.1, hC.2.1, rfl, hC.2.2.1, hts⟩ (hc l B D)
      ⟨callB_of np hts (good_ws hy.1) rfl rfl rfl (hts _ hy.2.1) (hts _ hl) hy.2.2.2 ⟨show fr + 1 ≤ R.frames by have := hC.2.2.2.2.2.2.2.1.1; omega, show 8 + (nL + 11) + lo ≤ R.locals by have := hC.2.2.2.2.2.2.2.1.2.1; omega⟩, hv.1, hts _ hv.2⟩
      ⟨Pre.blind (as := xr r :: as), hC.pre hR hz hin⟩ rfl (by simpa using hn) hL.1 hstk (lv_room (by rw [cat_sum]; exact hcat)) hd ⟨show k + mc ≤ R.cells by have := hC.2.2.2.2.2.2.2.1.2.2.1; omega, show j + ms ≤ R.slots by have := hC.2.2.2.2.2.2.2.1.2.2.2; omega⟩
  · exact va_runIN (nL := c.maxLocals) (n := np) (Ts := xWS) (As := as.map (rv B)) (rest := rest.map (rv B)) ⟨hC.1, hC.2.1, rfl, hC.2.2.1, hts⟩ (hc l B D)
      ⟨va_cnB np hts (good_ws hy.1) rfl rfl rfl (hC.2.2.2.2.2.1 _ hl rfl) (hts _ hy.2.1) hy.2.2.2 ⟨show fr + 1 ≤ R.frames by have := hC.2.2.2.2.2.2.2.1.1; omega, show 8 + (nL + 11) + lo ≤ R.locals by have := hC.2.2.2.2.2.2.2.1.2.1; omega⟩, hv.1, hts _ hv.2⟩
      ⟨Pre.blind (as := xr r :: as), hC.pre hR hz hin⟩ rfl (by simpa using hn) hL.1 hstk (lv_room (by rw [cat_sum]; exact hcat)) hd ⟨show k + mc ≤ R.cells by have := hC.2.2.2.2.2.2.2.1.2.2.1; omega, show j + ms ≤ R.slots by have := hC.2.2.2.2.2.2.2.1.2.2.2; omega⟩
theorem ez_callVI {y : MethodName} {cc : ByteArray} {nL : Nat} {ret : Option FieldType} {np fr lo mc ms : Nat} {idx ci r N : Nat} {T0 : u_T} {as rest fs : List xV} {P : Int → xW → Prop} (hd : decode X.1 pc = .ok (.invokevirtual idx, 3)) (hc : Ctr (mkC y cc nL ret fr lo mc ms) (xr r :: as) n w (pI P)) (hlk : lkOK X.2.1 idx y) (hy : yOK y cc nL ret np) (hv : vOK y) (hw : w r = xO ci fs) (hci : vwCl[ci]? = some (y.cls, T0, N)) (hn : as.length = np) (hst0 : st = as.reverse ++ xr r :: rest) (hcat : (rest.map xcat).sum ≤ 8) (hroom : fr + 1 ≤ X.2.2.1 ∧ 8 + (nL + 11) + lo ≤ X.2.2.2.1) (hcell : k + mc ≤ X.2.2.2.2.1 ∧ j + ms ≤ X.2.2.2.2.2.1) (kk : ∀ (i : Int) (w2 : xW), inI i → P i w2 → Ez Am X Post (k + mc) (j + ms) (n + mc) w2 (pc + 3) L (xi i :: rest)) : Ez Am X Post k j n w pc L st :=
  ez_callV hd hc hlk hy hv hw hci hn hst0 hcat hroom hcell (fun v w2 h => by obtain ⟨i, rfl, h⟩ := h; exact ez_inI (fun hi => kk i w2 hi h))
theorem ez_callSI {y : MethodName} {cc : ByteArray} {nL : Nat} {ret : Option FieldType} {np fr lo mc ms : Nat} {idx : Nat} {as rest : List xV} {P : Int → xW → Prop} (hd : decode X.1 pc = .ok (.invokestatic idx, 3)) (hc : Ctr (mkC y cc nL ret fr lo mc ms) as n w (pI P)) (hlk : lkOK X.2.1 idx y) (hy : yOK y cc nL ret np) (hv : Cond.static y ∈ xWS) (hn : as.length = np) (hst0 : st = as.reverse ++ rest) (hcat : (rest.map xcat).sum ≤ 8) (hroom : fr + 1 ≤ X.2.2.1 ∧ 8 + (nL + 11) + lo ≤ X.2.2.2.1) (hcell : k + mc ≤ X.2.2.2.2.1 ∧ j + ms ≤ X.2.2.2.2.2.1) (kk : ∀ (i : Int) (w2 : xW), inI i → P i w2 → Ez Am X Post (k + mc) (j + ms) (n + mc) w2 (pc + 3) L (xi i :: rest)) : Ez Am X Post k j n w pc L st :=
  ez_callS hd hc hlk hy hv hn hst0 hcat hroom hcell (fun v w2 h => by obtain ⟨i, rfl, h⟩ := h; exact ez_inI (fun hi => kk i w2 hi h))
theorem ez_callIV {y : MethodName} {cc : ByteArray} {nL : Nat} {np fr lo mc ms : Nat} {idx r : Nat} {as rest : List xV} {P : xW → Prop} (hd : decode X.1 pc = .ok (.invokespecial idx, 3)) (hc : Ctr (mkC y cc nL none fr lo mc ms) (xr r :: as) n w (pV P)) (hlk : lkOK X.2.1 idx y) (hy : yOK y cc nL none np) (hv : nOK y) (hn : as.length = np) (hst0 : st = as.reverse ++ xr r :: rest) (hcat : (rest.map xcat).sum ≤ 8) (hroom : fr + 1 ≤ X.2.2.1 ∧ 8 + (nL + 11) + lo ≤ X.2.2.2.1) (hcell : k + mc ≤ X.2.2.2.2.1 ∧ j + ms ≤ X.2.2.2.2.2.1) (kk : ∀ (w2 : xW), P w2 → Ez Am X Post (k + mc) (j + ms) (n + mc) w2 (pc + 3) L rest) : Ez Am X Post k j n w pc L st :=
  ez_callI hd hc hlk hy hv hn hst0 hcat hroom hcell (fun v w2 h => by obtain ⟨rfl, h⟩ := h; exact kk w2 h)
theorem ez_gets {idx t : Nat} {C nm d : String} (hd : decode X.1 pc = .ok (.getstatic idx, 3)) (hl : Cond.fieldLink X.2.1 idx C nm d ∈ xWS) (hZ : ∀ B s, Am B s → va_Z C nm d (.ref t) (fun q => B ≤ q) s s.heap) (kk : Ez Am X Post k j n w (pc + 3) L (xo t :: st)) : Ez Am X Post k j n w pc L st := by
  intro p l e R s m args below meth c H locs Q B D ls hA hC hR hk hS hL hst
  exact va_gets hC.1 hC.2.1 (hZ B s hA) hS hC.2.2.1 (hC.2.2.2.1 _ hl) (fun _ h => h) hd (kk p l e R s m args below meth c H locs Q B D ls hA hC hR hk hS hL (hstc (show inV (xo t) from trivial) hst))
theorem ez_iald_out {t N : Nat} {f : Nat → Int} {a : Int} (hd : decode X.1 pc = .ok (.iaload, 1)) (hT : (∀ B s, Am B s → va_T .int t N (fun j => .int (Int32.ofInt (f j))) (fun q => B ≤ q) s s.heap) ∧ ∀ j, inI (f j)) (h0 : 0 ≤ a) (h1 : a < N) (kk : Ez Am X Post k j n w (pc + 1) L (xi (f a.toNat) :: st)) : Ez Am X Post k j n w pc L (xi a :: xo t :: st) := by
  intro p l e R s m args below meth c H locs Q B D ls hA hC hR hk hS hL hst
  exact va_ti (f := fun j => .int (Int32.ofInt (f j))) (v := .int (Int32.ofInt (f a.toNat))) hC.1 hC.2.1 (hT.1 B s hA) hS (i32_in (hst1 hst) h0 h1) (by rw [i32_nat (hst1 hst) h0]) hd (kk p l e R s m args below meth c H locs Q B D ls hA hC hR hk hS hL (hstc (hT.2 _) (hst2 (hst2 hst))))
theorem ez_alen_out {t N : Nat} {f : Nat → Int} (hd : decode X.1 pc = .ok (.arraylength, 1)) (hT : (∀ B s, Am B s → va_T .int t N (fun j => .int (Int32.ofInt (f j))) (fun q => B ≤ q) s s.heap) ∧ ∀ j, inI (f j)) (hN : N < 2147483648) (kk : Ez Am X Post k j n w (pc + 1) L (xi N :: st)) : Ez Am X Post k j n w pc L (xo t :: st) := by
  intro p l e R s m args below meth c H locs Q B D ls hA hC hR hk hS hL hst
  exact va_tlen (v := Int32.ofInt N) hC.1 hC.2.1 (hT.1 B s hA) hS (by apply Int32.toInt_inj.mp; show (Int32.ofNat N).toInt = _; rw [Int32.toInt_ofNat_small (by omega), i32_to (by unfold inI; omega)]) hd (kk p l e R s m args below meth c H locs Q B D ls hA hC hR hk hS hL (hstc (by show inI N; unfold inI; omega) (hst2 hst)))
theorem ez_sld {b N : Nat} {xs : Nat → Int32} {a : Int} (hd : decode X.1 pc = .ok (.iaload, 1)) (hX : ∀ B s, Am B s → va_X b N xs s s.heap ∧ b < s.heap.size ∧ ¬ B ≤ b) (h0 : 0 ≤ a) (h1 : a < N) (kk : Ez Am X Post k j n w (pc + 1) L (xi (xs a.toNat).toInt :: st)) : Ez Am X Post k j n w pc L (xi a :: xo b :: st) := by
  intro p l e R s m args below meth c H locs Q B D ls hA hC hR hk hS hL hst
  obtain ⟨q1, q2, q3⟩ := hX B s hA
  have K := kk p l e R s m args below meth c H locs Q B D ls hA hC hR hk hS hL (hstc (i32_r _) (hst2 (hst2 hst)))
  refine va_sld (A := fun q => B ≤ q) hC.1 hC.2.1 q1 q2 q3 hS (i32_in (hst1 hst) h0 h1) hd ?_
  rw [i32_nat (hst1 hst) h0, ← i32_back (xs a.toNat)]
  exact K
theorem ez_slen {b N : Nat} {xs : Nat → Int32} (hd : decode X.1 pc = .ok (.arraylength, 1)) (hX : ∀ B s, Am B s → va_X b N xs s s.heap ∧ b < s.heap.size ∧ ¬ B ≤ b) (hN : N < 2147483648) (kk : Ez Am X Post k j n w (pc + 1) L (xi N :: st)) : Ez Am X Post k j n w pc L (xo b :: st) := by
  intro p l e R s m args below meth c H locs Q B D ls hA hC hR hk hS hL hst
  obtain ⟨q1, q2, q3⟩ := hX B s hA
  have K := kk p l e R s m args below meth c H locs Q B D ls hA hC hR hk hS hL (hstc (by show inI N; unfold inI; omega) (hst2 hst))
  refine va_slen (A := fun q => B ≤ q) hC.1 hC.2.1 q1 q2 q3 hS hd ?_
  have e9 : Int32.ofNat N = Int32.ofInt (N : Int) := by apply Int32.toInt_inj.mp; rw [Int32.toInt_ofNat_small (by omega), i32_to (by unfold inI; omega)]
  rw [e9]
  exact K
end RULES
def CtrZ (Am : Nat → State → Prop) (X : xC) (as : List xV) (n : Nat) (w : xW) (Post : xP) : Prop := ∀ (l : Launch) (B : Nat) (D : va_G), Met l X.2.2.2.2.2.2.2.1 (Cond.code X.2.2.2.2.2.2.2.1 X.1 X.2.2.2.2.2.2.2.2.1 X.2.2.2.2.2.2.2.2.2 :: xWS) ({ frames := X.2.2.1, cells := X.2.2.2.2.1, slots := X.2.2.2.2.2.1, locals := X.2.2.2.1 }) (va_Pc (as.map (rv B)) (fun U => Pre B D as n w U ∧ Am B U)) (Qx B D (n + X.2.2.2.2.1) Post) X.2.2.2.2.1 X.2.2.2.2.2.1 (fun q => B ≤ q)
set_option maxHeartbeats 1000000 in
theorem CtrZ.of {Am : Nat → State → Prop} {y : MethodName} {cc : ByteArray} {nL : Nat} {ret : Option FieldType} {np fr lo mc ms : Nat} {as : List xV} {n : Nat} {w : xW} {Post : xP} (hy : yOK y cc nL ret np) (hcat : as.all (fun x => xcat x == 1) = true) (hlen : as.length ≤ nL) (hP : ∀ v w', Post v w' → okRet ret v) (h : (∀ x ∈ as, inV x) → inW w → Ez Am (mkC y cc nL ret fr lo mc ms) Post 0 0 n w 0 (ent nL as) []) : CtrZ Am (mkC y cc nL ret fr lo mc ms) as n w Post := by
  intro l B D
  have hcat : ∀ x ∈ as, xcat x = 1 := fun x hx => by simpa using List.all_eq_true.mp hcat x hx
  show Met l y (Cond.code y cc nL ret :: xWS) ({ frames := fr, cells := mc, slots := ms, locals := lo }) (va_Pc (as.map (rv B)) (fun U => Pre B D as n w U ∧ Am B U)) (Qx B D (n + mc) Post) mc ms (fun q => B ≤ q)
  refine MetFree.of_bodySF (code := cc) (maxLocals := nL) (ret := ret) hy.2.2.1 ?_ ?_
  · intro args s m h hn
    obtain ⟨meth, c, h1, h2, h3, h4, h5, h6, -, -⟩ := Cond.code_spec hn (atoms_spec (ws := Cond.code y cc nL ret :: xWS) h _ List.mem_cons_self)
    exact ⟨meth, c, h1, h2, h3, h4, h5, h6⟩
  · intro p e s m args below meth c s₁ BL hml hP0 _
    obtain ⟨rfl, ⟨hK, hN, hAO, hR, hz, hin⟩, hAm⟩ := hP0
    have hh0 : s₁.heap = s.heap := by rw [BL.state]; rfl
    have hts0 := atoms_spec (ws := Cond.code y cc nL ret :: xWS) BL.pre
    have hr := BL.returns
    have hlocks := BL.notSynchronized
    have hX : Cx (mkC y cc nL ret fr lo mc ms) Post p l e ({ frames := fr, cells := mc, slots := ms, locals := lo }) s m (as.map (rv B)).toArray below meth c (MQ below (Qx B D (n + mc) Post) (as.map (rv B)).toArray s mc ms (fun q => B ≤ q)) B D := by
      refine ⟨BL.exec, BL.bytes, findClass_of_methodNamed BL.named, fun w hw => hts0 w (List.mem_cons_of_mem _ hw), hK, hN, hAO, ⟨Nat.le_refl _, Nat.le_refl _, Nat.le_refl _, Nat.le_refl _⟩, fun hi => ?_, by omega, ?_⟩
      · have h1 : meth.name = y.name := (name_of_methodNamed BL.named BL.method).1
        rw [h1]
        simpa [mkC] using hi
      · intro v n' w' j H locs pc ls hp hRel hk hS hv hj hret
        have hn' : n' = n + mc := by
          have hk : s.heap.size + mc = B + n' := hk
          omega
        subst hn'
        have hQ : ∀ t : State, t.heap = H → s.WarmedH t.vm → Qx B D (n + mc) Post (as.map (rv B)).toArray s (.returned (v.map (rv B))) t := by
          intro t ht hW
          refine ⟨v, w', rfl, hp, hv, by rw [ht]; exact hRel.moved hW.alike, by rw [ht]; exact hS.1, fun q hq => ?_⟩
          rw [ht]
          exact hS.2.1 q (by omega) (by show ¬ B ≤ q; omega)
        refine W.widen (k := mc) (n := ms) (Nat.le_refl _) hj ?_
        have hok := hP v w' hp
        match ret, v, hr, hok, hQ, hret with
        | none, none, hr, _, hQ, hret => exact W.vret BL.exec BL.bytes hr hQ hS.2.2 hret
        | some .int, some (.inl i), hr, _, hQ, hret => exact W.iret BL.exec BL.bytes hr hQ hS.2.2 hret
        | some .boolean, some (.inl i), hr, hb, hQ, hret =>
          refine W.zret BL.exec BL.bytes hr ?_ hQ hS.2.2 hret
          rcases hb with rfl | rfl <;> rfl
        | some (.object C), some (.inr (.inl (some r))), hr, _, hQ, hret => exact W.aret BL.exec BL.bytes hr (Or.inl ⟨C, rfl⟩) (Or.inr ⟨_, rfl⟩) hQ hS.2.2 hret
    have hl := lv_entry (as.map (rv B)) (n := nL) (by rw [lg_len B as hcat]; exact hlen)
    have hL : hasL B c ((lg_sl (as.map (rv B)) ++ List.replicate (nL - (lg_sl (as.map (rv B))).length) Slot.unset).toArray) (ent nL as) := by
      have hle : (ent nL as).length = nL := by simp [ent]; omega
      refine ⟨by rw [hl.1, hml], ⟨by rw [hle]; exact hl.1, hl.2.1, ?_⟩, ?_⟩
      · rintro ⟨i, x⟩ hq
        obtain ⟨v, h1, rfl⟩ := mem_prL.mp hq
        have h2 := entry_args B as hcat 0 i v (ent_get h1)
        rw [Nat.zero_add] at h2
        exact hl.2.2 _ h2
      · intro v hv
        obtain ⟨i, hi⟩ := List.mem_iff_getElem?.mp hv
        exact hin v (List.mem_of_getElem? (ent_get hi))
    have K := h hin hR.inW p l e _ s m _ below meth c s.heap [] _ B D _ hAm hX hR hz va_S.rf hL (fun x hx => by cases hx)
    rw [List.map_nil, ← lg_entry_eq] at K
    obtain ⟨t, a1, o, b1, b2, b3⟩ := K s₁ hh0 (Stand.of_body BL)
    exact ⟨t, o, a1, b1, b2, ⟨b3.1, b3.2⟩⟩
theorem preZ_blind {Am2 : Nat → State → Prop} (hb2 : ∀ B U g mk a, Am2 B U → Am2 B (State.calling U g mk a)) {B : Nat} {D : va_G} {as : List xV} {n : Nat} {w : xW} : FrameBlind (va_Pc (as.map (rv B)) (fun U => Pre B D as n w U ∧ Am2 B U)) := by
  rintro a U g mk ⟨h0, h1, h2⟩
  have h3 := Pre.blind (B := B) (D := D) (as := as) (n := n) (w := w) a U g mk ⟨h0, h1⟩
  exact ⟨h0, h3.2, hb2 B U g mk a h2⟩
theorem ez_callIZ {Am Am2 : Nat → State → Prop} {X : xC} {Post : xP} {k j n : Nat} {w : xW} {pc : Nat} {L : List (Option xV)} {st : List xV} {y : MethodName} {cc : ByteArray} {nL : Nat} {np fr lo mc ms : Nat} {idx r : Nat} {as rest : List xV} {PostY : xP} (hd : decode X.1 pc = .ok (.invokespecial idx, 3)) (hb2 : ∀ B U g mk a, Am2 B U → Am2 B (State.calling U g mk a)) (ht2 : ∀ (B : Nat) (s U : State) (H : Heap) (locs : List Loc), Am B s → xS B s H locs → U.heap = H → s.WarmedH U.vm → Am2 B U) (hc : CtrZ Am2 (mkC y cc nL none fr lo mc ms) (xr r :: as) n w PostY) (hlk : lkOK X.2.1 idx y) (hy : yOK y cc nL none np) (hv : nOK y) (hn : as.length = np) (hst0 : st = as.reverse ++ xr r :: rest) (hcat : (rest.map xcat).sum ≤ 8) (hroom : fr + 1 ≤ X.2.2.1 ∧ 8 + (nL + 11) + lo ≤ X.2.2.2.1) (hcell : k + mc ≤ X.2.2.2.2.1 ∧ j + ms ≤ X.2.2.2.2.2.1) (kk : ∀ (v : Option xV) (w2 : xW), PostY v w2 → Ez Am X Post (k + mc) (j + ms) (n + mc) w2 (pc + 3) L (v.toList ++ rest)) : Ez Am X Post k j n w pc L st := by
  intro p l e R s m args below meth c H locs Q B D ls hA hC hR hk hS hL hst
  subst hst0
  refine W.ofSize hR hC.2.2.2.2.2.2.2.2.2.1 hk (fun hz => ?_)
  have hin : ∀ x ∈ xr r :: as, inV x := hstc trivial (fun x hx => hst x (List.mem_append_left _ (List.mem_reverse.mpr hx)))
  have hrest : ∀ x ∈ rest, inV x := fun x hx => hst x (List.mem_append_right _ (List.mem_cons_of_mem _ hx))
  have hts := hC.2.2.2.1
  have hstk : ((as.reverse ++ xr r :: rest).map (rv B)) = (as.map (rv B)).reverse ++ .ref (B + r) :: rest.map (rv B) := by simp [rv]
  refine ez_behind (a := ((xr r :: as).map (rv B)).toArray) hA hC hk hS hL hrest ?_ kk
  rcases hlk with hl | ⟨host, hl⟩
  · exact va_runI (nL := c.maxLocals) (n := np) (Ts := xWS) (As := as.map (rv B)) (rest := rest.map (rv B)) ⟨hC.1, hC.2.1, rfl, hC.2.2.1, hts⟩ (hc l B D)
      ⟨callB_of np hts (good_ws hy.1) rfl rfl rfl (hts _ hy.2.1) (hts _ hl) hy.2.2.2 ⟨show fr + 1 ≤ R.frames by have := hC.2.2.2.2.2.2.2.1.1; omega, show 8 + (nL + 11) + lo ≤ R.locals by have := hC.2.2.2.2.2.2.2.1.2.1; omega⟩, hv.1, hts _ hv.2⟩
      ⟨preZ_blind hb2 (as := xr r :: as), fun U hU hW => ⟨rfl, (hC.pre hR hz hin U hU hW).2, ht2 B s U H locs hA hS hU hW⟩⟩ rfl (by simpa using hn) hL.1 hstk (lv_room (by rw [cat_sum]; exact hcat)) hd ⟨show k + mc ≤ R.cells by have := hC.2.2.2.2.2.2.2.1.2.2.1; omega, show j + ms ≤ R.slots by have := hC.2.2.2.2.2.2.2.1.2.2.2; omega⟩
  · exact va_runIN (nL := c.maxLocals) (n := np) (Ts := xWS) (As := as.map (rv B)) (rest := rest.map (rv B)) ⟨hC.1, hC.2.1, rfl, hC.2.2.1, hts⟩ (hc l B D)
      ⟨va_cnB np hts (good_ws hy.1) rfl rfl rfl (hC.2.2.2.2.2.1 _ hl rfl) (hts _ hy.2.1) hy.2.2.2 ⟨show fr + 1 ≤ R.frames by have := hC.2.2.2.2.2.2.2.1.1; omega, show 8 + (nL + 11) + lo ≤ R.locals by have := hC.2.2.2.2.2.2.2.1.2.1; omega⟩, hv.1, hts _ hv.2⟩
      ⟨preZ_blind hb2 (as := xr r :: as), fun U hU hW => ⟨rfl, (hC.pre hR hz hin U hU hW).2, ht2 B s U H locs hA hS hU hW⟩⟩ rfl (by simpa using hn) hL.1 hstk (lv_room (by rw [cat_sum]; exact hcat)) hd ⟨show k + mc ≤ R.cells by have := hC.2.2.2.2.2.2.2.1.2.2.1; omega, show j + ms ≤ R.slots by have := hC.2.2.2.2.2.2.2.1.2.2.2; omega⟩
