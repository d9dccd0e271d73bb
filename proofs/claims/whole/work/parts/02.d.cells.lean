/-! ===== cells ===== -/
theorem cl_all {ci : Nat} {C : String} {T : u_T} {N : Nat} (h : vwCl[ci]? = some (C, T, N)) : ∃ ty0 : Nat → FieldType, (∀ w ∈ u_ws C T N, w ∈ xWS) ∧ (∀ k, k < N → parseFieldDescriptor (T k).2.2.1 = some (ty0 k)) ∧ (∀ a, a < N → ∀ b, b < N → a ≠ b → (T a).2.1 ≠ (T b).2.1) := by
  match ci, h with
  | 0, h => cases h; exact ⟨tyX0, iwX0, tyX0_ok, nmX0⟩
  | 1, h => cases h; exact ⟨tyX1, iwX1, tyX1_ok, nmX1⟩
  | 2, h => cases h; exact ⟨tyX2, iwX2, tyX2_ok, nmX2⟩
  | 3, h => cases h; exact ⟨tyX3, iwX3, tyX3_ok, nmX3⟩
  | 4, h => cases h; exact ⟨tyX4, iwX4, tyX4_ok, nmX4⟩
  | 5, h => cases h; exact ⟨tyX5, iwX5, tyX5_ok, nmX5⟩
  | 6, h => cases h; exact ⟨tyX6, iwX6, tyX6_ok, nmX6⟩
  | 7, h => cases h; exact ⟨tyX7, iwX7, tyX7_ok, nmX7⟩
  | ci + 8, h => simp [vwCl] at h
theorem fOK_ci {own : String} {idx ci q : Nat} (h : fOK own idx ci q) : ci ≠ 99 := by
  obtain ⟨C, T, N, h1, -⟩ := h
  intro e
  subst e
  simp [vwCl] at h1
theorem ciZ {ci : Nat} {fs : List xV} {w : xW} {r : Nat} (hw : w r = xO ci fs) (h : ci ≠ 99) : w r ≠ xZ := by
  rw [hw]; intro q; cases q; exact h rfl
theorem arZ {N : Nat} {f : (Nat → Int) ⊕ (Nat → Option Nat)} {w : xW} {r : Nat} (hw : w r = .inl (N, f)) : w r ≠ xZ := by
  rw [hw]; intro q; cases q
theorem va_K.plus {D : va_G} {s : State} (h : va_K D vwCl [] s) {cA : ClassId} {ty : FieldType} (h2 : ArrOfT s cA ty ∧ va_RA s cA ty) : va_K D vwCl [(cA, ty)] s := by
  refine ⟨h.1, fun k q hk => ?_⟩
  have hz : k < 1 := (List.getElem?_eq_some_iff.mp hk).1
  rw [show k = 0 by omega] at hk
  cases hk
  exact h2
theorem va_K.plus2 {D : va_G} {s : State} (h : va_K D vwCl [] s) {cA cB : ClassId} {ty : FieldType} (h2 : ArrOfT s cA ty ∧ va_RA s cA ty) (h3 : ArrOfT s cB ty ∧ va_RA s cB ty) : va_K D vwCl [(cA, ty), (cB, ty)] s := by
  refine ⟨h.1, fun k q hk => ?_⟩
  have hz : k < 2 := (List.getElem?_eq_some_iff.mp hk).1
  rcases (show k = 0 ∨ k = 1 by omega) with e | e
  · subst e; cases hk; exact h2
  · subst e; cases hk; exact h3
section RULES
variable {X : xC} {Post : xP} {k j n : Nat} {w : xW} {pc : Nat} {L : List (Option xV)} {st : List xV}
theorem ex_getfield {idx ci q r : Nat} {fs : List xV} {v : xV} (hd : decode X.1 pc = .ok (.getfield idx, 3)) (hf : fOK X.2.1 idx ci q) (hw : w r = xO ci fs) (hv : fs[q]? = some v) (kk : Ex X Post k j n w (pc + 3) L (v :: st)) : Ex X Post k j n w pc L (xr r :: st) := by
  intro p l e R s m args below meth c H locs Q B D ls hC hR hk hS hL hst
  have hin : inV v := hR.inO hw (fOK_ci hf) v (List.mem_of_getElem? hv)
  have hr : r < n := hR.lt (ciZ hw (fOK_ci hf))
  obtain ⟨-, ka, hP, -⟩ := id hR
  obtain ⟨C, T, N, hc, hq, hC0, hlk⟩ := hf
  obtain ⟨ty0, hin0, -, -⟩ := cl_all hc
  have he : (wsOf B ka n w)[r]? = some (B + r, .inr (ci, fs.map (rv B))) := by rw [wsOf_get hr, hw]; rfl
  have hv2 : (fs.map (rv B))[q]? = some (rv B v) := by rw [List.getElem?_map, hv]; rfl
  have K := kk p l e R s m args below meth c H locs Q B D ls hC hR hk hS hL (hstc hin (hst2 hst))
  have hsame : ∀ x, s.fieldFound? (T q).1 (T q).2.1 (T q).2.2.1 = some x → s.fieldFound? C (T q).2.1 (T q).2.2.1 = some x := by rw [hC0]; exact fun _ h => h
  rcases hlk with hl | ⟨host, hl⟩
  · exact va_get (D := D) hC.1 hC.2.1 hC.2.2.2.1 hin0 hC.2.2.1 hC.2.2.2.2.1 hP r he hc q hq (hC.2.2.2.1 _ hl) hsame hv2 hd K
  · exact va_getN (D := D) hC.1 hC.2.1 hC.2.2.2.1 hin0 hC.2.2.1 hC.2.2.2.2.1 hP r he hc q hq (va_Nw.use rfl (hC.2.2.2.2.2.1 _ hl rfl)) hsame hv2 hd K

theorem ex_putA {idx ci q r : Nat} {fs : List xV} {v : xV} {ty : FieldType} (hd : decode X.1 pc = .ok (.putfield idx, 3)) (hf : fOK X.2.1 idx ci q) (hT : ∀ C T N, vwCl[ci]? = some (C, T, N) → parseFieldDescriptor (T q).2.2.1 = some ty ∧ (T q).2.2.2 = false) (hw : w r = xO ci fs) (hl : q < fs.length) (hn : ∀ B, narrow ty (rv B v) = rv B v) (hfit : ∀ B, fits ty (rv B v) = true) (kk : Ex X Post k j n (va_up w r (xO ci (fs.set q v))) (pc + 3) L st) : Ex X Post k j n w pc L (v :: xr r :: st) := by
  intro p l e R s m args below meth c H locs Q B D ls hC hR hk hS hL hst
  have hr : r < n := hR.lt (ciZ hw (fOK_ci hf))
  have hin := hR.inO hw (fOK_ci hf)
  obtain ⟨hz2, ka, hP, h4⟩ := id hR
  obtain ⟨C, T, N, hc, hq, hC0, hlk⟩ := hf
  obtain ⟨hty, hfin⟩ := hT C T N hc
  obtain ⟨ty0, hin0, ht0, hnm⟩ := cl_all hc
  have he : (wsOf B ka n w)[r]? = some (B + r, .inr (ci, fs.map (rv B))) := by rw [wsOf_get hr, hw]; rfl
  have hsame : ∀ x, s.fieldFound? (T q).1 (T q).2.1 (T q).2.2.1 = some x → s.fieldFound? C (T q).2.1 (T q).2.2.1 = some x := by rw [hC0]; exact fun _ h => h
  have K : ∀ (H1 : Heap) (locs1 : List Loc), va_P D vwCl ((wsOf B ka n w).set r (B + r, .inr (ci, (fs.map (rv B)).set q (rv B v)))) H1 → va_D (fun q => B ≤ q) ((wsOf B ka n w).set r (B + r, .inr (ci, (fs.map (rv B)).set q (rv B v)))) → va_S (fun q => B ≤ q) s.heap H1 locs1 → W p l e R s m args below meth c H1 locs1 k j Q (F0 m (pc + 3) ls (st.map (rv B))) := by
    intro H1 locs1 hP1 _ hS1
    refine kk p l e R s m args below meth c H1 locs1 Q B D ls hC (Rel.set (ka := ka) hr hz2 ?_ h4 ?_) hk hS1 hL (hst2 (hst2 hst))
    · show va_P D vwCl ((wsOf B ka n w).set r (B + r, .inr (ci, (fs.set q v).map (rv B)))) H1
      rw [List.map_set]
      exact hP1
    · intro u hu
      rcases List.mem_or_eq_of_mem_set hu with h | h
      · exact hin u h
      · rw [h]; exact hst1 hst
  rcases hlk with hlk | ⟨host, hlk⟩
  · exact va_put (D := D) hC.1 hC.2.1 hC.2.2.2.1 hin0 ty0 ht0 hnm hC.2.2.1 hC.2.2.2.2.1 hP wsOf_D hS r he hc q hq (hC.2.2.2.1 _ hlk) hsame hfin hty (hn B) (hfit B) (by rw [List.length_map]; exact hl) hd K
  · exact va_putN (D := D) hC.1 hC.2.1 hC.2.2.2.1 hin0 ty0 ht0 hnm hC.2.2.1 hC.2.2.2.2.1 hP wsOf_D hS r he hc q hq (va_Nw.use rfl (hC.2.2.2.2.2.1 _ hlk rfl)) hsame hfin hty (hn B) (hfit B) (by rw [List.length_map]; exact hl) hd K

theorem ex_iaload {r N : Nat} {f : Nat → Int} {a : Int} (hd : decode X.1 pc = .ok (.iaload, 1)) (hw : w r = xA N f) (h0 : 0 ≤ a) (h1 : a < N) (kk : Ex X Post k j n w (pc + 1) L (xi (f a.toNat) :: st)) : Ex X Post k j n w pc L (xi a :: xr r :: st) := by
  intro p l e R s m args below meth c H locs Q B D ls hC hR hk hS hL hst
  have hr : r < n := hR.lt (arZ hw)
  have hin := hR.inA hw
  obtain ⟨-, ka, hP, h4⟩ := id hR
  have h5 := h4 r hr
  rw [hw] at h5
  have he : (wsOf B ka n w)[r]? = some (B + r, .inl (ka r, N, .inl (fun j => Int32.ofInt (f j)))) := by rw [wsOf_get hr, hw]; rfl
  have K := kk p l e R s m args below meth c H locs Q B D ls hC hR hk hS hL (hstc (hin _) (hst2 (hst2 hst)))
  refine va_iald (D := D) hC.1 hC.2.1 (hC.2.2.2.2.1.plus h5.1) hP r 0 he rfl (i32_in (hst1 hst) h0 h1) hd ?_
  rw [i32_nat (hst1 hst) h0]
  exact K
theorem ex_iastore {r N : Nat} {f : Nat → Int} {a x : Int} (hd : decode X.1 pc = .ok (.iastore, 1)) (hw : w r = xA N f) (h0 : 0 ≤ a) (h1 : a < N) (kk : Ex X Post k j n (va_up w r (xA N (va_up f a.toNat x))) (pc + 1) L st) : Ex X Post k j n w pc L (xi x :: xi a :: xr r :: st) := by
  intro p l e R s m args below meth c H locs Q B D ls hC hR hk hS hL hst
  have hr : r < n := hR.lt (arZ hw)
  have hin := hR.inA hw
  obtain ⟨hz2, ka, hP, h4⟩ := id hR
  have h5 := h4 r hr
  rw [hw] at h5
  have he : (wsOf B ka n w)[r]? = some (B + r, .inl (ka r, N, .inl (fun j => Int32.ofInt (f j)))) := by rw [wsOf_get hr, hw]; rfl
  refine va_iast (D := D) hC.1 hC.2.1 (hC.2.2.2.2.1.plus h5.1) hP wsOf_D hS r 0 he rfl (i32_in (hst1 (hst2 hst)) h0 h1) hd (fun H1 locs1 hP1 _ hS1 => ?_)
  rw [i32_nat (hst1 (hst2 hst)) h0] at hP1
  refine kk p l e R s m args below meth c H1 locs1 Q B D ls hC (Rel.set (ka := ka) hr hz2 ?_ h4 ?_) hk hS1 hL (hst2 (hst2 (hst2 hst)))
  · have e1 : upd (fun j => Int32.ofInt (f j)) a.toNat (Int32.ofInt x) = fun j => Int32.ofInt (va_up f a.toNat x j) := by
      funext q
      by_cases h : q = a.toNat <;> simp [upd, va_up, h]
    rw [e1] at hP1
    exact hP1
  · refine ⟨h5.1, fun q => ?_⟩
    by_cases h : q = a.toNat
    · simp only [va_up, h, if_true]; exact hst1 hst
    · simp only [va_up, h, if_false]; exact hin q
theorem ex_aaload {r N v : Nat} {g : Nat → Option Nat} {a : Int} (hd : decode X.1 pc = .ok (.aaload, 1)) (hw : w r = xQ N g) (h0 : 0 ≤ a) (h1 : a < N) (hg : g a.toNat = some v) (kk : Ex X Post k j n w (pc + 1) L (xr v :: st)) : Ex X Post k j n w pc L (xi a :: xr r :: st) := by
  intro p l e R s m args below meth c H locs Q B D ls hC hR hk hS hL hst
  have hr : r < n := hR.lt (arZ hw)
  obtain ⟨-, ka, hP, h4⟩ := id hR
  have h5 := h4 r hr
  rw [hw] at h5
  have he : (wsOf B ka n w)[r]? = some (B + r, .inl (ka r, N, .inr (.inr (.inr (.inr (fun j => (g j).map (fun k => B + k))))))) := by rw [wsOf_get hr, hw]; rfl
  have K := kk p l e R s m args below meth c H locs Q B D ls hC hR hk hS hL (hstc (show inV (xr v) from trivial) (hst2 (hst2 hst)))
  refine va_aldq (D := D) (C := RX2) hC.1 hC.2.1 (hC.2.2.2.2.1.plus h5) hP r 0 he rfl (i32_in (hst1 hst) h0 h1) hd ?_
  rw [i32_nat (hst1 hst) h0, hg]
  exact K
theorem ex_aastore {r N v : Nat} {vs : List xV} {g : Nat → Option Nat} {a : Int} (hd : decode X.1 pc = .ok (.aastore, 1)) (hw : w r = xQ N g) (hv : w v = xO 2 vs) (h0 : 0 ≤ a) (h1 : a < N) (kk : Ex X Post k j n (va_up w r (xQ N (va_up g a.toNat (some v)))) (pc + 1) L st) : Ex X Post k j n w pc L (xr v :: xi a :: xr r :: st) := by
  intro p l e R s m args below meth c H locs Q B D ls hC hR hk hS hL hst
  have hr : r < n := hR.lt (arZ hw)
  have hvn : v < n := hR.lt (ciZ hv (by decide))
  obtain ⟨hz2, ka, hP, h4⟩ := id hR
  have h5 := h4 r hr
  rw [hw] at h5
  have he : (wsOf B ka n w)[r]? = some (B + r, .inl (ka r, N, .inr (.inr (.inr (.inr (fun j => (g j).map (fun k => B + k))))))) := by rw [wsOf_get hr, hw]; rfl
  have hev : (wsOf B ka n w)[v]? = some (B + v, .inr (2, vs.map (rv B))) := by rw [wsOf_get hvn, hv]; rfl
  refine va_astq (D := D) (r := (RX2, TX2, 3)) hC.1 hC.2.1 (hC.2.2.2.2.1.plus h5) hP wsOf_D hS r 0 v 2 he rfl hev rfl (i32_in (hst1 (hst2 hst)) h0 h1) hd (fun H1 locs1 hP1 _ hS1 => ?_)
  rw [i32_nat (hst1 (hst2 hst)) h0] at hP1
  refine kk p l e R s m args below meth c H1 locs1 Q B D ls hC (Rel.set (ka := ka) hr hz2 ?_ h4 h5) hk hS1 hL (hst2 (hst2 (hst2 hst)))
  have e1 : va_up (fun j => (g j).map (fun k => B + k)) a.toNat (some (B + v)) = fun j => (va_up g a.toNat (some v) j).map (fun k => B + k) := by
    funext q
    by_cases h : q = a.toNat <;> simp [va_up, h]
  rw [e1] at hP1
  exact hP1
theorem ex_alen {r N : Nat} {f : Nat → Int} (hd : decode X.1 pc = .ok (.arraylength, 1)) (hw : w r = xA N f) (hN : N < 2147483648) (kk : Ex X Post k j n w (pc + 1) L (xi N :: st)) : Ex X Post k j n w pc L (xr r :: st) := by
  intro p l e R s m args below meth c H locs Q B D ls hC hR hk hS hL hst
  have hr : r < n := hR.lt (arZ hw)
  obtain ⟨-, ka, hP, h4⟩ := id hR
  have h5 := h4 r hr
  rw [hw] at h5
  have he : (wsOf B ka n w)[r]? = some (B + r, .inl (ka r, N, .inl (fun j => Int32.ofInt (f j)))) := by rw [wsOf_get hr, hw]; rfl
  have K := kk p l e R s m args below meth c H locs Q B D ls hC hR hk hS hL (hstc (by show inI N; unfold inI; omega) (hst2 hst))
  exact va_alen (D := D) (v := Int32.ofInt N) hC.1 hC.2.1 (hC.2.2.2.2.1.plus h5.1) hP r 0 he rfl (by apply Int32.toInt_inj.mp; show (Int32.ofNat N).toInt = _; rw [Int32.toInt_ofNat_small (by omega), i32_to (by unfold inI; omega)]) hd K
theorem ex_alenQ {r N : Nat} {g : Nat → Option Nat} (hd : decode X.1 pc = .ok (.arraylength, 1)) (hw : w r = xQ N g) (hN : N < 2147483648) (kk : Ex X Post k j n w (pc + 1) L (xi N :: st)) : Ex X Post k j n w pc L (xr r :: st) := by
  intro p l e R s m args below meth c H locs Q B D ls hC hR hk hS hL hst
  have hr : r < n := hR.lt (arZ hw)
  obtain ⟨-, ka, hP, h4⟩ := id hR
  have h5 := h4 r hr
  rw [hw] at h5
  have he : (wsOf B ka n w)[r]? = some (B + r, .inl (ka r, N, .inr (.inr (.inr (.inr (fun j => (g j).map (fun k => B + k))))))) := by rw [wsOf_get hr, hw]; rfl
  have K := kk p l e R s m args below meth c H locs Q B D ls hC hR hk hS hL (hstc (by show inI N; unfold inI; omega) (hst2 hst))
  exact va_alen (D := D) (v := Int32.ofInt N) hC.1 hC.2.1 (hC.2.2.2.2.1.plus h5) hP r 0 he rfl (by apply Int32.toInt_inj.mp; show (Int32.ofNat N).toInt = _; rw [Int32.toInt_ofNat_small (by omega), i32_to (by unfold inI; omega)]) hd K

theorem ex_putF {idx ci q r : Nat} {fs : List xV} {v : xV} {ty : FieldType} (hd : decode X.1 pc = .ok (.putfield idx, 3)) (hf : fOK X.2.1 idx ci q) (hT : ∀ C T N, vwCl[ci]? = some (C, T, N) → parseFieldDescriptor (T q).2.2.1 = some ty ∧ (T q).2.2.2 = true ∧ (T q).1 = X.2.1) (hnn : ∀ C T N, vwCl[ci]? = some (C, T, N) → ((Cond.fieldLink X.2.1 idx C (T q).2.1 (T q).2.2.1 ∈ xWS) ∨ ∃ host, Cond.fieldLinkNest X.2.1 idx C (T q).2.1 (T q).2.2.1 host ∈ lw_tbl) → Cond.fieldLink X.2.1 idx C (T q).2.1 (T q).2.2.1 ∈ xWS) (hw : w r = xO ci fs) (hl : q < fs.length) (hn : ∀ B, narrow ty (rv B v) = rv B v) (hfit : ∀ B, fits ty (rv B v) = true) (hini : X.2.2.2.2.2.2.1 = true) (kk : Ex X Post k j n (va_up w r (xO ci (fs.set q v))) (pc + 3) L st) : Ex X Post k j n w pc L (v :: xr r :: st) := by
  intro p l e R s m args below meth c H locs Q B D ls hC hR hk hS hL hst
  have hr : r < n := hR.lt (ciZ hw (fOK_ci hf))
  have hin := hR.inO hw (fOK_ci hf)
  obtain ⟨hz2, ka, hP, h4⟩ := id hR
  obtain ⟨C, T, N, hc, hq, hC0, hlk⟩ := hf
  have hlk := hnn C T N hc hlk
  obtain ⟨hty, hfin, hdc⟩ := hT C T N hc
  obtain ⟨ty0, hin0, ht0, hnm⟩ := cl_all hc
  have he : (wsOf B ka n w)[r]? = some (B + r, .inr (ci, fs.map (rv B))) := by rw [wsOf_get hr, hw]; rfl
  have hsame : ∀ x, s.fieldFound? (T q).1 (T q).2.1 (T q).2.2.1 = some x → s.fieldFound? C (T q).2.1 (T q).2.2.1 = some x := by rw [hC0]; exact fun _ h => h
  have K : ∀ (H1 : Heap) (locs1 : List Loc), va_P D vwCl ((wsOf B ka n w).set r (B + r, .inr (ci, (fs.map (rv B)).set q (rv B v)))) H1 → va_D (fun q => B ≤ q) ((wsOf B ka n w).set r (B + r, .inr (ci, (fs.map (rv B)).set q (rv B v)))) → va_S (fun q => B ≤ q) s.heap H1 locs1 → W p l e R s m args below meth c H1 locs1 k j Q (F0 m (pc + 3) ls (st.map (rv B))) := by
    intro H1 locs1 hP1 _ hS1
    refine kk p l e R s m args below meth c H1 locs1 Q B D ls hC (Rel.set (ka := ka) hr hz2 ?_ h4 ?_) hk hS1 hL (hst2 (hst2 hst))
    · show va_P D vwCl ((wsOf B ka n w).set r (B + r, .inr (ci, (fs.set q v).map (rv B)))) H1
      rw [List.map_set]
      exact hP1
    · intro u hu
      rcases List.mem_or_eq_of_mem_set hu with h | h
      · exact hin u h
      · rw [h]; exact hst1 hst
  exact va_putF (D := D) hC.1 hC.2.1 hC.2.2.2.1 hin0 ty0 ht0 hnm hC.2.2.1 hC.2.2.2.2.1 hP wsOf_D hS r he hc q hq (hC.2.2.2.1 _ hlk) hsame hfin (hC.2.2.2.2.2.2.2.2.1 hini) hdc hty (hn B) (hfit B) (by rw [List.length_map]; exact hl) hd K
end RULES
