/-! ===== contracts weakened; a piece as a list of codes and a mode ===== -/
theorem Ctr.mono {X : xC} {as : List xV} {n : Nat} {w : xW} {P P2 : xP} (h : Ctr X as n w P) (hm : ∀ v w2, P v w2 → P2 v w2) : Ctr X as n w P2 := by
  intro l B D p e ha hc hk s m args below hf happ hP hK
  obtain ⟨k, o, h1, h2, h3, hQ⟩ := h l B D p e ha hc hk s m args below hf happ hP hK
  refine ⟨k, o, h1, h2, h3, ?_, hQ.2⟩
  obtain ⟨v, w2, q1, q2, q3⟩ := hQ.1
  exact ⟨v, w2, q1, hm v w2 q2, q3⟩
theorem Ctr.monoI {X : xC} {as : List xV} {n : Nat} {w : xW} {P P2 : Int → xW → Prop} (h : Ctr X as n w (pI P)) (hm : ∀ v w2, P v w2 → P2 v w2) : Ctr X as n w (pI P2) := h.mono (fun v w2 ⟨i, e, q⟩ => ⟨i, e, hm i w2 q⟩)
theorem Ctr.monoZ {X : xC} {as : List xV} {n : Nat} {w : xW} {P P2 : Int → xW → Prop} (h : Ctr X as n w (pZ P)) (hm : ∀ v w2, (v = 0 ∨ v = 1) → P v w2 → P2 v w2) : Ctr X as n w (pZ P2) := h.mono (fun v w2 ⟨i, e, z, q⟩ => ⟨i, e, z, hm i w2 z q⟩)
theorem Ctr.monoV {X : xC} {as : List xV} {n : Nat} {w : xW} {P P2 : xW → Prop} (h : Ctr X as n w (pV P)) (hm : ∀ w2, P w2 → P2 w2) : Ctr X as n w (pV P2) := h.mono (fun v w2 ⟨e, q⟩ => ⟨e, hm w2 q⟩)
/-- f holds the list -/
def Lst (f : Nat → Int) (cs : List Int) : Prop := ∀ i, i < cs.length → f i = cs.getD i 0
def PcAt (w : xW) (r a : Nat) (cs : List Int) (mo : Int) : Prop := ∃ f, w r = xO 2 [xr a, xi cs.length, xi mo] ∧ w a = xA 14 f ∧ Lst f cs ∧ cs.length ≤ 14
/-- codes of notes -/
def Cod (cs : List Int) : Prop := ∀ i, i < cs.length → 0 ≤ cs.getD i 0 ∧ cs.getD i 0 < 240
/-- outside of these cells nothing has changed -/
def Fr2 (w w2 : xW) (r a : Nat) : Prop := ∀ q, q ≠ r → q ≠ a → w2 q = w q
theorem PcAt.fr {w w2 : xW} {r a : Nat} {cs : List Int} {mo : Int} (h : PcAt w r a cs mo) (h1 : w2 r = w r) (h2 : w2 a = w a) : PcAt w2 r a cs mo := by
  obtain ⟨f, q1, q2, q3⟩ := h
  exact ⟨f, h1.trans q1, h2.trans q2, q3⟩
theorem PcAt.ne {w : xW} {r a : Nat} {cs : List Int} {mo : Int} (h : PcAt w r a cs mo) : a ≠ r := by
  obtain ⟨f, q1, q2, q3⟩ := h
  rintro rfl
  rw [q2] at q1; cases q1
def posF (f : Nat → Int) (c : Int) : Nat → Nat
  | 0 => 0
  | k + 1 => if c < f k then posF f c k else k + 1
theorem posF_le (f : Nat → Int) (c : Int) : ∀ k, posF f c k ≤ k := by
  intro k
  induction k with
  | zero => exact Nat.le_refl _
  | succ k ih =>
    unfold posF
    split
    · omega
    · exact Nat.le_refl _
theorem posF_eq {f : Nat → Int} {c : Int} : ∀ (sz p : Nat), p ≤ sz → (∀ q, p ≤ q → q < sz → c < f q) → (p = 0 ∨ f (p - 1) ≤ c) → p = posF f c sz := by
  intro sz
  induction sz with
  | zero => intro p h1 _ _; exact Nat.le_zero.mp h1
  | succ k ih =>
    intro p h1 h2 h3
    unfold posF
    by_cases e : p = k + 1
    · subst e
      rw [if_neg]
      rcases h3 with h3 | h3
      · omega
      · rw [Nat.add_sub_cancel] at h3; omega
    · rw [if_pos (h2 k (by omega) (by omega))]
      exact ih p (by omega) (fun q a b => h2 q a (by omega)) h3
theorem posF_congr {f g : Nat → Int} {c : Int} : ∀ sz, (∀ i, i < sz → f i = g i) → posF f c sz = posF g c sz := by
  intro sz
  induction sz with
  | zero => intro _; rfl
  | succ k ih =>
    intro h
    unfold posF
    rw [h k (by omega), ih (fun i hi => h i (by omega))]
def posL (c : Int) (cs : List Int) : Nat := posF (fun i => cs.getD i 0) c cs.length
def insL (c : Int) (cs : List Int) : List Int := cs.insertIdx (posL c cs) c
def numL (c : Int) (cs : List Int) : Int := match cs.findIdx? (fun x => x == c) with
  | some k => k
  | none => -4
theorem posL_le (c : Int) (cs : List Int) : posL c cs ≤ cs.length := posF_le _ _ _
theorem insL_len (c : Int) (cs : List Int) : (insL c cs).length = cs.length + 1 := by
  unfold insL
  rw [List.length_insertIdx_of_le_length (posL_le c cs)]
theorem getD_at {cs : List Int} {i : Nat} (h : i < cs.length) : cs.getD i 0 = cs[i] := by simp [List.getD, h]
theorem numOf_L {f : Nat → Int} {cs : List Int} (hf : Lst f cs) {c v : Int} (h : numOf f cs.length c v) : v = numL c cs := by
  unfold numL
  rcases h with ⟨k, h1, h2, h3, h4⟩ | ⟨h1, h2⟩
  · have : cs.findIdx? (fun x => x == c) = some k := by
      rw [List.findIdx?_eq_some_iff_getElem]
      refine ⟨h1, ?_, fun j hj => ?_⟩
      · rw [← getD_at h1, ← hf k h1, h3]; simp
      · have := h4 j hj
        rw [hf j (by omega), getD_at (by omega)] at this
        simpa using this
    rw [this]; exact h2
  · have : cs.findIdx? (fun x => x == c) = none := by
      rw [List.findIdx?_eq_none_iff]
      intro x hx
      obtain ⟨j, hj, rfl⟩ := List.getElem_of_mem hx
      have := h2 j hj
      rw [hf j hj, getD_at hj] at this
      simpa using this
    rw [this]; exact h1
theorem ins_L {f : Nat → Int} {cs : List Int} (hf : Lst f cs) {c : Int} : Lst (insF f (posL c cs) cs.length c) (insL c cs) := by
  intro i hi
  rw [insL_len] at hi
  have hp := posL_le c cs
  unfold insF insL
  rw [List.getD_eq_getElem?_getD, List.getElem?_insertIdx]
  by_cases h1 : i < posL c cs
  · rw [if_pos h1, if_pos h1, hf i (by omega), List.getD_eq_getElem?_getD]
  · rw [if_neg h1, if_neg h1]
    by_cases h2 : i = posL c cs
    · rw [if_pos h2, if_pos h2, if_pos (by omega)]; rfl
    · rw [if_neg h2, if_pos (by omega), hf (i - 1) (by omega), List.getD_eq_getElem?_getD]
      first | rw [if_neg (Ne.symm h2)] | rw [if_neg h2] | skip
theorem del_L {f : Nat → Int} {cs : List Int} (hf : Lst f cs) {j : Nat} (hj : j < cs.length) : Lst (delF f j cs.length) (cs.eraseIdx j) := by
  intro i hi
  rw [List.length_eraseIdx_of_lt hj] at hi
  unfold delF
  rw [List.getD_eq_getElem?_getD, List.getElem?_eraseIdx]
  by_cases h1 : i < j
  · rw [if_pos h1, if_pos h1, hf i (by omega), List.getD_eq_getElem?_getD]
  · rw [if_neg h1, if_neg h1, if_pos (by omega), hf (i + 1) (by omega), List.getD_eq_getElem?_getD]
section PL
variable {n : Nat} {w : xW} {r a : Nat} {cs : List Int} {mo : Int}
theorem lX2_numberOf (h : PcAt w r a cs mo) {c : Int} : Ctr mX2_numberOf [xr r, xi c] n w (pI (fun v w2 => w2 = w ∧ v = numL c cs)) := by
  obtain ⟨f, h1, h2, h3, h4⟩ := h
  exact (tX2_numberOf h1 h2 h4).monoI (fun v w2 q => ⟨q.1, numOf_L h3 q.2⟩)
theorem lX2_insert (h : PcAt w r a cs mo) (hl : cs.length < 14) {c : Int} : Ctr mX2_insert [xr r, xi c] n w (pI (fun v w2 => v = posL c cs ∧ PcAt w2 r a (insL c cs) mo ∧ Fr2 w w2 r a)) := by
  have ne := h.ne
  obtain ⟨f, h1, h2, h3, h4⟩ := h
  refine (tX2_insert h1 h2 hl).monoI (fun v w2 q => ?_)
  obtain ⟨p, q1, q2, q3, q4, q5⟩ := q
  have hp : p = posL c cs := by
    have := posF_eq cs.length p q1 q2 q3
    rw [this]
    exact posF_congr _ (fun i hi => h3 i hi)
  subst hp
  refine ⟨q4, ⟨_, by rw [q5, up_s, insL_len]; rfl, by rw [q5, up_n ne, up_s], ins_L h3, by rw [insL_len]; omega⟩, fun q e1 e2 => by rw [q5, up_n e1, up_n e2]⟩
theorem lX2_remove (h : PcAt w r a cs mo) {j : Nat} (hj : j < cs.length) : Ctr mX2_remove [xr r, xi j] n w (pV (fun w2 => PcAt w2 r a (cs.eraseIdx j) mo ∧ Fr2 w w2 r a)) := by
  have ne := h.ne
  obtain ⟨f, h1, h2, h3, h4⟩ := h
  refine (tX2_remove h1 h2 h4 hj).monoV (fun w2 q => ?_)
  subst q
  refine ⟨⟨_, by rw [up_n ne.symm, up_s, List.length_eraseIdx_of_lt hj], by rw [up_s], del_L h3 hj, by rw [List.length_eraseIdx_of_lt hj]; omega⟩, fun q e1 e2 => by rw [up_n e2, up_n e1]⟩
theorem lX2_moveAll (h : PcAt w r a cs mo) (hc : Cod cs) {b : Int} (hb : -1000 ≤ b ∧ b ≤ 1000) : Ctr mX2_moveAll [xr r, xi b] n w (pV (fun w2 => PcAt w2 r a (cs.map (fun x => x + b)) mo ∧ Fr2 w w2 r a)) := by
  have ne := h.ne
  obtain ⟨f, h1, h2, h3, h4⟩ := h
  refine (tX2_moveAll h1 h2 h4 hb (fun k hk => by rw [h3 k hk]; have := hc k hk; omega)).monoV (fun w2 q => ?_)
  subst q
  refine ⟨⟨_, by rw [up_n ne.symm, h1, List.length_map], by rw [up_s], fun i hi => ?_, by rw [List.length_map]; exact h4⟩, fun q e1 e2 => by rw [up_n e2]⟩
  rw [List.length_map] at hi
  show (if i < cs.length then f i + b else f i) = _
  rw [if_pos hi, h3 i hi, getD_at hi, getD_at (cs := cs.map (fun x => x + b)) (by rw [List.length_map]; exact hi), List.getElem_map]
theorem lX2_copyFrom {s b : Nat} {ds : List Int} {m2 : Int} {u1 u2 : xV} {g : Nat → Int} (h_r : w r = xO 2 [xr a, u1, u2]) (h_a : w a = xA 14 g) (h2 : PcAt w s b ds m2) (hrs : r ≠ s) (hab : a ≠ b) : Ctr mX2_copyFrom [xr r, xr s] n w (pV (fun w2 => PcAt w2 r a ds m2 ∧ Fr2 w w2 r a)) := by
  have ne : a ≠ r := by rintro rfl; rw [h_a] at h_r; cases h_r
  obtain ⟨f, q1, q2, q3, q4⟩ := h2
  refine (tX2_copyFrom h_r h_a q1 q2 ⟨_, rfl⟩ ⟨_, rfl⟩ hrs hab).monoV (fun w2 q => ?_)
  subst q
  refine ⟨⟨_, by rw [up_s], by rw [up_n ne, up_n ne, up_s], fun i hi => ?_, q4⟩, fun q e1 e2 => by rw [up_n e1, up_n e1, up_n e2]⟩
  show (if i < 14 then f i else g i) = _
  rw [if_pos (by omega)]; exact q3 i hi
theorem lX2_timeOf (h : PcAt w r a cs mo) (hc : Cod cs) {i : Int} : Ctr mX2_timeOf [xr r, xi i] n w (pI (fun v w2 => w2 = w ∧ v = if 0 ≤ i ∧ i < cs.length then cs.getD i.toNat 0 / 12 else -4)) := by
  obtain ⟨f, h1, h2, h3, h4⟩ := h
  refine (tX2_timeOf h1 h2 h4 (fun k hk => by rw [h3 k hk]; exact (hc k hk).1)).monoI (fun v w2 q => ⟨q.1, q.2.trans ?_⟩)
  split
  · rw [h3 _ (by omega)]
  · rfl
theorem lX2_pitchOf (h : PcAt w r a cs mo) (hc : Cod cs) {i : Int} : Ctr mX2_pitchOf [xr r, xi i] n w (pI (fun v w2 => w2 = w ∧ v = if 0 ≤ i ∧ i < cs.length then cs.getD i.toNat 0 % 12 else -4)) := by
  obtain ⟨f, h1, h2, h3, h4⟩ := h
  refine (tX2_pitchOf h1 h2 h4 (fun k hk => by rw [h3 k hk]; exact (hc k hk).1)).monoI (fun v w2 q => ⟨q.1, q.2.trans ?_⟩)
  split
  · rw [h3 _ (by omega)]
  · rfl
theorem lX2_allNotes (h : PcAt w r a cs mo) : Ctr mX2_allNotes [xr r] n w (pI (fun v w2 => w2 = w ∧ v = ((2 ^ cs.length - 1 : Nat) : Int))) := by
  obtain ⟨f, h1, h2, h3, h4⟩ := h
  exact tX2_allNotes h1 h2 h4
end PL
