/-! ===== what the document's words mean, over a list of codes, a mode, a set of notes that are there ===== -/
def two (a : Nat) : Bool := (a &&& (a - 1)) != 0
/-- the set of those below n of which P is true -/
def bs (P : Nat → Bool) : Nat → Nat
  | 0 => 0
  | n + 1 => if P n then bs P n ||| 2 ^ n else bs P n
theorem bs_bit (P : Nat → Bool) : ∀ n i, (bs P n).testBit i = (decide (i < n) && P i) := by
  intro n
  induction n with
  | zero => intro i; simp [bs]
  | succ n ih =>
    intro i
    unfold bs
    by_cases h : P n = true
    · rw [if_pos h, Nat.testBit_or, ih, Nat.testBit_two_pow]
      by_cases e : n = i
      · subst e; simp [h]
      · have : (i < n + 1) ↔ (i < n) := by omega
        simp [e, this]
    · rw [if_neg h, ih]
      by_cases e : i = n
      · subst e; simp [h]
      · have : (i < n + 1) ↔ (i < n) := by omega
        simp [this]
theorem lt_of_bits {a n : Nat} (h : ∀ i, n ≤ i → a.testBit i = false) : a < 2 ^ n := by
  apply Nat.lt_pow_two_of_testBit
  exact h
theorem bs_lt (P : Nat → Bool) (n : Nat) : bs P n < 2 ^ n := lt_of_bits (fun i hi => by rw [bs_bit]; simp; omega)
theorem bs_congr {P Q : Nat → Bool} : ∀ n, (∀ i, i < n → P i = Q i) → bs P n = bs Q n := by
  intro n h
  apply Nat.eq_of_testBit_eq
  intro i
  rw [bs_bit, bs_bit]
  by_cases q : i < n
  · simp [q, h i q]
  · simp [q]
theorem eq_bs {a n : Nat} {P : Nat → Bool} (h : ∀ i, a.testBit i = (decide (i < n) && P i)) : a = bs P n := by
  apply Nat.eq_of_testBit_eq
  intro i
  rw [bs_bit, h]
def tmL (cs : List Int) (i : Nat) : Int := cs.getD i 0 / 12
def ptL (cs : List Int) (i : Nat) : Int := cs.getD i 0 % 12
def nA (nu : Nat → Int) (t p : Int) : Int := if 0 ≤ t ∧ t < 20 ∧ 0 ≤ p ∧ p < 12 then nu (t * 12 + p).toNat else -4
def metF (tf pf nu : Nat → Int) (mo : Int) (q : Nat) (d e : Int) : Int :=
  if mo = 1 then nA nu (tf q + d) ((pf q + e) % 12)
  else if nA nu (tf q + d) (pf q + e) < 0 ∧ mo = 2 then (if nA nu (tf q + d) (pf q + e - 1) < 0 then nA nu (tf q + d) (pf q + e + 1) else nA nu (tf q + d) (pf q + e - 1))
  else nA nu (tf q + d) (pf q + e)
def nuS (cs : List Int) (pr : Nat) : Nat → Nat → Int
  | 0 => fun _ => -4
  | i + 1 => if pr.testBit i then va_up (nuS cs pr i) (cs.getD i 0).toNat (i : Int) else nuS cs pr i
def metS (cs : List Int) (mo : Int) (pr : Nat) (q : Nat) (d e : Int) : Int := metF (tmL cs) (ptL cs) (nuS cs pr cs.length) mo q d e
def dK (k : Nat) : Int := (k : Int) / 23 - 19
def eK (k : Nat) : Int := (k : Int) % 23 - 11
def hitP (mo d e : Int) (k : Nat) : Prop := d = dK k ∧ (if mo = 1 then e % 12 = eK k else if mo = 2 then (e = eK k ∨ e - 1 = eK k ∨ e + 1 = eK k) else e = eK k)
def hitB (cs : List Int) (mo : Int) (b m k : Nat) : Bool := decide (tmL cs m - tmL cs b = dK k) && (if mo = 1 then decide ((ptL cs m - ptL cs b) % 12 = eK k) else if mo = 2 then (decide (ptL cs m - ptL cs b = eK k) || (decide (ptL cs m - ptL cs b - 1 = eK k) || decide (ptL cs m - ptL cs b + 1 = eK k))) else decide (ptL cs m - ptL cs b = eK k))
def lgS (cs : List Int) (mo : Int) (pr k : Nat) : Nat := bs (fun b => pr.testBit b && (List.range 14).any (fun m => pr.testBit m && hitB cs mo b m k)) 14
def wdL (cs : List Int) (mo : Int) (pr : Nat) : List Nat := (List.range 897).filter (fun k => two (lgS cs mo pr k))
def addS (acc : List Nat) (s : Nat) : List Nat := if s ∈ acc then acc else acc ++ [s]
def cvG (mt : Nat → Nat → Int) (set k : Nat) : Nat → Nat → Nat
  | 0, c => c
  | i + 1, c => if set.testBit i && decide (0 ≤ mt i k) then cvG mt set k i c ||| 2 ^ (mt i k).toNat else cvG mt set k i c
def pcG (lg : Nat → Nat) (mt : Nat → Nat → Int) (L : List Nat) (set : Nat) : Nat × Nat := (L.filter (fun k => lg k &&& set == set)).foldl (fun a k => (a.1 + 1, cvG mt set k 14 a.2)) (0, 0)
def mtS (cs : List Int) (mo : Int) (pr : Nat) (i k : Nat) : Int := metS cs mo pr i (dK k) (eK k)
def pcS (cs : List Int) (mo : Int) (pr set : Nat) : Nat × Nat := pcG (lgS cs mo pr) (mtS cs mo pr) (wdL cs mo pr) set
def gnS (cs : List Int) (mo : Int) (pr set : Nat) : Int := (pc14 (pcS cs mo pr set).2 : Int) - pc14 set - (pcS cs mo pr set).1 + 1
def shG (lg : Nat → Nat) (L : List Nat) : List Nat := ((L.filter (fun k => decide (448 < k))).map lg).foldl addS []
theorem cvG_lt {mt : Nat → Nat → Int} {set k : Nat} (h : ∀ i, i < 14 → set.testBit i = true → mt i k < 14) : ∀ i c, i ≤ 14 → c < 16384 → cvG mt set k i c < 16384 := by
  intro i
  induction i with
  | zero => intro c _ hc; exact hc
  | succ i ih =>
    intro c hi hc
    unfold cvG
    split
    · rename_i q
      simp only [Bool.and_eq_true, decide_eq_true_eq] at q
      have := h i (by omega) q.1
      exact Nat.or_lt_two_pow (n := 14) (ih c (by omega) hc) (Nat.pow_lt_pow_right (by decide) (by omega))
    · exact ih c (by omega) hc
theorem cvG_congr {mt m2 : Nat → Nat → Int} {set k : Nat} : ∀ i c, (∀ j, j < i → set.testBit j = true → mt j k = m2 j k) → cvG mt set k i c = cvG m2 set k i c := by
  intro i
  induction i with
  | zero => intro c _; rfl
  | succ i ih =>
    intro c h
    unfold cvG
    rw [ih c (fun j hj => h j (by omega))]
    by_cases q : set.testBit i = true
    · rw [h i (by omega) q]
    · simp [q]
def shL (cs : List Int) (mo : Int) (pr : Nat) : List Nat := shG (lgS cs mo pr) (wdL cs mo pr)
theorem take_succ_get {α : Type} {L : List α} {i : Nat} (h : i < L.length) : L.take (i + 1) = L.take i ++ [L[i]] := by rw [List.take_succ, List.getElem?_eq_getElem h]; rfl
theorem fold_step {α β : Type} {L : List α} {i : Nat} (h : i < L.length) (f : β → α → β) (b : β) : (L.take (i + 1)).foldl f b = f ((L.take i).foldl f b) L[i] := by rw [take_succ_get h, List.foldl_append]; rfl
