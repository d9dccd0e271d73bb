theorem low_bits {n i : Nat} (hi : i < 32) : bt (Int32.ofInt (-((n + 1 : Nat) : Int))) i = !(n.testBit i) := by
  show (BitVec.ofInt 32 (Int.negSucc n)).getLsbD i = _
  rw [BitVec.ofInt_negSucc_eq_not_ofNat, BitVec.getLsbD_not, BitVec.getLsbD_ofNat]
  simp [hi]
theorem lowN_dif {m : Nat} (h : m < 16384) (h1 : 0 < m) : lowN m = dif m (m - 1) := by
  have e : xand m (-(m : Int)) = ((dif m (m - 1) : Nat) : Int) := by
    refine xb (Nat.lt_of_le_of_lt (dif_le _ _) (by omega)) (fun i hi => ?_)
    obtain ⟨k, rfl⟩ : ∃ k, m = k + 1 := ⟨m - 1, by omega⟩
    rw [b_and, ofI_n, bt_nI hi, low_bits hi, dif_bit]; rfl
  unfold lowN
  rw [e]; exact Int.toNat_natCast _


theorem sub_le {a b : Nat} (h : ∀ i, a.testBit i = true → b.testBit i = true) : a ≤ b := by
  have : a = a &&& b := by
    apply Nat.eq_of_testBit_eq
    intro i
    rw [Nat.testBit_and]
    cases e : a.testBit i with
    | false => rfl
    | true => rw [h i e]; rfl
  rw [this]; exact Nat.and_le_right
theorem dif0 {a b : Nat} : dif a b = 0 ↔ ∀ i, a.testBit i = true → b.testBit i = true := by
  constructor
  · intro h i hi
    have := dif_bit a b i
    rw [h, Nat.zero_testBit, hi] at this
    cases e : b.testBit i with
    | true => rfl
    | false => rw [e] at this; cases this
  · intro h
    apply Nat.eq_of_testBit_eq
    intro i
    rw [dif_bit, Nat.zero_testBit]
    cases e : a.testBit i with
    | false => rfl
    | true => rw [h i e]; rfl
theorem ex_bit {a : Nat} (h : a ≠ 0) : ∃ i, a.testBit i = true := by
  apply Classical.byContradiction
  intro hn
  apply h
  apply Nat.eq_of_testBit_eq
  intro i
  rw [Nat.zero_testBit]
  cases e : a.testBit i with
  | false => rfl
  | true => exact absurd ⟨i, e⟩ hn
/-- L covers m -/
def CvL (L : List Nat) (m : Nat) : Prop := ∀ i, m.testBit i = true → ∃ c, c ∈ L ∧ c.testBit i = true
theorem rch_ok {C : List Nat} : ∀ (l m : Nat), m < 16384 → (rch C l m = true ↔ ∃ L : List Nat, L.length ≤ l ∧ (∀ c, c ∈ L → c ∈ C) ∧ CvL L m) := by
  intro l
  induction l with
  | zero =>
    intro m hm
    rw [rch, beq_iff_eq]
    constructor
    · intro h
      exact ⟨[], Nat.le_refl _, fun c hc => absurd hc List.not_mem_nil, fun i hi => by rw [h, Nat.zero_testBit] at hi; cases hi⟩
    · rintro ⟨L, h1, h2, h3⟩
      apply Classical.byContradiction
      intro hne
      obtain ⟨i, hi⟩ := ex_bit hne
      obtain ⟨c, hc, -⟩ := h3 i hi
      have := List.length_pos_of_mem hc
      omega
  | succ l ih =>
    intro m hm
    rw [rch, Bool.or_eq_true, beq_iff_eq, List.any_eq_true]
    constructor
    · rintro (h | ⟨c, hc, h⟩)
      · exact ⟨[], Nat.zero_le _, fun c hc => absurd hc List.not_mem_nil, fun i hi => by rw [h, Nat.zero_testBit] at hi; cases hi⟩
      · rw [Bool.and_eq_true] at h
        obtain ⟨L, h1, h2, h3⟩ := (ih (dif m c) (Nat.lt_of_le_of_lt (dif_le m c) hm)).mp h.2
        refine ⟨c :: L, Nat.succ_le_succ h1, fun x hx => ?_, fun i hi => ?_⟩
        · rcases List.mem_cons.mp hx with q | q
          · rw [q]; exact hc
          · exact h2 x q
        · cases e : c.testBit i with
          | true => exact ⟨c, List.mem_cons_self, e⟩
          | false =>
            obtain ⟨x, hx, hx2⟩ := h3 i (by rw [dif_bit, hi, e]; rfl)
            exact ⟨x, List.mem_cons_of_mem _ hx, hx2⟩
    · rintro ⟨L, h1, h2, h3⟩
      by_cases h0 : m = 0
      · exact Or.inl h0
      · right
        have hlo := lowN_dif hm (Nat.pos_of_ne_zero h0)
        have hne : lowN m ≠ 0 := by
          rw [hlo]
          intro q
          have := sub_le (dif0.mp q)
          omega
        obtain ⟨i, hi⟩ := ex_bit hne
        have hmi : m.testBit i = true := by
          rw [hlo, dif_bit] at hi
          exact (Bool.and_eq_true _ _ ▸ hi).1
        obtain ⟨c, hc, hci⟩ := h3 i hmi
        refine ⟨c, h2 c hc, ?_⟩
        rw [Bool.and_eq_true, bne_iff_ne]
        refine ⟨fun q => ?_, ?_⟩
        · have := Nat.testBit_and c (lowN m) i
          rw [q, hci, hi, Nat.zero_testBit] at this
          cases this
        · refine (ih (dif m c) (Nat.lt_of_le_of_lt (dif_le m c) hm)).mpr ⟨L.erase c, ?_, fun x hx => h2 x (List.mem_of_mem_erase hx), fun j hj => ?_⟩
          · have := List.length_erase_of_mem hc
            omega
          · rw [dif_bit, Bool.and_eq_true] at hj
            obtain ⟨x, hx, hxj⟩ := h3 j hj.1
            refine ⟨x, (List.mem_erase_of_ne ?_).mpr hx, hxj⟩
            intro q
            rw [q] at hxj
            rw [hxj] at hj
            exact absurd hj.2 (by decide)
/-- each cover lies within one of those kept -/
theorem red_dom {cv : Nat → Nat} {N : Nat} (hc : ∀ i, cv i < 16384) : ∀ (d k : Nat), k < N → (16384 - cv k) * N + k < d → ∃ c, c ∈ redL cv N ∧ ∀ i, (cv k).testBit i = true → c.testBit i = true := by
  intro d
  induction d with
  | zero => intro k _ h; omega
  | succ d ih =>
    intro k hk h
    by_cases hw : waB cv N k = true
    · obtain ⟨j, hj, hj2, hj3⟩ := waB_iff.mp hw
      have hs := dif0.mp hj2
      have hle := sub_le hs
      have hck := hc k
      have hcj := hc j
      have hlt : (16384 - cv j) * N + j < (16384 - cv k) * N + k := by
        by_cases e : cv j = cv k
        · rw [e]
          rcases hj3 with q | q
          · exact absurd e q
          · omega
        · have h5 : (16384 - cv j) + 1 ≤ 16384 - cv k := by omega
          have h6 := Nat.mul_le_mul_right N h5
          rw [Nat.add_mul, Nat.one_mul] at h6
          omega
      obtain ⟨c, h1, h2⟩ := ih j hj (by omega)
      exact ⟨c, h1, fun i hi => h2 i (hs i hi)⟩
    · refine ⟨cv k, ?_, fun i hi => hi⟩
      unfold redL
      refine List.mem_map.mpr ⟨k, List.mem_filter.mpr ⟨List.mem_range.mpr hk, ?_⟩, rfl⟩
      cases e : waB cv N k with
      | true => exact absurd e hw
      | false => rfl
theorem red_in {cv : Nat → Nat} {N c : Nat} (h : c ∈ redL cv N) : ∃ i, i < N ∧ c = cv i := by
  unfold redL at h
  obtain ⟨k, hk, e⟩ := List.mem_map.mp h
  exact ⟨k, List.mem_range.mp (List.mem_filter.mp hk).1, e.symm⟩
theorem dom_L {P : Nat → Prop} {C : List Nat} (hd : ∀ c, P c → ∃ c2, c2 ∈ C ∧ ∀ i, c.testBit i = true → c2.testBit i = true) : ∀ L : List Nat, (∀ c, c ∈ L → P c) → ∃ L2 : List Nat, L2.length = L.length ∧ (∀ c, c ∈ L2 → c ∈ C) ∧ ∀ m, CvL L m → CvL L2 m := by
  have key : ∀ L : List Nat, (∀ c, c ∈ L → P c) → ∃ L2 : List Nat, L2.length = L.length ∧ (∀ c, c ∈ L2 → c ∈ C) ∧ ∀ c, c ∈ L → ∃ c2, c2 ∈ L2 ∧ ∀ i, c.testBit i = true → c2.testBit i = true := by
    intro L
    induction L with
    | nil => intro _; exact ⟨[], rfl, fun c hc => absurd hc List.not_mem_nil, fun c hc => absurd hc List.not_mem_nil⟩
    | cons x L ih =>
      intro h
      obtain ⟨L2, h1, h2, h3⟩ := ih (fun c hc => h c (List.mem_cons_of_mem _ hc))
      obtain ⟨c2, h4, h5⟩ := hd x (h x List.mem_cons_self)
      refine ⟨c2 :: L2, by rw [List.length_cons, List.length_cons, h1], fun c hc => ?_, fun c hc => ?_⟩
      · rcases List.mem_cons.mp hc with q | q
        · rw [q]; exact h4
        · exact h2 c q
      · rcases List.mem_cons.mp hc with q | q
        · rw [q]; exact ⟨c2, List.mem_cons_self, h5⟩
        · obtain ⟨y, hy, hy2⟩ := h3 c q
          exact ⟨y, List.mem_cons_of_mem _ hy, hy2⟩
  intro L h
  obtain ⟨L2, h1, h2, h3⟩ := key L h
  refine ⟨L2, h1, h2, fun m hm i hi => ?_⟩
  obtain ⟨c, hc, hci⟩ := hm i hi
  obtain ⟨c2, h4, h5⟩ := h3 c hc
  exact ⟨c2, h4, h5 i hci⟩
def orL : List Nat → Nat
  | [] => 0
  | c :: L => orL L ||| c
theorem orL_bit (L : List Nat) (i : Nat) : (orL L).testBit i = true ↔ ∃ c, c ∈ L ∧ c.testBit i = true := by
  induction L with
  | nil =>
    rw [orL, Nat.zero_testBit]
    exact ⟨fun h => absurd h (by decide), fun ⟨c, hc, _⟩ => absurd hc List.not_mem_nil⟩
  | cons x L ih =>
    rw [orL, Nat.testBit_or, Bool.or_eq_true, ih]
    constructor
    · rintro (⟨c, h1, h2⟩ | h)
      · exact ⟨c, List.mem_cons_of_mem _ h1, h2⟩
      · exact ⟨x, List.mem_cons_self, h⟩
    · rintro ⟨c, h1, h2⟩
      rcases List.mem_cons.mp h1 with q | q
      · right; rw [← q]; exact h2
      · exact Or.inl ⟨c, q, h2⟩
/-- m is the union of n of the covers -/
def UN (cv : Nat → Nat) (N n m : Nat) : Prop := ∃ L : List Nat, L.length = n ∧ (∀ c, c ∈ L → ∃ i, i < N ∧ c = cv i) ∧ orL L = m
theorem UN_0 {cv : Nat → Nat} {N m : Nat} : UN cv N 0 m ↔ m = 0 := by
  constructor
  · rintro ⟨L, h1, -, h3⟩
    rw [← h3, List.eq_nil_of_length_eq_zero h1]; rfl
  · intro h; exact ⟨[], rfl, fun c hc => absurd hc List.not_mem_nil, h.symm⟩
theorem UN_s {cv : Nat → Nat} {N n m : Nat} : UN cv N (n + 1) m ↔ ∃ m2 i, UN cv N n m2 ∧ i < N ∧ m = m2 ||| cv i := by
  constructor
  · rintro ⟨L, h1, h2, h3⟩
    cases L with
    | nil => cases h1
    | cons x L =>
      obtain ⟨i, hi, e⟩ := h2 x List.mem_cons_self
      refine ⟨orL L, i, ⟨L, by rw [List.length_cons] at h1; omega, fun c hc => h2 c (List.mem_cons_of_mem _ hc), rfl⟩, hi, ?_⟩
      rw [← h3, orL, e]
  · rintro ⟨m2, i, ⟨L, h1, h2, h3⟩, hi, e⟩
    refine ⟨cv i :: L, by rw [List.length_cons, h1], fun c hc => ?_, ?_⟩
    · rcases List.mem_cons.mp hc with q | q
      · exact ⟨i, hi, q⟩
      · exact h2 c q
    · rw [orL, h3, e]
theorem UN_lt {cv : Nat → Nat} {N : Nat} (hc : ∀ i, cv i < 16384) : ∀ n m, UN cv N n m → m < 16384 := by
  intro n
  induction n with
  | zero => intro m h; rw [UN_0.mp h]; decide
  | succ n ih =>
    intro m h
    obtain ⟨m2, i, h1, -, e⟩ := UN_s.mp h
    rw [e]
    exact Nat.or_lt_two_pow (n := 14) (ih m2 h1) (hc i)
/-- the union of all -/
def Uall (cv : Nat → Nat) (N all : Nat) : Prop := ∀ b, all.testBit b = true ↔ ∃ i, i < N ∧ (cv i).testBit b = true
theorem un_cov {cv : Nat → Nat} {N all : Nat} (ha : Uall cv N all) {L : List Nat} (h : ∀ c, c ∈ L → ∃ i, i < N ∧ c = cv i) (hL : CvL L all) : UN cv N L.length all := by
  refine ⟨L, rfl, h, ?_⟩
  apply Nat.eq_of_testBit_eq
  intro b
  rw [Bool.eq_iff_iff, orL_bit]
  constructor
  · rintro ⟨c, h1, h2⟩
    obtain ⟨i, hi, e⟩ := h c h1
    exact (ha b).mpr ⟨i, hi, by rw [← e]; exact h2⟩
  · exact hL b
theorem un_14 {cv : Nat → Nat} {N all : Nat} (ha : Uall cv N all) (hal : all < 16384) : ∃ n, n ≤ 14 ∧ UN cv N n all := by
  have key : ∀ b : Nat, ∃ L : List Nat, L.length ≤ b ∧ (∀ c, c ∈ L → ∃ i, i < N ∧ c = cv i) ∧ ∀ j, j < b → all.testBit j = true → ∃ c, c ∈ L ∧ c.testBit j = true := by
    intro b
    induction b with
    | zero => exact ⟨[], Nat.le_refl _, fun c hc => absurd hc List.not_mem_nil, fun j hj => absurd hj (Nat.not_lt_zero _)⟩
    | succ b ih =>
      obtain ⟨L, h1, h2, h3⟩ := ih
      by_cases e : all.testBit b = true
      · obtain ⟨i, hi, hb⟩ := (ha b).mp e
        refine ⟨cv i :: L, Nat.succ_le_succ h1, fun c hc => ?_, fun j hj hj2 => ?_⟩
        · rcases List.mem_cons.mp hc with q | q
          · exact ⟨i, hi, q⟩
          · exact h2 c q
        · by_cases q : j = b
          · exact ⟨cv i, List.mem_cons_self, by rw [q]; exact hb⟩
          · obtain ⟨c, hc, hc2⟩ := h3 j (by omega) hj2
            exact ⟨c, List.mem_cons_of_mem _ hc, hc2⟩
      · refine ⟨L, by omega, h2, fun j hj hj2 => ?_⟩
        by_cases q : j = b
        · rw [q] at hj2; exact absurd hj2 e
        · exact h3 j (by omega) hj2
  obtain ⟨L, h1, h2, h3⟩ := key 14
  refine ⟨L.length, h1, un_cov ha h2 (fun i hi => h3 i ?_ hi)⟩
  apply Classical.byContradiction
  intro q
  rw [Nat.testBit_lt_two_pow (Nat.lt_of_lt_of_le hal (Nat.pow_le_pow_right (n := 2) (i := 14) (by decide) (by omega)))] at hi
  cases hi
theorem few_ok {cv : Nat → Nat} {N all j : Nat} (hc : ∀ i, cv i < 16384) (ha : Uall cv N all) (hal : all < 16384) (h1 : UN cv N j all) (h2 : ∀ z, z < j → ¬ UN cv N z all) : fewG (redL cv N) all = j := by
  have hno : ∀ z, z < j → rch (redL cv N) z all = false := by
    intro z hz
    cases e : rch (redL cv N) z all with
    | false => rfl
    | true =>
      exfalso
      obtain ⟨L, g1, g2, g3⟩ := (rch_ok z all hal).mp e
      exact h2 L.length (by omega) (un_cov ha (fun c hc => red_in (g2 c hc)) g3)
  have hj : j ≤ 14 := by
    obtain ⟨n, hn, hu⟩ := un_14 ha hal
    apply Classical.byContradiction
    intro q
    exact h2 n (by omega) hu
  by_cases e : j = 14
  · rw [e]; rw [e] at hno; exact fewG_no hno
  · refine fewG_at (by omega) hno ?_
    obtain ⟨L, g1, g2, g3⟩ := h1
    obtain ⟨L2, k1, k2, k3⟩ := dom_L (P := fun c => ∃ i, i < N ∧ c = cv i) (C := redL cv N) (fun c ⟨i, hi, ec⟩ => by
      rw [ec]; exact red_dom hc _ i hi (Nat.lt_succ_self _)) L g2
    refine (rch_ok j all hal).mpr ⟨L2, by omega, k2, k3 all (fun b hb => ?_)⟩
    rw [← g3] at hb
    exact (orL_bit L b).mp hb
/-- few after the levels up to n -/
def FwA (cv : Nat → Nat) (N n : Nat) (F : Nat → Int) : Prop := ∀ m, m < 16384 → (F m = -1 ∧ ∀ j, j ≤ n → ¬ UN cv N j m) ∨ (∃ j : Nat, j ≤ n ∧ F m = j ∧ UN cv N j m ∧ ∀ z, z < j → ¬ UN cv N z m)
/-- and while those of level n below k, and of k the first i covers, are done -/
def FwB (cv : Nat → Nat) (N n k i : Nat) (F : Nat → Int) : Prop := ∀ m, m < 16384 → (∃ j : Nat, j ≤ n ∧ F m = j ∧ UN cv N j m ∧ ∀ z, z < j → ¬ UN cv N z m) ∨ ((∀ j, j ≤ n → ¬ UN cv N j m) ∧ ((F m = ((n + 1 : Nat) : Int) ∧ UN cv N (n + 1) m) ∨ (F m = -1 ∧ ∀ k2 i2, i2 < N → UN cv N n k2 → (k2 < k ∨ (k2 = k ∧ i2 < i)) → m ≠ k2 ||| cv i2)))
theorem FwA.B {cv : Nat → Nat} {N n : Nat} {F : Nat → Int} (h : FwA cv N n F) : FwB cv N n 0 0 F := by
  intro m hm
  rcases h m hm with ⟨h1, h2⟩ | h1
  · exact Or.inr ⟨h2, Or.inr ⟨h1, fun k2 i2 _ _ q => by omega⟩⟩
  · exact Or.inl h1
theorem FwB.A {cv : Nat → Nat} {N n i : Nat} {F : Nat → Int} (hc : ∀ i, cv i < 16384) (h : FwB cv N n 16384 i F) : FwA cv N (n + 1) F := by
  intro m hm
  rcases h m hm with ⟨j, h1, h2, h3, h4⟩ | ⟨h1, h2 | h2⟩
  · exact Or.inr ⟨j, by omega, h2, h3, h4⟩
  · exact Or.inr ⟨n + 1, Nat.le_refl _, h2.1, h2.2, fun z hz => h1 z (by omega)⟩
  · refine Or.inl ⟨h2.1, fun j hj hu => ?_⟩
    by_cases e : j = n + 1
    · rw [e] at hu
      obtain ⟨m2, i2, u1, u2, u3⟩ := UN_s.mp hu
      exact h2.2 m2 i2 u2 u1 (Or.inl (UN_lt hc n m2 u1)) u3
    · exact h1 j (by omega) hu
theorem FwB.next {cv : Nat → Nat} {N n k : Nat} {F : Nat → Int} (h : FwB cv N n k N F) : FwB cv N n (k + 1) 0 F := by
  intro m hm
  rcases h m hm with h1 | ⟨h1, h2 | h2⟩
  · exact Or.inl h1
  · exact Or.inr ⟨h1, Or.inl h2⟩
  · exact Or.inr ⟨h1, Or.inr ⟨h2.1, fun k2 i2 a b c => h2.2 k2 i2 a b (by omega)⟩⟩
/-- a set that isn't of this level is passed over -/
theorem FwB.skip {cv : Nat → Nat} {N n k : Nat} {F : Nat → Int} (hk : k < 16384) (hF : F k ≠ (n : Int)) (h : FwB cv N n k 0 F) : FwB cv N n (k + 1) 0 F := by
  intro m hm
  rcases h m hm with h1 | ⟨h1, h2 | h2⟩
  · exact Or.inl h1
  · exact Or.inr ⟨h1, Or.inl h2⟩
  · refine Or.inr ⟨h1, Or.inr ⟨h2.1, fun k2 i2 a b c => ?_⟩⟩
    by_cases e : k2 = k
    · intro em
      rw [e] at b em
      rcases h k hk with ⟨j, g1, g2, g3, g4⟩ | ⟨g1, -⟩
      · by_cases ej : j = n
        · rw [ej] at g2; exact hF g2
        · exact h1 (j + 1) (by omega) (UN_s.mpr ⟨k, i2, g3, a, em⟩)
      · exact g1 n (Nat.le_refl _) b
    · exact h2.2 k2 i2 a b (by omega)
/-- one cover more -/
theorem FwB.keep {cv : Nat → Nat} {N n k i : Nat} {F : Nat → Int} (hF : 0 ≤ F (k ||| cv i)) (h : FwB cv N n k i F) : FwB cv N n k (i + 1) F := by
  intro m hm
  rcases h m hm with h1 | ⟨h1, h2 | h2⟩
  · exact Or.inl h1
  · exact Or.inr ⟨h1, Or.inl h2⟩
  · refine Or.inr ⟨h1, Or.inr ⟨h2.1, fun k2 i2 a b c => ?_⟩⟩
    by_cases e : k2 = k ∧ i2 = i
    · intro em
      rw [e.1, e.2] at em
      rw [← em] at hF
      omega
    · exact h2.2 k2 i2 a b (by omega)
theorem FwB.put {cv : Nat → Nat} {N n k i : Nat} {F F2 : Nat → Int} (hi : i < N) (hk : k < 16384) (hFk : F k = (n : Int)) (hF : F (k ||| cv i) < 0) (hs : F2 (k ||| cv i) = ((n + 1 : Nat) : Int)) (ho : ∀ m, m ≠ k ||| cv i → F2 m = F m) (h : FwB cv N n k i F) : FwB cv N n k (i + 1) F2 := by
  have hu : UN cv N n k := by
    rcases h k hk with ⟨j, g1, g2, g3, g4⟩ | ⟨g1, g2 | g2⟩
    · rw [hFk] at g2
      have : j = n := by omega
      rw [this] at g3; exact g3
    · omega
    · omega
  intro m hm
  by_cases em : m = k ||| cv i
  · rcases h m hm with ⟨j, g1, g2, g3, g4⟩ | ⟨g1, g2⟩
    · rw [em] at g2; omega
    · exact Or.inr ⟨g1, Or.inl ⟨by rw [em]; exact hs, UN_s.mpr ⟨k, i, hu, hi, em⟩⟩⟩
  · rw [ho m em]
    rcases h m hm with h1 | ⟨h1, h2 | h2⟩
    · exact Or.inl h1
    · exact Or.inr ⟨h1, Or.inl h2⟩
    · refine Or.inr ⟨h1, Or.inr ⟨h2.1, fun k2 i2 a b c => ?_⟩⟩
      by_cases e : k2 = k ∧ i2 = i
      · rw [e.1, e.2]; exact em
      · exact h2.2 k2 i2 a b (by omega)
theorem FwB.lvl {cv : Nat → Nat} {N n k i : Nat} {F : Nat → Int} (h : FwB cv N n k i F) {m : Nat} (hm : m < 16384) : -1 ≤ F m ∧ F m ≤ (n + 1 : Nat) := by
  rcases h m hm with ⟨j, g1, g2, -⟩ | ⟨-, g2 | g2⟩ <;> omega
theorem FwA.start {cv : Nat → Nat} {N : Nat} {F : Nat → Int} (h0 : F 0 = 0) (h : ∀ m, m < 16384 → m ≠ 0 → F m = -1) : FwA cv N 0 F := by
  intro m hm
  by_cases e : m = 0
  · exact Or.inr ⟨0, Nat.le_refl _, by rw [e, h0]; rfl, UN_0.mpr e, fun z hz => absurd hz (Nat.not_lt_zero _)⟩
  · refine Or.inl ⟨h m hm e, fun j hj hu => ?_⟩
    have : j = 0 := by omega
    rw [this] at hu
    exact e (UN_0.mp hu)
theorem FwA.found {cv : Nat → Nat} {N n all : Nat} {F : Nat → Int} (hc : ∀ i, cv i < 16384) (ha : Uall cv N all) (hal : all < 16384) (h : FwA cv N n F) (hF : 0 ≤ F all) : F all = (fewG (redL cv N) all : Int) := by
  rcases h all hal with ⟨h1, -⟩ | ⟨j, -, h2, h3, h4⟩
  · omega
  · rw [h2, few_ok hc ha hal h3 h4]
theorem FwA.more {cv : Nat → Nat} {N n all : Nat} {F : Nat → Int} (ha : Uall cv N all) (hal : all < 16384) (h : FwA cv N n F) (hF : F all < 0) : n < 14 := by
  obtain ⟨j, hj, hu⟩ := un_14 ha hal
  rcases h all hal with ⟨-, h1⟩ | ⟨j, -, h2, -⟩
  · apply Classical.byContradiction
    intro q
    exact h1 j (by omega) hu
  · omega

theorem up_same {f : Nat → Int} {a : Nat} : va_up f a (f a) = f := by
  funext z
  by_cases h : z = a
  · rw [h, up_s]
  · rw [up_n h]
theorem fold_bit {g : Nat → Nat} (b : Nat) : ∀ (L : List Nat) (c : Nat), (L.foldl (fun c s => c ||| g s) c).testBit b = true ↔ c.testBit b = true ∨ ∃ s, s ∈ L ∧ (g s).testBit b = true := by
  intro L
  induction L with
  | nil => intro c; exact ⟨Or.inl, fun h => h.elim id (fun ⟨s, hs, _⟩ => absurd hs List.not_mem_nil)⟩
  | cons x L ih =>
    intro c
    rw [List.foldl_cons, ih, Nat.testBit_or, Bool.or_eq_true]
    constructor
    · rintro ((h | h) | ⟨s, h1, h2⟩)
      · exact Or.inl h
      · exact Or.inr ⟨x, List.mem_cons_self, h⟩
      · exact Or.inr ⟨s, List.mem_cons_of_mem _ h1, h2⟩
    · rintro (h | ⟨s, h1, h2⟩)
      · exact Or.inl (Or.inl h)
      · rcases List.mem_cons.mp h1 with q | q
        · rw [q] at h2; exact Or.inl (Or.inr h2)
        · exact Or.inr ⟨s, q, h2⟩
theorem cov_all {cs : List Int} {mo : Int} {pr : Nat} : Uall (cvx cs mo pr) (shL cs mo pr).length (covS cs mo pr) := by
  intro b
  unfold covS
  rw [fold_bit (g := fun s => (pcS cs mo pr s).2), Nat.zero_testBit]
  constructor
  · rintro (h | ⟨s, h1, h2⟩)
    · cases h
    · obtain ⟨i, hi, e⟩ := memL.mp h1
      exact ⟨i, hi, by unfold cvx; rw [e]; exact h2⟩
  · rintro ⟨i, hi, h⟩
    exact Or.inr ⟨_, memL.mpr ⟨i, hi, rfl⟩, h⟩
abbrev mX7_fewest : xC := mkC yX7_fewest cX7_fewest 6 (some .int) 1 100 0 0
set_option maxHeartbeats 4000000 in
set_option maxRecDepth 100000 in
theorem tX7_fewest {n : Nat} {W : xW} {cv9 : Nat → Nat} {N all : Nat} {F0 V : Nat → Int} {uu kk ln pl mn pq cv be bg bc bp pa re px : Int} (hO : W 55 = rO uu kk ln pl mn pq cv (N) be bg bc bp pa re px) (hF : W 66 = xA 16384 F0) (hVV : W 67 = xA 448 V) (hN : N ≤ 448) (hV : ∀ i, i < N → V i = (cv9 i : Int)) (hc : ∀ i, cv9 i < 16384) (ha : Uall cv9 N all) (hal : all < 16384) : Ctr mX7_fewest [xr 55, xi all] n W (pI (fun v w2 => v = (fewG (redL cv9 N) all : Int) ∧ (∃ F : Nat → Int, w2 66 = xA 16384 F) ∧ ∀ z, z ≠ 66 → w2 z = W z)) := by
  refine Ctr.of ykX7_fewest rfl (Nat.le_of_ble_eq_true rfl) okI (fun hin hW => ?_)
  show Ex _ _ 0 0 n W 0 [some (xr 55), some (xi all), none, none, none, none] []
  have loopL : ∀ (d lv : Nat), lv ≤ 14 → 15 ≤ lv + d → ∀ (w : xW) (F : Nat → Int) (x3 x4 x5 : Option xV), w 66 = xA 16384 F → FwA cv9 N lv F → (∀ z, z ≠ 66 → w z = W z) → Ex mX7_fewest (pI (fun v w2 => v = (fewG (redL cv9 N) all : Int) ∧ (∃ F : Nat → Int, w2 66 = xA 16384 F) ∧ ∀ z, z ≠ 66 → w2 z = W z)) 0 0 n w 31 [some (xr 55), some (xi all), some (xi lv), x3, x4, x5] [] := by
    intro d
    induction d with
    | zero => intro lv h1 h2; omega
    | succ d ihL =>
      intro lv h1 h2 w F x3 x4 x5 h_F hA hfr
      have h_o := (hfr 55 (by decide)).trans hO
      have h_V := (hfr 67 (by decide)).trans hVV
      have loopK : lv < 14 → ∀ (d k : Nat), k ≤ 16384 → 16385 ≤ k + d → ∀ (w : xW) (F : Nat → Int) (x4 x5 : Option xV), w 66 = xA 16384 F → FwB cv9 N lv k 0 F → (∀ z, z ≠ 66 → w z = W z) → Ex mX7_fewest (pI (fun v w2 => v = (fewG (redL cv9 N) all : Int) ∧ (∃ F : Nat → Int, w2 66 = xA 16384 F) ∧ ∀ z, z ≠ 66 → w2 z = W z)) 0 0 n w 42 [some (xr 55), some (xi all), some (xi lv), some (xi k), x4, x5] [] := by
        intro hlv d
        induction d with
        | zero => intro k h1 h2; omega
        | succ d ihK =>
          intro k h1 h2 w F x4 x5 h_F hB hfr
          have h_o := (hfr 55 (by decide)).trans hO
          have h_V := (hfr 67 (by decide)).trans hVV
          have loopI : k < 16384 → ∀ (d i : Nat), i ≤ N → N + 1 ≤ i + d → ∀ (w : xW) (F : Nat → Int) (x5 : Option xV), w 66 = xA 16384 F → FwB cv9 N lv k i F → F k = (lv : Int) → (∀ z, z ≠ 66 → w z = W z) → Ex mX7_fewest (pI (fun v w2 => v = (fewG (redL cv9 N) all : Int) ∧ (∃ F : Nat → Int, w2 66 = xA 16384 F) ∧ ∀ z, z ≠ 66 → w2 z = W z)) 0 0 n w 62 [some (xr 55), some (xi all), some (xi lv), some (xi k), some (xi i), x5] [] := by
            intro hk d
            induction d with
            | zero => intro i h1 h2; omega
            | succ d ihI =>
              intro i h1 h2 w F x5 h_F hB hFk hfr
              have h_o := (hfr 55 (by decide)).trans hO
              have h_V := (hfr 67 (by decide)).trans hVV
              refine ex_iload (pc := 62) dX7_fewest_62 rfl ?_
              refine ex_aload_n (pc := 64) dX7_fewest_64 rfl ?_
              refine ex_getfield (pc := 65) dX7_fewest_65 fk_X7_136 h_o (by rfl) ?_
              refine ex_icmp_ge (pc := 68) dX7_fewest_68 (tgt := 118) (by decide) (fun c68 => ?_) (fun c68 => ?_)
              · refine ex_iinc (L2 := [_, _, _, _, _, _]) (pc := 118) dX7_fewest_118 rfl rfl (Nat.le_of_ble_eq_true rfl) (by unfold inI; omega) rfl ?_
                refine ex_goto (pc := 121) dX7_fewest_121 (tgt := 42) (by decide) ?_
                have hiN : i = N := by omega
                rw [hiN] at hB
                exact ihK (k + 1) (by omega) (by omega) w F _ _ h_F hB.next hfr
              · have hki : ((i : Int)).toNat = i := by omega
                have hkm : (((k ||| cv9 i : Nat) : Int)).toNat = k ||| cv9 i := Int.toNat_natCast _
                have hci := hc i
                have hkl : k ||| cv9 i < 16384 := Nat.or_lt_two_pow (n := 14) hk hci
                refine ex_iload_n (pc := 71) dX7_fewest_71 rfl ?_
                refine ex_aload_n (pc := 72) dX7_fewest_72 rfl ?_
                refine ex_getfield (pc := 73) dX7_fewest_73 fk_X7_43 h_o (by rfl) ?_
                refine ex_iload (pc := 76) dX7_fewest_76 rfl ?_
                refine ex_iaload (pc := 78) dX7_fewest_78 h_V (by omega) (by omega) ?_
                rw [hki, hV i (by omega)]
                refine ex_ior (pc := 79) dX7_fewest_79 ?_
                refine ex_eq (xor_n (by omega) (by omega)) ?_
                refine ex_istore (L2 := [_, _, _, _, _, _]) (pc := 80) dX7_fewest_80 rfl (Nat.le_of_ble_eq_true rfl) rfl ?_
                refine ex_aload_n (pc := 82) dX7_fewest_82 rfl ?_
                refine ex_getfield (pc := 83) dX7_fewest_83 fk_X7_40 h_o (by rfl) ?_
                refine ex_iload (pc := 86) dX7_fewest_86 rfl ?_
                refine ex_aload_n (pc := 88) dX7_fewest_88 rfl ?_
                refine ex_getfield (pc := 89) dX7_fewest_89 fk_X7_40 h_o (by rfl) ?_
                refine ex_iload (pc := 92) dX7_fewest_92 rfl ?_
                refine ex_iaload (pc := 94) dX7_fewest_94 h_F (by omega) (by omega) ?_
                rw [hkm]
                refine ex_if_ge (pc := 95) dX7_fewest_95 (tgt := 104) (by decide) (fun c95 => ?_) (fun c95 => ?_)
                · refine ex_aload_n (pc := 104) dX7_fewest_104 rfl ?_
                  refine ex_getfield (pc := 105) dX7_fewest_105 fk_X7_40 h_o (by rfl) ?_
                  refine ex_iload (pc := 108) dX7_fewest_108 rfl ?_
                  refine ex_iaload (pc := 110) dX7_fewest_110 h_F (by omega) (by omega) ?_
                  rw [hkm]
                  refine ex_iastore (pc := 111) dX7_fewest_111 h_F (by omega) (by omega) ?_
                  refine ex_up (fun w1 e_w1 => ?_)
                  have h1_o := ((congrFun e_w1 55).trans (up_n (by first | assumption | decide | omega))).trans h_o
                  have h1_F := (congrFun e_w1 66).trans up_s
                  have h1_V := ((congrFun e_w1 67).trans (up_n (by first | assumption | decide | omega))).trans h_V
                  refine ex_iinc (L2 := [_, _, _, _, _, _]) (pc := 112) dX7_fewest_112 rfl rfl (Nat.le_of_ble_eq_true rfl) (by unfold inI; omega) rfl ?_
                  refine ex_goto (pc := 115) dX7_fewest_115 (tgt := 62) (by decide) ?_
                  rw [hkm, up_same] at h1_F
                  exact ihI (i + 1) (by omega) (by omega) w1 _ _ h1_F (FwB.keep (by omega) hB) hFk (fun z z1 => by rw [e_w1, up_n z1]; exact hfr z z1)
                · refine ex_iload_n (pc := 98) dX7_fewest_98 rfl ?_
                  refine ex_iconst (pc := 99) dX7_fewest_99 (by decide) ?_
                  refine ex_iadd (pc := 100) dX7_fewest_100 (by unfold inI; omega) ?_
                  refine ex_goto (pc := 101) dX7_fewest_101 (tgt := 111) (by decide) ?_
                  refine ex_iastore (pc := 111) dX7_fewest_111 h_F (by omega) (by omega) ?_
                  refine ex_up (fun w1 e_w1 => ?_)
                  have h1_o := ((congrFun e_w1 55).trans (up_n (by first | assumption | decide | omega))).trans h_o
                  have h1_F := (congrFun e_w1 66).trans up_s
                  have h1_V := ((congrFun e_w1 67).trans (up_n (by first | assumption | decide | omega))).trans h_V
                  refine ex_iinc (L2 := [_, _, _, _, _, _]) (pc := 112) dX7_fewest_112 rfl rfl (Nat.le_of_ble_eq_true rfl) (by unfold inI; omega) rfl ?_
                  refine ex_goto (pc := 115) dX7_fewest_115 (tgt := 62) (by decide) ?_
                  rw [hkm] at h1_F
                  have hne : k ≠ k ||| cv9 i := fun q => by rw [← q] at c95; omega
                  exact ihI (i + 1) (by omega) (by omega) w1 _ _ h1_F (FwB.put (by omega) hk hFk (by omega) (by rw [up_s]; rfl) (fun m hm => up_n hm) hB) (by rw [up_n hne]; exact hFk) (fun z z1 => by rw [e_w1, up_n z1]; exact hfr z z1)
          refine ex_iload_n (pc := 42) dX7_fewest_42 rfl ?_
          refine ex_sipush (pc := 43) dX7_fewest_43 (by decide) ?_
          refine ex_icmp_ge (pc := 46) dX7_fewest_46 (tgt := 124) (by decide) (fun c46 => ?_) (fun c46 => ?_)
          · refine ex_iinc (L2 := [_, _, _, _, _, _]) (pc := 124) dX7_fewest_124 rfl rfl (Nat.le_of_ble_eq_true rfl) (by unfold inI; omega) rfl ?_
            refine ex_goto (pc := 127) dX7_fewest_127 (tgt := 31) (by decide) ?_
            have hk9 : k = 16384 := by omega
            rw [hk9] at hB
            exact ihL (lv + 1) (by omega) (by omega) w F _ _ _ h_F (hB.A hc) hfr
          · refine ex_aload_n (pc := 49) dX7_fewest_49 rfl ?_
            refine ex_getfield (pc := 50) dX7_fewest_50 fk_X7_40 h_o (by rfl) ?_
            refine ex_iload_n (pc := 53) dX7_fewest_53 rfl ?_
            refine ex_iaload (pc := 54) dX7_fewest_54 h_F (by omega) (by omega) ?_
            have hkk : ((k : Int)).toNat = k := by omega
            rw [hkk]
            refine ex_iload_n (pc := 55) dX7_fewest_55 rfl ?_
            refine ex_icmp_ne (pc := 56) dX7_fewest_56 (tgt := 118) (by decide) (fun c56 => ?_) (fun c56 => ?_)
            · refine ex_iinc (L2 := [_, _, _, _, _, _]) (pc := 118) dX7_fewest_118 rfl rfl (Nat.le_of_ble_eq_true rfl) (by unfold inI; omega) rfl ?_
              refine ex_goto (pc := 121) dX7_fewest_121 (tgt := 42) (by decide) ?_
              exact ihK (k + 1) (by omega) (by omega) w F _ _ h_F (FwB.skip (by omega) c56 hB) hfr
            · refine ex_iconst (pc := 59) dX7_fewest_59 (by decide) ?_
              refine ex_istore (L2 := [_, _, _, _, _, _]) (pc := 60) dX7_fewest_60 rfl (Nat.le_of_ble_eq_true rfl) rfl ?_
              exact loopI (by omega) (N + 1) 0 (by omega) (by omega) w F _ h_F hB c56 hfr
      refine ex_aload_n (pc := 31) dX7_fewest_31 rfl ?_
      refine ex_getfield (pc := 32) dX7_fewest_32 fk_X7_40 h_o (by rfl) ?_
      refine ex_iload_n (pc := 35) dX7_fewest_35 rfl ?_
      refine ex_iaload (pc := 36) dX7_fewest_36 h_F (by omega) (by omega) ?_
      have hka : ((all : Int)).toNat = all := by omega
      rw [hka]
      refine ex_if_ge (pc := 37) dX7_fewest_37 (tgt := 130) (by decide) (fun c37 => ?_) (fun c37 => ?_)
      · refine ex_aload_n (pc := 130) dX7_fewest_130 rfl ?_
        refine ex_getfield (pc := 131) dX7_fewest_131 fk_X7_40 h_o (by rfl) ?_
        refine ex_iload_n (pc := 134) dX7_fewest_134 rfl ?_
        refine ex_iaload (pc := 135) dX7_fewest_135 h_F (by omega) (by omega) ?_
        rw [hka]
        exact ex_iret (pc := 136) dX7_fewest_136 ⟨hA.found hc ha hal (by omega), ⟨_, h_F⟩, hfr⟩ rfl (Nat.le_refl _)
      · refine ex_iconst (pc := 40) dX7_fewest_40 (by decide) ?_
        refine ex_istore_n (L2 := [_, _, _, _, _, _]) (pc := 41) dX7_fewest_41 rfl (Nat.le_of_ble_eq_true rfl) rfl ?_
        exact loopK (hA.more ha hal (by omega)) 16385 0 (by omega) (by omega) w F _ _ h_F hA.B hfr
  have loopF : ∀ (d k : Nat), k ≤ 16384 → 16385 ≤ k + d → ∀ (w : xW) (F : Nat → Int), w 66 = xA 16384 F → (∀ m, m < k → F m = -1) → (∀ z, z ≠ 66 → w z = W z) → Ex mX7_fewest (pI (fun v w2 => v = (fewG (redL cv9 N) all : Int) ∧ (∃ F : Nat → Int, w2 66 = xA 16384 F) ∧ ∀ z, z ≠ 66 → w2 z = W z)) 0 0 n w 2 [some (xr 55), some (xi all), some (xi k), none, none, none] [] := by
    intro d
    induction d with
    | zero => intro k h1 h2; omega
    | succ d ih =>
      intro k h1 h2 w F h_F hz hfr
      have h_o := (hfr 55 (by decide)).trans hO
      have h_V := (hfr 67 (by decide)).trans hVV
      refine ex_iload_n (pc := 2) dX7_fewest_2 rfl ?_
      refine ex_sipush (pc := 3) dX7_fewest_3 (by decide) ?_
      refine ex_icmp_ge (pc := 6) dX7_fewest_6 (tgt := 22) (by decide) (fun c6 => ?_) (fun c6 => ?_)
      · refine ex_aload_n (pc := 22) dX7_fewest_22 rfl ?_
        refine ex_getfield (pc := 23) dX7_fewest_23 fk_X7_40 h_o (by rfl) ?_
        refine ex_iconst (pc := 26) dX7_fewest_26 (by decide) ?_
        refine ex_iconst (pc := 27) dX7_fewest_27 (by decide) ?_
        refine ex_iastore (pc := 28) dX7_fewest_28 h_F (by omega) (by omega) ?_
        refine ex_up (fun w1 e_w1 => ?_)
        have h1_o := ((congrFun e_w1 55).trans (up_n (by first | assumption | decide | omega))).trans h_o
        have h1_F := (congrFun e_w1 66).trans up_s
        have h1_V := ((congrFun e_w1 67).trans (up_n (by first | assumption | decide | omega))).trans h_V
        refine ex_iconst (pc := 29) dX7_fewest_29 (by decide) ?_
        refine ex_istore_n (L2 := [_, _, _, _, _, _]) (pc := 30) dX7_fewest_30 rfl (Nat.le_of_ble_eq_true rfl) rfl ?_
        exact loopL 15 0 (by omega) (by omega) w1 _ _ _ _ h1_F (FwA.start up_s (fun m hm hm2 => by rw [show ((0 : Int)).toNat = 0 from rfl, up_n hm2]; exact hz m (by omega))) (fun z z1 => by rw [e_w1, up_n z1]; exact hfr z z1)
      · have hkk : ((k : Int)).toNat = k := by omega
        refine ex_aload_n (pc := 9) dX7_fewest_9 rfl ?_
        refine ex_getfield (pc := 10) dX7_fewest_10 fk_X7_40 h_o (by rfl) ?_
        refine ex_iload_n (pc := 13) dX7_fewest_13 rfl ?_
        refine ex_iconst (pc := 14) dX7_fewest_14 (by decide) ?_
        refine ex_iastore (pc := 15) dX7_fewest_15 h_F (by omega) (by omega) ?_
        refine ex_up (fun w1 e_w1 => ?_)
        have h1_o := ((congrFun e_w1 55).trans (up_n (by first | assumption | decide | omega))).trans h_o
        have h1_F := (congrFun e_w1 66).trans up_s
        have h1_V := ((congrFun e_w1 67).trans (up_n (by first | assumption | decide | omega))).trans h_V
        refine ex_iinc (L2 := [_, _, _, _, _, _]) (pc := 16) dX7_fewest_16 rfl rfl (Nat.le_of_ble_eq_true rfl) (by unfold inI; omega) rfl ?_
        refine ex_goto (pc := 19) dX7_fewest_19 (tgt := 2) (by decide) ?_
        rw [hkk] at h1_F
        exact ih (k + 1) (by omega) (by omega) w1 _ h1_F (fun m hm => by
          by_cases q : m = k
          · rw [q, up_s]
          · rw [up_n q]; exact hz m (by omega)) (fun z z1 => by rw [e_w1, up_n z1]; exact hfr z z1)
  refine ex_iconst (pc := 0) dX7_fewest_0 (by decide) ?_
  refine ex_istore_n (L2 := [_, _, _, _, _, _]) (pc := 1) dX7_fewest_1 rfl (Nat.le_of_ble_eq_true rfl) rfl ?_
  exact loopF 16385 0 (by omega) (by omega) W F0 hF (fun m hm => absurd hm (Nat.not_lt_zero _)) (fun _ _ => rfl)

abbrev mX7_shapes : xC := mkC yX7_shapes cX7_shapes 4 (some .int) 7 700 0 0
set_option maxHeartbeats 4000000 in
set_option maxRecDepth 100000 in
theorem tX7_shapes {n : Nat} {w : xW} {s : St} (hS : RefS w s) {a : Int} : Ctr mX7_shapes [xr 55, xi a] n w (pI (fun v w2 => v = opShapes s a ∧ RefS w2 s ∧ FrR w w2)) := by
  refine Ctr.of ykX7_shapes rfl (Nat.le_of_ble_eq_true rfl) okI (fun hin hW => ?_)
  have hS0 := hS
  obtain ⟨hv, hsc, ⟨pl, mn, pq, cv, sh, be, bg, bc, bp, pa, re, px, h_o⟩, ⟨f, h_n, hR⟩, ⟨g, h_p, hU⟩, hu8, ⟨kf, h_k, hK⟩, hk2, ⟨t, h_t, ht⟩, hlen⟩ := hS
  have hl : s.1.length ≤ 14 := hv.1.2.2.1
  have hl1 : 1 ≤ s.1.length := hv.1.2.1
  have hcd : Cod s.1 := hv.1.1
  have hsc0 := hsc
  obtain ⟨⟨f57, h_r⟩, ⟨f58, h_a⟩, ⟨f62, h_A⟩, ⟨f63, h_G⟩, ⟨f64, h_S⟩, ⟨f65, h_P⟩, ⟨f66, h_F⟩, ⟨f67, h_V⟩⟩ := hsc
  have hal := Al_lt s.1
  have hal2 := Al_16 hl
  have hAl : Al s.1 = 2 ^ s.1.length - 1 := rfl
  show Ex _ _ 0 0 n w 0 [some (xr 55), some (xi a), none, none] []
  have loop : (0 ≤ a ∧ a ≤ 2) → ∀ (nu lg ss : Nat → Int), (∀ z, z < 240 → nu z = nuS s.1 (Al s.1) s.1.length z) → (∀ k, k < 897 → lg k = (lgS s.1 s.2.1 (Al s.1) k : Int)) → (∀ i, i < (shL s.1 s.2.1 (Al s.1)).length → ss i = (((shL s.1 s.2.1 (Al s.1)).getD i 0 : Nat) : Int)) → ∀ (d k c : Nat), k ≤ (shL s.1 s.2.1 (Al s.1)).length → (shL s.1 s.2.1 (Al s.1)).length + 1 ≤ k + d → c < 16384 → c = ((shL s.1 s.2.1 (Al s.1)).take k).foldl (fun c s9 => c ||| (pcS s.1 s.2.1 (Al s.1) s9).2) 0 → ∀ (w9 : xW) (pq cv : Int) (fV : Nat → Int), w9 55 = rO (s.2.2.1.length) (s.2.2.2.1.length) (s.2.2.2.2.length) pl (s.2.1) pq cv ((shL s.1 s.2.1 (Al s.1)).length) be bg bc bp pa re px → w9 56 = xA 30 f → w9 58 = xA 30 f58 → w9 62 = xA 240 nu → w9 63 = xA 897 lg → w9 64 = xA 448 ss → w9 65 = xA 21 f65 → w9 66 = xA 16384 f66 → w9 67 = xA 448 fV → (∀ i, i < k → fV i = (cvx s.1 s.2.1 (Al s.1) i : Int)) → (∀ y, y < 62 → y ≠ 55 → y ≠ 58 → w9 y = w y) → Ex mX7_shapes (pI (fun v w2 => v = opShapes s a ∧ RefS w2 s ∧ FrR w w2)) 0 0 n w9 30 [some (xr 55), some (xi a), some (xi c), some (xi k)] [] := by
    intro haa nu lg ss hnu hlg hss d
    have h448 := sh448 s.1 s.2.1 (Al s.1)
    induction d with
    | zero => intro k c h1 h2; omega
    | succ d ih =>
      intro k c h1 h2 hcl hce w9 pq cv fV h_o h_n h_a h_A h_G h_S h_P h_F h_V hV hfr
      refine ex_iload_n (pc := 30) dX7_shapes_30 rfl ?_
      refine ex_aload_n (pc := 31) dX7_shapes_31 rfl ?_
      refine ex_getfield (pc := 32) dX7_shapes_32 fk_X7_136 h_o (by rfl) ?_
      refine ex_icmp_ge (pc := 35) dX7_shapes_35 (tgt := 77) (by decide) (fun c35 => ?_) (fun c35 => ?_)
      · have hkN : k = (shL s.1 s.2.1 (Al s.1)).length := by omega
        rw [hkN, List.take_length] at hce
        have hce : c = covS s.1 s.2.1 (Al s.1) := hce
        rw [hkN] at hV
        have h448 := sh448 s.1 s.2.1 (Al s.1)
        refine ex_iload_n (pc := 77) dX7_shapes_77 rfl ?_
        refine ex_if_ne (pc := 78) dX7_shapes_78 (tgt := 88) (by decide) (fun c78 => ?_) (fun c78 => ?_)
        · refine ex_iload_n (pc := 88) dX7_shapes_88 rfl ?_
          refine ex_iconst (pc := 89) dX7_shapes_89 (by decide) ?_
          refine ex_icmp_ne (pc := 90) dX7_shapes_90 (tgt := 101) (by decide) (fun c90 => ?_) (fun c90 => ?_)
          · refine ex_aload_n (pc := 101) dX7_shapes_101 rfl ?_
            refine ex_getfield (pc := 102) dX7_shapes_102 fk_X7_7 h_o (by rfl) ?_
            refine ex_callSI (as := [_]) (pc := 105) dX7_shapes_105 (tX7_allOf h_n (by decide) hR.1 hl) lk_X7_166 ykX7_allOf zkX7_allOf rfl rfl (Nat.le_of_ble_eq_true rfl) ⟨by decide, by decide⟩ ⟨Nat.le_refl _, Nat.le_refl _⟩ (fun i105 w1 r105 p105 => ?_)
            obtain ⟨ew, ep⟩ := p105
            rw [ew, ep]
            refine ex_iload_n (pc := 108) dX7_shapes_108 rfl ?_
            refine ex_iconst (pc := 109) dX7_shapes_109 (by decide) ?_
            refine ex_ixor (pc := 110) dX7_shapes_110 ?_
            refine ex_iand (pc := 111) dX7_shapes_111 ?_
            refine ex_eq (xdif_n (b := c) (by omega)) ?_
            exact ex_iret (pc := 112) dX7_shapes_112 ⟨by unfold opShapes; rw [if_neg (by omega), if_neg (by omega), if_pos (by omega), hce], RefS.qq hS0 h_o ⟨_, h_a⟩ ⟨_, h_A⟩ ⟨_, h_G⟩ ⟨_, h_S⟩ ⟨_, h_P⟩ ⟨_, h_F⟩ ⟨_, h_V⟩ (fun z hz z1 z2 => hfr z hz z1 z2)⟩ rfl (Nat.le_refl _)
          · refine ex_aload_n (pc := 93) dX7_shapes_93 rfl ?_
            refine ex_iload_n (pc := 94) dX7_shapes_94 rfl ?_
            rw [hce]
            refine ex_callVI (as := [_]) (pc := 95) dX7_shapes_95 (tX7_fewest (cv9 := cvx s.1 s.2.1 (Al s.1)) h_o h_F h_V h448 hV (fun i => cvx_lt hl i) cov_all (covS_lt hl)) lk_X7_186 ykX7_fewest vkX7_fewest h_o rfl rfl rfl (Nat.le_of_ble_eq_true rfl) ⟨by decide, by decide⟩ ⟨Nat.le_refl _, Nat.le_refl _⟩ (fun i95 w1 r95 p95 => ?_)
            obtain ⟨v95, ⟨F9, h1_F⟩, hf95⟩ := p95
            have h1_o := (hf95 55 (by decide)).trans h_o
            have h1_n := (hf95 56 (by decide)).trans h_n
            have h1_a := (hf95 58 (by decide)).trans h_a
            have h1_A := (hf95 62 (by decide)).trans h_A
            have h1_G := (hf95 63 (by decide)).trans h_G
            have h1_S := (hf95 64 (by decide)).trans h_S
            have h1_P := (hf95 65 (by decide)).trans h_P
            have h1_V := (hf95 67 (by decide)).trans h_V
            refine ex_goto (pc := 98) dX7_shapes_98 (tgt := 112) (by decide) ?_
            exact ex_iret (pc := 112) dX7_shapes_112 ⟨by unfold opShapes; rw [if_neg (by omega), if_pos (by omega)]; exact v95, RefS.qq hS0 h1_o ⟨_, h1_a⟩ ⟨_, h1_A⟩ ⟨_, h1_G⟩ ⟨_, h1_S⟩ ⟨_, h1_P⟩ ⟨_, h1_F⟩ ⟨_, h1_V⟩ (fun z hz z1 z2 => (hf95 z (by omega)).trans (hfr z hz z1 z2))⟩ rfl (Nat.le_refl _)
        · refine ex_aload_n (pc := 81) dX7_shapes_81 rfl ?_
          refine ex_getfield (pc := 82) dX7_shapes_82 fk_X7_136 h_o (by rfl) ?_
          refine ex_goto (pc := 85) dX7_shapes_85 (tgt := 112) (by decide) ?_
          exact ex_iret (pc := 112) dX7_shapes_112 ⟨by unfold opShapes; rw [if_pos (by omega)], RefS.qq hS0 h_o ⟨_, h_a⟩ ⟨_, h_A⟩ ⟨_, h_G⟩ ⟨_, h_S⟩ ⟨_, h_P⟩ ⟨_, h_F⟩ ⟨_, h_V⟩ (fun z hz z1 z2 => hfr z hz z1 z2)⟩ rfl (Nat.le_refl _)
      · have hkk : ((k : Int)).toNat = k := by omega
        have hk : k < (shL s.1 s.2.1 (Al s.1)).length := by omega
        have hpl := pcS_lt (mo := s.2.1) (pr := Al s.1) hl ((shL s.1 s.2.1 (Al s.1)).getD k 0)
        refine ex_aload_n (pc := 38) dX7_shapes_38 rfl ?_
        refine ex_aload_n (pc := 39) dX7_shapes_39 rfl ?_
        refine ex_getfield (pc := 40) dX7_shapes_40 fk_X7_7 h_o (by rfl) ?_
        refine ex_aload_n (pc := 43) dX7_shapes_43 rfl ?_
        refine ex_getfield (pc := 44) dX7_shapes_44 fk_X7_34 h_o (by rfl) ?_
        refine ex_iload_n (pc := 47) dX7_shapes_47 rfl ?_
        refine ex_iaload (pc := 48) dX7_shapes_48 h_S (by omega) (by omega) ?_
        rw [hkk, hss k hk]
        refine ex_callVV (as := [_, _]) (pc := 49) dX7_shapes_49 (tX7_looksAt h_o h_n hR h_A hnu h_G hlg (by decide) hl hcd hal (sh_lt hk) (sh_two hk)) lk_X7_157 ykX7_looksAt vkX7_looksAt h_o rfl rfl rfl (Nat.le_of_ble_eq_true rfl) ⟨by decide, by decide⟩ ⟨Nat.le_refl _, Nat.le_refl _⟩ (fun w1 p49 => ?_)
        obtain ⟨h1_o, hf2⟩ := p49
        have h1_n := (hf2 56 (by decide)).trans h_n
        have h1_a := (hf2 58 (by decide)).trans h_a
        have h1_A := (hf2 62 (by decide)).trans h_A
        have h1_G := (hf2 63 (by decide)).trans h_G
        have h1_S := (hf2 64 (by decide)).trans h_S
        have h1_P := (hf2 65 (by decide)).trans h_P
        have h1_F := (hf2 66 (by decide)).trans h_F
        have h1_V := (hf2 67 (by decide)).trans h_V
        refine ex_aload_n (pc := 52) dX7_shapes_52 rfl ?_
        refine ex_getfield (pc := 53) dX7_shapes_53 fk_X7_43 h1_o (by rfl) ?_
        refine ex_iload_n (pc := 56) dX7_shapes_56 rfl ?_
        refine ex_aload_n (pc := 57) dX7_shapes_57 rfl ?_
        refine ex_getfield (pc := 58) dX7_shapes_58 fk_X7_129 h1_o (by rfl) ?_
        refine ex_iastore (pc := 61) dX7_shapes_61 h1_V (by omega) (by omega) ?_
        refine ex_up (fun w2 e_w2 => ?_)
        have h2_o := ((congrFun e_w2 55).trans (up_n (by first | assumption | decide | omega))).trans h1_o
        have h2_n := ((congrFun e_w2 56).trans (up_n (by first | assumption | decide | omega))).trans h1_n
        have h2_a := ((congrFun e_w2 58).trans (up_n (by first | assumption | decide | omega))).trans h1_a
        have h2_A := ((congrFun e_w2 62).trans (up_n (by first | assumption | decide | omega))).trans h1_A
        have h2_G := ((congrFun e_w2 63).trans (up_n (by first | assumption | decide | omega))).trans h1_G
        have h2_S := ((congrFun e_w2 64).trans (up_n (by first | assumption | decide | omega))).trans h1_S
        have h2_P := ((congrFun e_w2 65).trans (up_n (by first | assumption | decide | omega))).trans h1_P
        have h2_F := ((congrFun e_w2 66).trans (up_n (by first | assumption | decide | omega))).trans h1_F
        have h2_V := (congrFun e_w2 67).trans up_s
        refine ex_iload_n (pc := 62) dX7_shapes_62 rfl ?_
        refine ex_aload_n (pc := 63) dX7_shapes_63 rfl ?_
        refine ex_getfield (pc := 64) dX7_shapes_64 fk_X7_43 h2_o (by rfl) ?_
        refine ex_iload_n (pc := 67) dX7_shapes_67 rfl ?_
        refine ex_iaload (pc := 68) dX7_shapes_68 h2_V (by omega) (by omega) ?_
        rw [hkk, up_s]
        refine ex_ior (pc := 69) dX7_shapes_69 ?_
        refine ex_eq (xor_n (by omega) (by omega)) ?_
        refine ex_istore_n (L2 := [_, _, _, _]) (pc := 70) dX7_shapes_70 rfl (Nat.le_of_ble_eq_true rfl) rfl ?_
        refine ex_iinc (L2 := [_, _, _, _]) (pc := 71) dX7_shapes_71 rfl rfl (Nat.le_of_ble_eq_true rfl) (by unfold inI; omega) rfl ?_
        refine ex_goto (pc := 74) dX7_shapes_74 (tgt := 30) (by decide) ?_
        rw [hkk] at h2_V
        exact ih (k + 1) _ (by omega) (by omega) (Nat.or_lt_two_pow (n := 14) hcl hpl.1) (by rw [fold_step hk, ← hce]; congr 3; simp [List.getD, hk]) w2 _ _ _ h2_o h2_n h2_a h2_A h2_G h2_S h2_P h2_F h2_V (fun i hi => by
          by_cases q : i = k
          · rw [q, up_s]; rfl
          · rw [up_n q]; exact hV i (by omega)) (fun z z1 z2 z3 => by rw [e_w2, up_n (by omega)]; exact (hf2 z z2).trans (hfr z z1 z2 z3))
  refine ex_iload_n (pc := 0) dX7_shapes_0 rfl ?_
  refine ex_iconst (pc := 1) dX7_shapes_1 (by decide) ?_
  refine ex_iconst (pc := 2) dX7_shapes_2 (by decide) ?_
  refine ex_callSZ (as := [_, _, _]) (pc := 3) dX7_shapes_3 (tX7_in) lk_X7_68 ykX7_in zkX7_in rfl rfl (Nat.le_of_ble_eq_true rfl) ⟨by decide, by decide⟩ ⟨Nat.le_refl _, Nat.le_refl _⟩ (fun i3 w1 r3 p3 => ?_)
  obtain ⟨e3, p3⟩ := p3
  rw [e3]
  refine ex_if_ne (pc := 6) dX7_shapes_6 (tgt := 11) (by decide) (fun c6 => ?_) (fun c6 => ?_)
  · refine ex_aload_n (pc := 11) dX7_shapes_11 rfl ?_
    refine ex_aload_n (pc := 12) dX7_shapes_12 rfl ?_
    refine ex_getfield (pc := 13) dX7_shapes_13 fk_X7_7 h_o (by rfl) ?_
    refine ex_aload_n (pc := 16) dX7_shapes_16 rfl ?_
    refine ex_getfield (pc := 17) dX7_shapes_17 fk_X7_7 h_o (by rfl) ?_
    refine ex_callSI (as := [_]) (pc := 20) dX7_shapes_20 (tX7_allOf h_n (by decide) hR.1 hl) lk_X7_166 ykX7_allOf zkX7_allOf rfl rfl (Nat.le_of_ble_eq_true rfl) ⟨by decide, by decide⟩ ⟨Nat.le_refl _, Nat.le_refl _⟩ (fun i20 w1 r20 p20 => ?_)
    obtain ⟨ew, ep⟩ := p20
    rw [ew, ep]
    refine ex_callVV (as := [_, _]) (pc := 23) dX7_shapes_23 (tX7_findsShapes h_o h_n hR h_A h_G h_S (by decide) hl hcd hal) lk_X7_145 ykX7_findsShapes vkX7_findsShapes h_o rfl rfl rfl (Nat.le_of_ble_eq_true rfl) ⟨by decide, by decide⟩ ⟨Nat.le_refl _, Nat.le_refl _⟩ (fun w1 p23 => ?_)
    obtain ⟨⟨nu, lg, h1_A, hnu, h1_G, hlg⟩, ⟨ss, h1_S, hss⟩, h1_o, hfL⟩ := p23
    have h1_n := (hfL 56 (by decide) (by decide) (by decide) (by decide)).trans h_n
    have h1_a := (hfL 58 (by decide) (by decide) (by decide) (by decide)).trans h_a
    have h1_P := (hfL 65 (by decide) (by decide) (by decide) (by decide)).trans h_P
    have h1_F := (hfL 66 (by decide) (by decide) (by decide) (by decide)).trans h_F
    have h1_V := (hfL 67 (by decide) (by decide) (by decide) (by decide)).trans h_V
    refine ex_iconst (pc := 26) dX7_shapes_26 (by decide) ?_
    refine ex_istore_n (L2 := [_, _, _, _]) (pc := 27) dX7_shapes_27 rfl (Nat.le_of_ble_eq_true rfl) rfl ?_
    refine ex_iconst (pc := 28) dX7_shapes_28 (by decide) ?_
    refine ex_istore_n (L2 := [_, _, _, _]) (pc := 29) dX7_shapes_29 rfl (Nat.le_of_ble_eq_true rfl) rfl ?_
    exact loop (by omega) nu lg ss hnu hlg hss ((shL s.1 s.2.1 (Al s.1)).length + 1) 0 0 (by omega) (by omega) (by decide) rfl w1 _ _ _ h1_o h1_n h1_a h1_A h1_G h1_S h1_P h1_F h1_V (fun i hi => absurd hi (Nat.not_lt_zero _)) (fun z hz z1 z2 => hfL z z1 (by omega) (by omega) (by omega))
  · refine ex_iconst (pc := 9) dX7_shapes_9 (by decide) ?_
    exact ex_iret (pc := 10) dX7_shapes_10 ⟨by unfold opShapes; rw [if_neg (by omega), if_neg (by omega), if_neg (by omega)], hS0, fun _ _ => rfl⟩ rfl (Nat.le_refl _)

