/-! ===== bits: the first family is pasted from kit/laws/BITS.to-paste (Int32 by its bits) ===== -/
def bt (x : Int32) (i : Nat) : Bool := x.toBitVec.getLsbD i
theorem b_ext {x y : Int32} (h : ∀ i, i < 32 → bt x i = bt y i) : x = y := Int32.toBitVec_inj.mp (BitVec.eq_of_getLsbD_eq (fun i hi => h i hi))
theorem b_or (x y : Int32) (i : Nat) : bt (x ||| y) i = (bt x i || bt y i) := by unfold bt; rw [Int32.toBitVec_or, BitVec.getLsbD_or]
theorem b_and (x y : Int32) (i : Nat) : bt (x &&& y) i = (bt x i && bt y i) := by unfold bt; rw [Int32.toBitVec_and, BitVec.getLsbD_and]
theorem b_xor (x y : Int32) (i : Nat) : bt (x ^^^ y) i = (bt x i ^^ bt y i) := by unfold bt; rw [Int32.toBitVec_xor, BitVec.getLsbD_xor]
theorem b_big {x : Int32} {i : Nat} (h : 32 ≤ i) : bt x i = false := BitVec.getLsbD_of_ge _ _ h
theorem b_255 (i : Nat) : bt 255 i = decide (i < 8) := by
  rcases Nat.lt_or_ge i 32 with h | h
  · exact (by decide +kernel : ∀ i, i < 32 → bt 255 i = decide (i < 8)) i h
  · rw [b_big h, decide_eq_false (by omega)]
theorem b_65535 (i : Nat) : bt 65535 i = decide (i < 16) := by
  rcases Nat.lt_or_ge i 32 with h | h
  · exact (by decide +kernel : ∀ i, i < 32 → bt 65535 i = decide (i < 16)) i h
  · rw [b_big h, decide_eq_false (by omega)]
theorem b_m1 : ∀ i, i < 32 → bt (-1) i = true := by decide +kernel
theorem b_0 (i : Nat) : bt 0 i = false := BitVec.getLsbD_zero
theorem s_l : ∀ n, n < 32 → ((nI n &&& 31).toBitVec.smod 32).toNat = n := by decide +kernel
theorem s_u : ∀ n, n < 32 → (((nI n).toUInt32 &&& Int32.toUInt32 31).toBitVec % 32).toNat = n := by decide +kernel
theorem b_shl (n : Nat) (hn : n < 32) (x : Int32) {i : Nat} (hi : i < 32) : bt (x <<< (nI n &&& 31)) i = (decide (n ≤ i) && bt x (i - n)) := by
  unfold bt
  rw [Int32.toBitVec_shiftLeft]
  show (x.toBitVec <<< ((nI n &&& 31).toBitVec.smod 32).toNat).getLsbD i = _
  rw [s_l n hn, BitVec.getLsbD_shiftLeft]
  rcases Nat.lt_or_ge i n with h | h
  · simp [h, Nat.not_le.mpr h]
  · simp [hi, h, Nat.not_lt.mpr h]
theorem b_ushr (n : Nat) (hn : n < 32) (x : Int32) (i : Nat) : bt ((x.toUInt32 >>> ((nI n).toUInt32 &&& Int32.toUInt32 31)).toInt32) i = bt x (n + i) := by
  show (x.toUInt32 >>> ((nI n).toUInt32 &&& Int32.toUInt32 31)).toBitVec.getLsbD i = x.toUInt32.toBitVec.getLsbD (n + i)
  rw [UInt32.toBitVec_shiftRight]
  show (x.toUInt32.toBitVec >>> (((nI n).toUInt32 &&& Int32.toUInt32 31).toBitVec % 32).toNat).getLsbD i = _
  rw [s_u n hn, BitVec.getLsbD_ushiftRight]
theorem b_sshr (n : Nat) (hn : n < 32) (x : Int32) {i : Nat} (hi : i < 32) : bt (x >>> (nI n &&& 31)) i = if n + i < 32 then bt x (n + i) else bt x 31 := by
  unfold bt
  rw [Int32.toBitVec_shiftRight]
  show (x.toBitVec.sshiftRight ((nI n &&& 31).toBitVec.smod 32).toNat).getLsbD i = _
  rw [s_l n hn, BitVec.getLsbD_sshiftRight, BitVec.msb_eq_getLsbD_last]
  simp [hi]
theorem ofI_n (a : Nat) : Int32.ofInt (a : Int) = nI a := by
  apply Int32.toBitVec_inj.1
  show BitVec.ofInt 32 (a : Int) = BitVec.ofNat 32 a
  exact BitVec.ofInt_natCast 32 a
theorem bt_nI {a i : Nat} (hi : i < 32) : bt (nI a) i = a.testBit i := by
  show (BitVec.ofNat 32 a).getLsbD i = _
  rw [BitVec.getLsbD_ofNat]
  simp [hi]
theorem xb {x : Int32} {m : Nat} (hm : m < 2 ^ 31) (h : ∀ i, i < 32 → bt x i = m.testBit i) : x.toInt = m := by
  rw [show x = nI m from b_ext (fun i hi => by rw [h i hi, bt_nI hi])]
  exact nI_toInt hm
theorem xand_n {a b : Nat} (ha : a < 2 ^ 31) : xand a b = ((a &&& b : Nat) : Int) := by
  refine xb (Nat.lt_of_le_of_lt Nat.and_le_left ha) (fun i hi => ?_)
  rw [b_and, ofI_n, ofI_n, bt_nI hi, bt_nI hi, Nat.testBit_and]
theorem xor_n {a b : Nat} (ha : a < 2 ^ 31) (hb : b < 2 ^ 31) : xor a b = ((a ||| b : Nat) : Int) := by
  refine xb (Nat.or_lt_two_pow ha hb) (fun i hi => ?_)
  rw [b_or, ofI_n, ofI_n, bt_nI hi, bt_nI hi, Nat.testBit_or]
/-- what is in a and not in b -/
def dif (a b : Nat) : Nat := a ^^^ (a &&& b)
theorem dif_bit (a b i : Nat) : (dif a b).testBit i = (a.testBit i && !b.testBit i) := by
  unfold dif
  rw [Nat.testBit_xor, Nat.testBit_and]
  cases a.testBit i <;> cases b.testBit i <;> rfl
theorem dif_and (a b : Nat) : dif a b = a &&& dif a b := by
  apply Nat.eq_of_testBit_eq
  intro i
  rw [Nat.testBit_and, dif_bit]
  cases a.testBit i <;> cases b.testBit i <;> rfl
theorem dif_le (a b : Nat) : dif a b ≤ a := by
  rw [dif_and]
  exact Nat.and_le_left
theorem xdif_n {a b : Nat} (ha : a < 2 ^ 31) : xand a (xxor b (-1)) = ((dif a b : Nat) : Int) := by
  refine xb (Nat.lt_of_le_of_lt (dif_le a b) ha) (fun i hi => ?_)
  show bt (Int32.ofInt a &&& Int32.ofInt (Int32.ofInt b ^^^ Int32.ofInt (-1)).toInt) i = _
  rw [b_and, i32_back, b_xor, ofI_n, ofI_n, bt_nI hi, bt_nI hi, show bt (Int32.ofInt (-1)) i = true from b_m1 i hi, dif_bit]
  cases a.testBit i <;> cases b.testBit i <;> rfl
theorem xshl_n : ∀ n : Nat, n < 31 → xshl 1 (n : Int) = ((2 ^ n : Nat) : Int) := by decide +kernel
theorem bit31 {a i : Nat} (ha : a < 2 ^ 31) (hi : 31 ≤ i) : a.testBit i = false := Nat.testBit_lt_two_pow (Nat.lt_of_lt_of_le ha (Nat.pow_le_pow_right (by decide) hi))
theorem xshr_n {a n : Nat} (ha : a < 2 ^ 31) (hn : n < 31) : xshr a n = ((a >>> n : Nat) : Int) := by
  refine xb (Nat.lt_of_le_of_lt (by rw [Nat.shiftRight_eq_div_pow]; exact Nat.div_le_self _ _) ha) (fun i hi => ?_)
  rw [ofI_n, ofI_n, b_sshr n (by omega) _ hi, Nat.testBit_shiftRight]
  split
  · rename_i h; exact bt_nI h
  · rw [bt_nI (by omega), bit31 ha (by omega), bit31 ha (by omega)]
theorem xushr_n {a n : Nat} (ha : a < 2 ^ 31) (hn : n < 31) : xushr a n = ((a >>> n : Nat) : Int) := by
  refine xb (Nat.lt_of_le_of_lt (by rw [Nat.shiftRight_eq_div_pow]; exact Nat.div_le_self _ _) ha) (fun i hi => ?_)
  rw [ofI_n, ofI_n, b_ushr n (by omega) _ i, Nat.testBit_shiftRight]
  rcases Nat.lt_or_ge (n + i) 32 with h | h
  · exact bt_nI h
  · rw [b_big h, bit31 ha (by omega)]
theorem xhas_n {a n : Nat} (ha : a < 2 ^ 31) (hn : n < 31) : xand (xshr a n) 1 = if a.testBit n then 1 else 0 := by
  rw [xshr_n ha hn, show ((1 : Int)) = ((1 : Nat) : Int) from rfl, xand_n (Nat.lt_of_le_of_lt (by rw [Nat.shiftRight_eq_div_pow]; exact Nat.div_le_self _ _) ha), Nat.and_one_is_mod, Nat.shiftRight_eq_div_pow, Nat.testBit_eq_decide_div_mod_eq]
  have := Nat.mod_two_eq_zero_or_one (a / 2 ^ n)
  rcases this with h | h <;> simp [h]
/-- how many bits -/
def pc14 (a : Nat) : Nat := a % 2 + a / 2 % 2 + a / 4 % 2 + a / 8 % 2 + a / 16 % 2 + a / 32 % 2 + a / 64 % 2 + a / 128 % 2 + a / 256 % 2 + a / 512 % 2 + a / 1024 % 2 + a / 2048 % 2 + a / 4096 % 2 + a / 8192 % 2
def bcN (a : Nat) : Nat :=
  let a1 := a - ((a >>> 1) &&& 1431655765)
  let a2 := (a1 &&& 858993459) + ((a1 >>> 2) &&& 858993459)
  let a3 := (a2 + (a2 >>> 4)) &&& 252645135
  let a4 := a3 + (a3 >>> 8)
  let a5 := a4 + (a4 >>> 16)
  a5 &&& 63
def ckB (a : Nat) : Bool := Nat.beq (bcN a) (pc14 a) && (Nat.ble ((a >>> 1) &&& 1431655765) a && ((Nat.beq a 0 || Nat.beq (pc14 a) (pc14 (a &&& (a - 1)) + 1)) && (Nat.ble (pc14 a) 1 == Nat.beq (a &&& (a - 1)) 0)))
def ckA : Nat → Nat → Bool
  | 0, _ => true
  | n + 1, s => ckB (s + n) && ckA n s
theorem ckA_ok : ∀ (n s a : Nat), ckA n s = true → s ≤ a → a < s + n → ckB a = true := by
  intro n
  induction n with
  | zero => intro s a h h1 h2; omega
  | succ n ih =>
    intro s a h h1 h2
    simp only [ckA, Bool.and_eq_true] at h
    by_cases e : a = s + n
    · rw [e]; exact h.1
    · exact ih s a h.2 h1 (by omega)
theorem ck_0 : ckA 128 0 = true := by decide +kernel
theorem ck_1 : ckA 128 128 = true := by decide +kernel
theorem ck_2 : ckA 128 256 = true := by decide +kernel
theorem ck_3 : ckA 128 384 = true := by decide +kernel
theorem ck_4 : ckA 128 512 = true := by decide +kernel
theorem ck_5 : ckA 128 640 = true := by decide +kernel
theorem ck_6 : ckA 128 768 = true := by decide +kernel
theorem ck_7 : ckA 128 896 = true := by decide +kernel
theorem ck_8 : ckA 128 1024 = true := by decide +kernel
theorem ck_9 : ckA 128 1152 = true := by decide +kernel
theorem ck_10 : ckA 128 1280 = true := by decide +kernel
theorem ck_11 : ckA 128 1408 = true := by decide +kernel
theorem ck_12 : ckA 128 1536 = true := by decide +kernel
theorem ck_13 : ckA 128 1664 = true := by decide +kernel
theorem ck_14 : ckA 128 1792 = true := by decide +kernel
theorem ck_15 : ckA 128 1920 = true := by decide +kernel
theorem ck_16 : ckA 128 2048 = true := by decide +kernel
theorem ck_17 : ckA 128 2176 = true := by decide +kernel
theorem ck_18 : ckA 128 2304 = true := by decide +kernel
theorem ck_19 : ckA 128 2432 = true := by decide +kernel
theorem ck_20 : ckA 128 2560 = true := by decide +kernel
theorem ck_21 : ckA 128 2688 = true := by decide +kernel
theorem ck_22 : ckA 128 2816 = true := by decide +kernel
theorem ck_23 : ckA 128 2944 = true := by decide +kernel
theorem ck_24 : ckA 128 3072 = true := by decide +kernel
theorem ck_25 : ckA 128 3200 = true := by decide +kernel
theorem ck_26 : ckA 128 3328 = true := by decide +kernel
theorem ck_27 : ckA 128 3456 = true := by decide +kernel
theorem ck_28 : ckA 128 3584 = true := by decide +kernel
theorem ck_29 : ckA 128 3712 = true := by decide +kernel
theorem ck_30 : ckA 128 3840 = true := by decide +kernel
theorem ck_31 : ckA 128 3968 = true := by decide +kernel
theorem ck_32 : ckA 128 4096 = true := by decide +kernel
theorem ck_33 : ckA 128 4224 = true := by decide +kernel
theorem ck_34 : ckA 128 4352 = true := by decide +kernel
theorem ck_35 : ckA 128 4480 = true := by decide +kernel
theorem ck_36 : ckA 128 4608 = true := by decide +kernel
theorem ck_37 : ckA 128 4736 = true := by decide +kernel
theorem ck_38 : ckA 128 4864 = true := by decide +kernel
theorem ck_39 : ckA 128 4992 = true := by decide +kernel
theorem ck_40 : ckA 128 5120 = true := by decide +kernel
theorem ck_41 : ckA 128 5248 = true := by decide +kernel
theorem ck_42 : ckA 128 5376 = true := by decide +kernel
theorem ck_43 : ckA 128 5504 = true := by decide +kernel
theorem ck_44 : ckA 128 5632 = true := by decide +kernel
theorem ck_45 : ckA 128 5760 = true := by decide +kernel
theorem ck_46 : ckA 128 5888 = true := by decide +kernel
theorem ck_47 : ckA 128 6016 = true := by decide +kernel
theorem ck_48 : ckA 128 6144 = true := by decide +kernel
theorem ck_49 : ckA 128 6272 = true := by decide +kernel
theorem ck_50 : ckA 128 6400 = true := by decide +kernel
theorem ck_51 : ckA 128 6528 = true := by decide +kernel
theorem ck_52 : ckA 128 6656 = true := by decide +kernel
theorem ck_53 : ckA 128 6784 = true := by decide +kernel
theorem ck_54 : ckA 128 6912 = true := by decide +kernel
theorem ck_55 : ckA 128 7040 = true := by decide +kernel
theorem ck_56 : ckA 128 7168 = true := by decide +kernel
theorem ck_57 : ckA 128 7296 = true := by decide +kernel
theorem ck_58 : ckA 128 7424 = true := by decide +kernel
theorem ck_59 : ckA 128 7552 = true := by decide +kernel
theorem ck_60 : ckA 128 7680 = true := by decide +kernel
theorem ck_61 : ckA 128 7808 = true := by decide +kernel
theorem ck_62 : ckA 128 7936 = true := by decide +kernel
theorem ck_63 : ckA 128 8064 = true := by decide +kernel
theorem ck_64 : ckA 128 8192 = true := by decide +kernel
theorem ck_65 : ckA 128 8320 = true := by decide +kernel
theorem ck_66 : ckA 128 8448 = true := by decide +kernel
theorem ck_67 : ckA 128 8576 = true := by decide +kernel
theorem ck_68 : ckA 128 8704 = true := by decide +kernel
theorem ck_69 : ckA 128 8832 = true := by decide +kernel
theorem ck_70 : ckA 128 8960 = true := by decide +kernel
theorem ck_71 : ckA 128 9088 = true := by decide +kernel
theorem ck_72 : ckA 128 9216 = true := by decide +kernel
theorem ck_73 : ckA 128 9344 = true := by decide +kernel
theorem ck_74 : ckA 128 9472 = true := by decide +kernel
theorem ck_75 : ckA 128 9600 = true := by decide +kernel
theorem ck_76 : ckA 128 9728 = true := by decide +kernel
theorem ck_77 : ckA 128 9856 = true := by decide +kernel
theorem ck_78 : ckA 128 9984 = true := by decide +kernel
theorem ck_79 : ckA 128 10112 = true := by decide +kernel
theorem ck_80 : ckA 128 10240 = true := by decide +kernel
theorem ck_81 : ckA 128 10368 = true := by decide +kernel
theorem ck_82 : ckA 128 10496 = true := by decide +kernel
theorem ck_83 : ckA 128 10624 = true := by decide +kernel
theorem ck_84 : ckA 128 10752 = true := by decide +kernel
theorem ck_85 : ckA 128 10880 = true := by decide +kernel
theorem ck_86 : ckA 128 11008 = true := by decide +kernel
theorem ck_87 : ckA 128 11136 = true := by decide +kernel
theorem ck_88 : ckA 128 11264 = true := by decide +kernel
theorem ck_89 : ckA 128 11392 = true := by decide +kernel
theorem ck_90 : ckA 128 11520 = true := by decide +kernel
theorem ck_91 : ckA 128 11648 = true := by decide +kernel
theorem ck_92 : ckA 128 11776 = true := by decide +kernel
theorem ck_93 : ckA 128 11904 = true := by decide +kernel
theorem ck_94 : ckA 128 12032 = true := by decide +kernel
theorem ck_95 : ckA 128 12160 = true := by decide +kernel
theorem ck_96 : ckA 128 12288 = true := by decide +kernel
theorem ck_97 : ckA 128 12416 = true := by decide +kernel
theorem ck_98 : ckA 128 12544 = true := by decide +kernel
theorem ck_99 : ckA 128 12672 = true := by decide +kernel
theorem ck_100 : ckA 128 12800 = true := by decide +kernel
theorem ck_101 : ckA 128 12928 = true := by decide +kernel
theorem ck_102 : ckA 128 13056 = true := by decide +kernel
theorem ck_103 : ckA 128 13184 = true := by decide +kernel
theorem ck_104 : ckA 128 13312 = true := by decide +kernel
theorem ck_105 : ckA 128 13440 = true := by decide +kernel
theorem ck_106 : ckA 128 13568 = true := by decide +kernel
theorem ck_107 : ckA 128 13696 = true := by decide +kernel
theorem ck_108 : ckA 128 13824 = true := by decide +kernel
theorem ck_109 : ckA 128 13952 = true := by decide +kernel
theorem ck_110 : ckA 128 14080 = true := by decide +kernel
theorem ck_111 : ckA 128 14208 = true := by decide +kernel
theorem ck_112 : ckA 128 14336 = true := by decide +kernel
theorem ck_113 : ckA 128 14464 = true := by decide +kernel
theorem ck_114 : ckA 128 14592 = true := by decide +kernel
theorem ck_115 : ckA 128 14720 = true := by decide +kernel
theorem ck_116 : ckA 128 14848 = true := by decide +kernel
theorem ck_117 : ckA 128 14976 = true := by decide +kernel
theorem ck_118 : ckA 128 15104 = true := by decide +kernel
theorem ck_119 : ckA 128 15232 = true := by decide +kernel
theorem ck_120 : ckA 128 15360 = true := by decide +kernel
theorem ck_121 : ckA 128 15488 = true := by decide +kernel
theorem ck_122 : ckA 128 15616 = true := by decide +kernel
theorem ck_123 : ckA 128 15744 = true := by decide +kernel
theorem ck_124 : ckA 128 15872 = true := by decide +kernel
theorem ck_125 : ckA 128 16000 = true := by decide +kernel
theorem ck_126 : ckA 128 16128 = true := by decide +kernel
theorem ck_127 : ckA 128 16256 = true := by decide +kernel
theorem ck_all {a : Nat} (h : a < 16384) : ckB a = true := by
  by_cases g64 : a < 8192
  · by_cases g32 : a < 4096
    · by_cases g16 : a < 2048
      · by_cases g8 : a < 1024
        · by_cases g4 : a < 512
          · by_cases g2 : a < 256
            · by_cases g1 : a < 128
              · exact ckA_ok _ _ a ck_0 (by omega) (by omega)
              · exact ckA_ok _ _ a ck_1 (by omega) (by omega)
            · by_cases g3 : a < 384
              · exact ckA_ok _ _ a ck_2 (by omega) (by omega)
              · exact ckA_ok _ _ a ck_3 (by omega) (by omega)
          · by_cases g6 : a < 768
            · by_cases g5 : a < 640
              · exact ckA_ok _ _ a ck_4 (by omega) (by omega)
              · exact ckA_ok _ _ a ck_5 (by omega) (by omega)
            · by_cases g7 : a < 896
              · exact ckA_ok _ _ a ck_6 (by omega) (by omega)
              · exact ckA_ok _ _ a ck_7 (by omega) (by omega)
        · by_cases g12 : a < 1536
          · by_cases g10 : a < 1280
            · by_cases g9 : a < 1152
              · exact ckA_ok _ _ a ck_8 (by omega) (by omega)
              · exact ckA_ok _ _ a ck_9 (by omega) (by omega)
            · by_cases g11 : a < 1408
              · exact ckA_ok _ _ a ck_10 (by omega) (by omega)
              · exact ckA_ok _ _ a ck_11 (by omega) (by omega)
          · by_cases g14 : a < 1792
            · by_cases g13 : a < 1664
              · exact ckA_ok _ _ a ck_12 (by omega) (by omega)
              · exact ckA_ok _ _ a ck_13 (by omega) (by omega)
            · by_cases g15 : a < 1920
              · exact ckA_ok _ _ a ck_14 (by omega) (by omega)
              · exact ckA_ok _ _ a ck_15 (by omega) (by omega)
      · by_cases g24 : a < 3072
        · by_cases g20 : a < 2560
          · by_cases g18 : a < 2304
            · by_cases g17 : a < 2176
              · exact ckA_ok _ _ a ck_16 (by omega) (by omega)
              · exact ckA_ok _ _ a ck_17 (by omega) (by omega)
            · by_cases g19 : a < 2432
              · exact ckA_ok _ _ a ck_18 (by omega) (by omega)
              · exact ckA_ok _ _ a ck_19 (by omega) (by omega)
          · by_cases g22 : a < 2816
            · by_cases g21 : a < 2688
              · exact ckA_ok _ _ a ck_20 (by omega) (by omega)
              · exact ckA_ok _ _ a ck_21 (by omega) (by omega)
            · by_cases g23 : a < 2944
              · exact ckA_ok _ _ a ck_22 (by omega) (by omega)
              · exact ckA_ok _ _ a ck_23 (by omega) (by omega)
        · by_cases g28 : a < 3584
          · by_cases g26 : a < 3328
            · by_cases g25 : a < 3200
              · exact ckA_ok _ _ a ck_24 (by omega) (by omega)
              · exact ckA_ok _ _ a ck_25 (by omega) (by omega)
            · by_cases g27 : a < 3456
              · exact ckA_ok _ _ a ck_26 (by omega) (by omega)
              · exact ckA_ok _ _ a ck_27 (by omega) (by omega)
          · by_cases g30 : a < 3840
            · by_cases g29 : a < 3712
              · exact ckA_ok _ _ a ck_28 (by omega) (by omega)
              · exact ckA_ok _ _ a ck_29 (by omega) (by omega)
            · by_cases g31 : a < 3968
              · exact ckA_ok _ _ a ck_30 (by omega) (by omega)
              · exact ckA_ok _ _ a ck_31 (by omega) (by omega)
    · by_cases g48 : a < 6144
      · by_cases g40 : a < 5120
        · by_cases g36 : a < 4608
          · by_cases g34 : a < 4352
            · by_cases g33 : a < 4224
              · exact ckA_ok _ _ a ck_32 (by omega) (by omega)
              · exact ckA_ok _ _ a ck_33 (by omega) (by omega)
            · by_cases g35 : a < 4480
              · exact ckA_ok _ _ a ck_34 (by omega) (by omega)
              · exact ckA_ok _ _ a ck_35 (by omega) (by omega)
          · by_cases g38 : a < 4864
            · by_cases g37 : a < 4736
              · exact ckA_ok _ _ a ck_36 (by omega) (by omega)
              · exact ckA_ok _ _ a ck_37 (by omega) (by omega)
            · by_cases g39 : a < 4992
              · exact ckA_ok _ _ a ck_38 (by omega) (by omega)
              · exact ckA_ok _ _ a ck_39 (by omega) (by omega)
        · by_cases g44 : a < 5632
          · by_cases g42 : a < 5376
            · by_cases g41 : a < 5248
              · exact ckA_ok _ _ a ck_40 (by omega) (by omega)
              · exact ckA_ok _ _ a ck_41 (by omega) (by omega)
            · by_cases g43 : a < 5504
              · exact ckA_ok _ _ a ck_42 (by omega) (by omega)
              · exact ckA_ok _ _ a ck_43 (by omega) (by omega)
          · by_cases g46 : a < 5888
            · by_cases g45 : a < 5760
              · exact ckA_ok _ _ a ck_44 (by omega) (by omega)
              · exact ckA_ok _ _ a ck_45 (by omega) (by omega)
            · by_cases g47 : a < 6016
              · exact ckA_ok _ _ a ck_46 (by omega) (by omega)
              · exact ckA_ok _ _ a ck_47 (by omega) (by omega)
      · by_cases g56 : a < 7168
        · by_cases g52 : a < 6656
          · by_cases g50 : a < 6400
            · by_cases g49 : a < 6272
              · exact ckA_ok _ _ a ck_48 (by omega) (by omega)
              · exact ckA_ok _ _ a ck_49 (by omega) (by omega)
            · by_cases g51 : a < 6528
              · exact ckA_ok _ _ a ck_50 (by omega) (by omega)
              · exact ckA_ok _ _ a ck_51 (by omega) (by omega)
          · by_cases g54 : a < 6912
            · by_cases g53 : a < 6784
              · exact ckA_ok _ _ a ck_52 (by omega) (by omega)
              · exact ckA_ok _ _ a ck_53 (by omega) (by omega)
            · by_cases g55 : a < 7040
              · exact ckA_ok _ _ a ck_54 (by omega) (by omega)
              · exact ckA_ok _ _ a ck_55 (by omega) (by omega)
        · by_cases g60 : a < 7680
          · by_cases g58 : a < 7424
            · by_cases g57 : a < 7296
              · exact ckA_ok _ _ a ck_56 (by omega) (by omega)
              · exact ckA_ok _ _ a ck_57 (by omega) (by omega)
            · by_cases g59 : a < 7552
              · exact ckA_ok _ _ a ck_58 (by omega) (by omega)
              · exact ckA_ok _ _ a ck_59 (by omega) (by omega)
          · by_cases g62 : a < 7936
            · by_cases g61 : a < 7808
              · exact ckA_ok _ _ a ck_60 (by omega) (by omega)
              · exact ckA_ok _ _ a ck_61 (by omega) (by omega)
            · by_cases g63 : a < 8064
              · exact ckA_ok _ _ a ck_62 (by omega) (by omega)
              · exact ckA_ok _ _ a ck_63 (by omega) (by omega)
  · by_cases g96 : a < 12288
    · by_cases g80 : a < 10240
      · by_cases g72 : a < 9216
        · by_cases g68 : a < 8704
          · by_cases g66 : a < 8448
            · by_cases g65 : a < 8320
              · exact ckA_ok _ _ a ck_64 (by omega) (by omega)
              · exact ckA_ok _ _ a ck_65 (by omega) (by omega)
            · by_cases g67 : a < 8576
              · exact ckA_ok _ _ a ck_66 (by omega) (by omega)
              · exact ckA_ok _ _ a ck_67 (by omega) (by omega)
          · by_cases g70 : a < 8960
            · by_cases g69 : a < 8832
              · exact ckA_ok _ _ a ck_68 (by omega) (by omega)
              · exact ckA_ok _ _ a ck_69 (by omega) (by omega)
            · by_cases g71 : a < 9088
              · exact ckA_ok _ _ a ck_70 (by omega) (by omega)
              · exact ckA_ok _ _ a ck_71 (by omega) (by omega)
        · by_cases g76 : a < 9728
          · by_cases g74 : a < 9472
            · by_cases g73 : a < 9344
              · exact ckA_ok _ _ a ck_72 (by omega) (by omega)
              · exact ckA_ok _ _ a ck_73 (by omega) (by omega)
            · by_cases g75 : a < 9600
              · exact ckA_ok _ _ a ck_74 (by omega) (by omega)
              · exact ckA_ok _ _ a ck_75 (by omega) (by omega)
          · by_cases g78 : a < 9984
            · by_cases g77 : a < 9856
              · exact ckA_ok _ _ a ck_76 (by omega) (by omega)
              · exact ckA_ok _ _ a ck_77 (by omega) (by omega)
            · by_cases g79 : a < 10112
              · exact ckA_ok _ _ a ck_78 (by omega) (by omega)
              · exact ckA_ok _ _ a ck_79 (by omega) (by omega)
      · by_cases g88 : a < 11264
        · by_cases g84 : a < 10752
          · by_cases g82 : a < 10496
            · by_cases g81 : a < 10368
              · exact ckA_ok _ _ a ck_80 (by omega) (by omega)
              · exact ckA_ok _ _ a ck_81 (by omega) (by omega)
            · by_cases g83 : a < 10624
              · exact ckA_ok _ _ a ck_82 (by omega) (by omega)
              · exact ckA_ok _ _ a ck_83 (by omega) (by omega)
          · by_cases g86 : a < 11008
            · by_cases g85 : a < 10880
              · exact ckA_ok _ _ a ck_84 (by omega) (by omega)
              · exact ckA_ok _ _ a ck_85 (by omega) (by omega)
            · by_cases g87 : a < 11136
              · exact ckA_ok _ _ a ck_86 (by omega) (by omega)
              · exact ckA_ok _ _ a ck_87 (by omega) (by omega)
        · by_cases g92 : a < 11776
          · by_cases g90 : a < 11520
            · by_cases g89 : a < 11392
              · exact ckA_ok _ _ a ck_88 (by omega) (by omega)
              · exact ckA_ok _ _ a ck_89 (by omega) (by omega)
            · by_cases g91 : a < 11648
              · exact ckA_ok _ _ a ck_90 (by omega) (by omega)
              · exact ckA_ok _ _ a ck_91 (by omega) (by omega)
          · by_cases g94 : a < 12032
            · by_cases g93 : a < 11904
              · exact ckA_ok _ _ a ck_92 (by omega) (by omega)
              · exact ckA_ok _ _ a ck_93 (by omega) (by omega)
            · by_cases g95 : a < 12160
              · exact ckA_ok _ _ a ck_94 (by omega) (by omega)
              · exact ckA_ok _ _ a ck_95 (by omega) (by omega)
    · by_cases g112 : a < 14336
      · by_cases g104 : a < 13312
        · by_cases g100 : a < 12800
          · by_cases g98 : a < 12544
            · by_cases g97 : a < 12416
              · exact ckA_ok _ _ a ck_96 (by omega) (by omega)
              · exact ckA_ok _ _ a ck_97 (by omega) (by omega)
            · by_cases g99 : a < 12672
              · exact ckA_ok _ _ a ck_98 (by omega) (by omega)
              · exact ckA_ok _ _ a ck_99 (by omega) (by omega)
          · by_cases g102 : a < 13056
            · by_cases g101 : a < 12928
              · exact ckA_ok _ _ a ck_100 (by omega) (by omega)
              · exact ckA_ok _ _ a ck_101 (by omega) (by omega)
            · by_cases g103 : a < 13184
              · exact ckA_ok _ _ a ck_102 (by omega) (by omega)
              · exact ckA_ok _ _ a ck_103 (by omega) (by omega)
        · by_cases g108 : a < 13824
          · by_cases g106 : a < 13568
            · by_cases g105 : a < 13440
              · exact ckA_ok _ _ a ck_104 (by omega) (by omega)
              · exact ckA_ok _ _ a ck_105 (by omega) (by omega)
            · by_cases g107 : a < 13696
              · exact ckA_ok _ _ a ck_106 (by omega) (by omega)
              · exact ckA_ok _ _ a ck_107 (by omega) (by omega)
          · by_cases g110 : a < 14080
            · by_cases g109 : a < 13952
              · exact ckA_ok _ _ a ck_108 (by omega) (by omega)
              · exact ckA_ok _ _ a ck_109 (by omega) (by omega)
            · by_cases g111 : a < 14208
              · exact ckA_ok _ _ a ck_110 (by omega) (by omega)
              · exact ckA_ok _ _ a ck_111 (by omega) (by omega)
      · by_cases g120 : a < 15360
        · by_cases g116 : a < 14848
          · by_cases g114 : a < 14592
            · by_cases g113 : a < 14464
              · exact ckA_ok _ _ a ck_112 (by omega) (by omega)
              · exact ckA_ok _ _ a ck_113 (by omega) (by omega)
            · by_cases g115 : a < 14720
              · exact ckA_ok _ _ a ck_114 (by omega) (by omega)
              · exact ckA_ok _ _ a ck_115 (by omega) (by omega)
          · by_cases g118 : a < 15104
            · by_cases g117 : a < 14976
              · exact ckA_ok _ _ a ck_116 (by omega) (by omega)
              · exact ckA_ok _ _ a ck_117 (by omega) (by omega)
            · by_cases g119 : a < 15232
              · exact ckA_ok _ _ a ck_118 (by omega) (by omega)
              · exact ckA_ok _ _ a ck_119 (by omega) (by omega)
        · by_cases g124 : a < 15872
          · by_cases g122 : a < 15616
            · by_cases g121 : a < 15488
              · exact ckA_ok _ _ a ck_120 (by omega) (by omega)
              · exact ckA_ok _ _ a ck_121 (by omega) (by omega)
            · by_cases g123 : a < 15744
              · exact ckA_ok _ _ a ck_122 (by omega) (by omega)
              · exact ckA_ok _ _ a ck_123 (by omega) (by omega)
          · by_cases g126 : a < 16128
            · by_cases g125 : a < 16000
              · exact ckA_ok _ _ a ck_124 (by omega) (by omega)
              · exact ckA_ok _ _ a ck_125 (by omega) (by omega)
            · by_cases g127 : a < 16256
              · exact ckA_ok _ _ a ck_126 (by omega) (by omega)
              · exact ckA_ok _ _ a ck_127 (by omega) (by omega)
theorem bc_ok {a : Nat} (h : a < 16384) : bcN a = pc14 a ∧ ((a >>> 1) &&& 1431655765) ≤ a := by
  have := ck_all h
  simp only [ckB, Bool.and_eq_true] at this
  exact ⟨Nat.eq_of_beq_eq_true this.1, Nat.le_of_ble_eq_true this.2.1⟩
theorem pc_low {a : Nat} (h : a < 16384) : (a = 0 ∨ pc14 a = pc14 (a &&& (a - 1)) + 1) ∧ (1 < pc14 a ↔ (a &&& (a - 1)) ≠ 0) := by
  have := ck_all h
  simp only [ckB, Bool.and_eq_true, Bool.or_eq_true, beq_iff_eq] at this
  obtain ⟨-, -, h1, h2⟩ := this
  refine ⟨h1.imp Nat.eq_of_beq_eq_true Nat.eq_of_beq_eq_true, ?_⟩
  constructor
  · intro q e
    have e2 : Nat.beq (a &&& (a - 1)) 0 = true := by rw [e]; rfl
    rw [e2] at h2
    have := Nat.le_of_ble_eq_true h2
    omega
  · intro q
    rcases Nat.lt_or_ge 1 (pc14 a) with z | z
    · exact z
    · have e2 : Nat.ble (pc14 a) 1 = true := Nat.ble_eq_true_of_le z
      rw [e2] at h2
      exact absurd (Nat.eq_of_beq_eq_true h2.symm) q
theorem xtwo_n {a : Nat} (ha : a < 2 ^ 31) : xand a ((a : Int) - 1) = ((a &&& (a - 1) : Nat) : Int) := by
  rcases Nat.eq_zero_or_pos a with h | h
  · subst h; decide
  · rw [show ((a : Int) - 1) = ((a - 1 : Nat) : Int) by omega]
    exact xand_n ha
