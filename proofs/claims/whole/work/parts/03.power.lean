abbrev tys (g : Nat → ClassId) : List (ClassId × FieldType) := [(g 0, .int), (g 1, .array .int), (g 2, .object "SolutionBoxes$Polynomial"), (g 3, .object "SolutionBoxes$OneLetter"), (g 4, .long), (g 5, .boolean)]
theorem zI_eq {n : Nat} (h : n < 2 ^ 31) : nI n = 0 ↔ n = 0 := by rw [← nI_0, nI_eq h (by decide)]
theorem zI_le {n : Nat} (h : n < 2 ^ 31) : nI n ≤ 0 ↔ n = 0 := by rw [← nI_0, nI_leI h (by decide)]; omega
theorem zI_gt {n : Nat} (h : n < 2 ^ 31) : 0 < nI n ↔ 0 < n := by rw [← nI_0, nI_ltI (by decide) h]
theorem zI_lt {n : Nat} (h : n < 2 ^ 31) : nI n < 0 ↔ False := ⟨fun q => nI_pos h q, False.elim⟩
theorem zI_ge {n : Nat} (h : n < 2 ^ 31) : 0 ≤ nI n ↔ True := ⟨fun _ => trivial, fun _ => nI_pos' h⟩
/-- the class's key of a power -/
def kN (a b d : Nat) : Nat := (a + b + d) * 1024 + a * 32 + b
theorem kN_lt {a b d : Nat} (ha : a < 32) (hb : b < 32) (hd : d < 32) : kN a b d < 131072 := by unfold kN; omega
theorem s31 : (nI 31).toBitVec.toNat = 2 ^ 5 - 1 := by decide
theorem sh5 : ((nI 5 &&& 31).toBitVec.smod 32).toNat = 5 := by decide
theorem sh10 : ((nI 10 &&& 31).toBitVec.smod 32).toNat = 10 := by decide
theorem kN_deg {a b d : Nat} (ha : a < 32) (hb : b < 32) (hd : d < 32) : nI (kN a b d) >>> (nI 10 &&& 31) = nI (a + b + d) := by
  rw [pk_shrN (Nat.lt_trans (kN_lt ha hb hd) (by decide)) _ 10 sh10]; exact congrArg nI (show kN a b d / 1024 = _ by unfold kN; omega)
theorem kN_fst {a b d : Nat} (ha : a < 32) (hb : b < 32) (hd : d < 32) : (nI (kN a b d) >>> (nI 5 &&& 31)) &&& nI 31 = nI a := by
  have h := kN_lt ha hb hd
  rw [pk_shrN (Nat.lt_trans h (by decide)) _ 5 sh5, pk_andN (Nat.lt_of_le_of_lt (Nat.div_le_self _ _) (by omega)) 5 s31]; exact congrArg nI (show kN a b d / 32 % 32 = a by rw [show kN a b d / 32 = (a + b + d) * 32 + a by unfold kN; omega]; omega)
theorem kN_snd {a b d : Nat} (ha : a < 32) (hb : b < 32) (hd : d < 32) : nI (kN a b d) &&& nI 31 = nI b := by
  have h := kN_lt ha hb hd
  rw [pk_andN (by omega) 5 s31]; exact congrArg nI (show kN a b d % 32 = b by unfold kN; omega)
theorem kN_or {a b d : Nat} (ha : a < 32) (hb : b < 32) (hd : d < 32) : (nI (a + b + d) <<< (nI 10 &&& 31)) ||| (nI a <<< (nI 5 &&& 31)) ||| nI b = nI (kN a b d) := by
  rw [pk_shlN _ 10 sh10 (by omega), pk_shlN _ 5 sh5 (by omega)]
  apply Int32.toBitVec_inj.mp
  have e1 : (nI (kN a b d)).toBitVec = BitVec.ofNat 32 (kN a b d) := rfl
  show BitVec.ofNat 32 ((a + b + d) * 2 ^ 10) ||| BitVec.ofNat 32 (a * 2 ^ 5) ||| BitVec.ofNat 32 b = _
  rw [e1]
  apply BitVec.eq_of_toNat_eq
  simp only [BitVec.toNat_or, BitVec.toNat_ofNat]
  have h := kN_lt ha hb hd
  rw [Nat.mod_eq_of_lt (by omega : (a + b + d) * 2 ^ 10 < 2 ^ 32), Nat.mod_eq_of_lt (by omega : a * 2 ^ 5 < 2 ^ 32), Nat.mod_eq_of_lt (by omega : b < 2 ^ 32), Nat.mod_eq_of_lt (by omega : kN a b d < 2 ^ 32)]
  have g1 : (a + b + d) * 2 ^ 10 ||| a * 2 ^ 5 = (a + b + d) * 2 ^ 10 + a * 2 ^ 5 := by
    have := Nat.shiftLeft_add_eq_or_of_lt (b := a * 2 ^ 5) (i := 10) (by omega) (a + b + d)
    rw [Nat.shiftLeft_eq] at this
    exact this.symm
  have g2 : ((a + b + d) * 2 ^ 5 + a) * 2 ^ 5 ||| b = ((a + b + d) * 2 ^ 5 + a) * 2 ^ 5 + b := by
    have := Nat.shiftLeft_add_eq_or_of_lt (b := b) (i := 5) (by omega) ((a + b + d) * 2 ^ 5 + a)
    rw [Nat.shiftLeft_eq] at this
    exact this.symm
  rw [g1, show (a + b + d) * 2 ^ 10 + a * 2 ^ 5 = ((a + b + d) * 2 ^ 5 + a) * 2 ^ 5 by omega, g2]
  unfold kN; omega
theorem sI_lt {a b : Nat} (ha : a < 2 ^ 30) (hb : b < 2 ^ 30) : nI a - nI b < 0 ↔ a < b := by
  rw [Int32.lt_iff_toInt_lt, pk_sub_toInt ha hb]
  show (a : Int) - b < 0 ↔ _
  omega
theorem kN_third (a b d a1 b1 d1 : Nat) : nI (a1 + b1 + d1) - nI (a + b + d) - (nI a1 - nI a) - (nI b1 - nI b) = nI d1 - nI d := by
  rw [← nI_add, ← nI_add, ← nI_add, ← nI_add]
  grind
theorem kN_or2 {a b : Nat} : nI a - nI b = nI a - nI b := rfl
theorem mx_nI {a b : Nat} (ha : a < 2 ^ 31) (hb : b < 2 ^ 31) : (if nI a < nI b then nI b else nI a) = nI (max a b) := by
  by_cases h : a < b
  · rw [if_pos ((nI_ltI ha hb).mpr h), Nat.max_eq_right (Nat.le_of_lt h)]
  · rw [if_neg (fun q => h ((nI_ltI ha hb).mp q)), Nat.max_eq_left (by omega)]
theorem mn_nI {a b : Nat} (ha : a < 2 ^ 31) (hb : b < 2 ^ 31) : (if nI b < nI a then nI b else nI a) = nI (min a b) := by
  by_cases h : b < a
  · rw [if_pos ((nI_ltI hb ha).mpr h), Nat.min_eq_right (Nat.le_of_lt h)]
  · rw [if_neg (fun q => h ((nI_ltI hb ha).mp q)), Nat.min_eq_left (by omega)]
theorem kN_inj {a b d a1 b1 d1 : Nat} (ha : a < 32) (hb : b < 32) (hd : d < 32) (ha1 : a1 < 32) (hb1 : b1 < 32) (hd1 : d1 < 32) : kN a b d = kN a1 b1 d1 ↔ a = a1 ∧ b = b1 ∧ d = d1 := by
  unfold kN
  constructor
  · intro h; omega
  · rintro ⟨rfl, rfl, rfl⟩; rfl
theorem kN_add (a b d a1 b1 d1 : Nat) : kN a b d + kN a1 b1 d1 = kN (a + a1) (b + b1) (d + d1) := by unfold kN; omega
/-- how many powers of three letters are below this one -/
def plN (a b d : Nat) : Nat := (a + b + d) * (a + b + d + 1) * (a + b + d + 2) / 6 + a * (a + b + d + 1) - a * (a - 1) / 2 + b
theorem d_W_degree_0 : decode b_W_degree 0 = .ok (.iload_n 0, 1) := by decide +kernel
theorem d_W_degree_1 : decode b_W_degree 1 = .ok (.bipush 10, 2) := by decide +kernel
theorem d_W_degree_3 : decode b_W_degree 3 = .ok (.ishr, 1) := by decide +kernel
theorem d_W_degree_4 : decode b_W_degree 4 = .ok (.ireturn, 1) := by decide +kernel
theorem d_W_divides_0 : decode b_W_divides 0 = .ok (.iload_n 1, 1) := by decide +kernel
theorem d_W_divides_1 : decode b_W_divides 1 = .ok (.iconst 5, 1) := by decide +kernel
theorem d_W_divides_2 : decode b_W_divides 2 = .ok (.ishr, 1) := by decide +kernel
theorem d_W_divides_3 : decode b_W_divides 3 = .ok (.bipush 31, 2) := by decide +kernel
theorem d_W_divides_5 : decode b_W_divides 5 = .ok (.iand, 1) := by decide +kernel
theorem d_W_divides_6 : decode b_W_divides 6 = .ok (.iload_n 0, 1) := by decide +kernel
theorem d_W_divides_7 : decode b_W_divides 7 = .ok (.iconst 5, 1) := by decide +kernel
theorem d_W_divides_8 : decode b_W_divides 8 = .ok (.ishr, 1) := by decide +kernel
theorem d_W_divides_9 : decode b_W_divides 9 = .ok (.bipush 31, 2) := by decide +kernel
theorem d_W_divides_11 : decode b_W_divides 11 = .ok (.iand, 1) := by decide +kernel
theorem d_W_divides_12 : decode b_W_divides 12 = .ok (.isub, 1) := by decide +kernel
theorem d_W_divides_13 : decode b_W_divides 13 = .ok (.istore_n 2, 1) := by decide +kernel
theorem d_W_divides_14 : decode b_W_divides 14 = .ok (.iload_n 1, 1) := by decide +kernel
theorem d_W_divides_15 : decode b_W_divides 15 = .ok (.bipush 31, 2) := by decide +kernel
theorem d_W_divides_17 : decode b_W_divides 17 = .ok (.iand, 1) := by decide +kernel
theorem d_W_divides_18 : decode b_W_divides 18 = .ok (.iload_n 0, 1) := by decide +kernel
theorem d_W_divides_19 : decode b_W_divides 19 = .ok (.bipush 31, 2) := by decide +kernel
theorem d_W_divides_21 : decode b_W_divides 21 = .ok (.iand, 1) := by decide +kernel
theorem d_W_divides_22 : decode b_W_divides 22 = .ok (.isub, 1) := by decide +kernel
theorem d_W_divides_23 : decode b_W_divides 23 = .ok (.istore_n 3, 1) := by decide +kernel
theorem d_W_divides_24 : decode b_W_divides 24 = .ok (.iload_n 1, 1) := by decide +kernel
theorem d_W_divides_25 : decode b_W_divides 25 = .ok (.bipush 10, 2) := by decide +kernel
theorem d_W_divides_27 : decode b_W_divides 27 = .ok (.ishr, 1) := by decide +kernel
theorem d_W_divides_28 : decode b_W_divides 28 = .ok (.iload_n 0, 1) := by decide +kernel
theorem d_W_divides_29 : decode b_W_divides 29 = .ok (.bipush 10, 2) := by decide +kernel
theorem d_W_divides_31 : decode b_W_divides 31 = .ok (.ishr, 1) := by decide +kernel
theorem d_W_divides_32 : decode b_W_divides 32 = .ok (.isub, 1) := by decide +kernel
theorem d_W_divides_33 : decode b_W_divides 33 = .ok (.iload_n 2, 1) := by decide +kernel
theorem d_W_divides_34 : decode b_W_divides 34 = .ok (.isub, 1) := by decide +kernel
theorem d_W_divides_35 : decode b_W_divides 35 = .ok (.iload_n 3, 1) := by decide +kernel
theorem d_W_divides_36 : decode b_W_divides 36 = .ok (.isub, 1) := by decide +kernel
theorem d_W_divides_37 : decode b_W_divides 37 = .ok (.istore 4, 2) := by decide +kernel
theorem d_W_divides_39 : decode b_W_divides 39 = .ok (.iload_n 2, 1) := by decide +kernel
theorem d_W_divides_40 : decode b_W_divides 40 = .ok (.ifCond .lt 16, 3) := by decide +kernel
theorem d_W_divides_43 : decode b_W_divides 43 = .ok (.iload_n 3, 1) := by decide +kernel
theorem d_W_divides_44 : decode b_W_divides 44 = .ok (.ifCond .lt 12, 3) := by decide +kernel
theorem d_W_divides_47 : decode b_W_divides 47 = .ok (.iload 4, 2) := by decide +kernel
theorem d_W_divides_49 : decode b_W_divides 49 = .ok (.ifCond .lt 7, 3) := by decide +kernel
theorem d_W_divides_52 : decode b_W_divides 52 = .ok (.iconst 1, 1) := by decide +kernel
theorem d_W_divides_53 : decode b_W_divides 53 = .ok (.goto 4, 3) := by decide +kernel
theorem d_W_divides_56 : decode b_W_divides 56 = .ok (.iconst 0, 1) := by decide +kernel
theorem d_W_divides_57 : decode b_W_divides 57 = .ok (.ireturn, 1) := by decide +kernel
theorem d_W_exponent_0 : decode b_W_exponent 0 = .ok (.iload_n 0, 1) := by decide +kernel
theorem d_W_exponent_1 : decode b_W_exponent 1 = .ok (.iconst 5, 1) := by decide +kernel
theorem d_W_exponent_2 : decode b_W_exponent 2 = .ok (.ishr, 1) := by decide +kernel
theorem d_W_exponent_3 : decode b_W_exponent 3 = .ok (.bipush 31, 2) := by decide +kernel
theorem d_W_exponent_5 : decode b_W_exponent 5 = .ok (.iand, 1) := by decide +kernel
theorem d_W_exponent_6 : decode b_W_exponent 6 = .ok (.istore_n 2, 1) := by decide +kernel
theorem d_W_exponent_7 : decode b_W_exponent 7 = .ok (.iload_n 0, 1) := by decide +kernel
theorem d_W_exponent_8 : decode b_W_exponent 8 = .ok (.bipush 31, 2) := by decide +kernel
theorem d_W_exponent_10 : decode b_W_exponent 10 = .ok (.iand, 1) := by decide +kernel
theorem d_W_exponent_11 : decode b_W_exponent 11 = .ok (.istore_n 3, 1) := by decide +kernel
theorem d_W_exponent_12 : decode b_W_exponent 12 = .ok (.iload_n 1, 1) := by decide +kernel
theorem d_W_exponent_13 : decode b_W_exponent 13 = .ok (.ifCond .ne 5, 3) := by decide +kernel
theorem d_W_exponent_16 : decode b_W_exponent 16 = .ok (.iload_n 2, 1) := by decide +kernel
theorem d_W_exponent_17 : decode b_W_exponent 17 = .ok (.ireturn, 1) := by decide +kernel
theorem d_W_exponent_18 : decode b_W_exponent 18 = .ok (.iload_n 1, 1) := by decide +kernel
theorem d_W_exponent_19 : decode b_W_exponent 19 = .ok (.iconst 1, 1) := by decide +kernel
theorem d_W_exponent_20 : decode b_W_exponent 20 = .ok (.if_icmp .ne 7, 3) := by decide +kernel
theorem d_W_exponent_23 : decode b_W_exponent 23 = .ok (.iload_n 3, 1) := by decide +kernel
theorem d_W_exponent_24 : decode b_W_exponent 24 = .ok (.goto 11, 3) := by decide +kernel
theorem d_W_exponent_27 : decode b_W_exponent 27 = .ok (.iload_n 0, 1) := by decide +kernel
theorem d_W_exponent_28 : decode b_W_exponent 28 = .ok (.bipush 10, 2) := by decide +kernel
theorem d_W_exponent_30 : decode b_W_exponent 30 = .ok (.ishr, 1) := by decide +kernel
theorem d_W_exponent_31 : decode b_W_exponent 31 = .ok (.iload_n 2, 1) := by decide +kernel
theorem d_W_exponent_32 : decode b_W_exponent 32 = .ok (.isub, 1) := by decide +kernel
theorem d_W_exponent_33 : decode b_W_exponent 33 = .ok (.iload_n 3, 1) := by decide +kernel
theorem d_W_exponent_34 : decode b_W_exponent 34 = .ok (.isub, 1) := by decide +kernel
theorem d_W_exponent_35 : decode b_W_exponent 35 = .ok (.ireturn, 1) := by decide +kernel
theorem d_W_isOf_0 : decode b_W_isOf 0 = .ok (.iload_n 1, 1) := by decide +kernel
theorem d_W_isOf_1 : decode b_W_isOf 1 = .ok (.iconst 1, 1) := by decide +kernel
theorem d_W_isOf_2 : decode b_W_isOf 2 = .ok (.if_icmp .gt 11, 3) := by decide +kernel
theorem d_W_isOf_5 : decode b_W_isOf 5 = .ok (.iload_n 0, 1) := by decide +kernel
theorem d_W_isOf_6 : decode b_W_isOf 6 = .ok (.iconst 1, 1) := by decide +kernel
theorem d_W_isOf_7 : decode b_W_isOf 7 = .ok (.invokestatic 15, 3) := by decide +kernel
theorem d_W_isOf_10 : decode b_W_isOf 10 = .ok (.ifCond .ne 20, 3) := by decide +kernel
theorem d_W_isOf_13 : decode b_W_isOf 13 = .ok (.iload_n 1, 1) := by decide +kernel
theorem d_W_isOf_14 : decode b_W_isOf 14 = .ok (.iconst 2, 1) := by decide +kernel
theorem d_W_isOf_15 : decode b_W_isOf 15 = .ok (.if_icmp .gt 11, 3) := by decide +kernel
theorem d_W_isOf_18 : decode b_W_isOf 18 = .ok (.iload_n 0, 1) := by decide +kernel
theorem d_W_isOf_19 : decode b_W_isOf 19 = .ok (.iconst 2, 1) := by decide +kernel
theorem d_W_isOf_20 : decode b_W_isOf 20 = .ok (.invokestatic 15, 3) := by decide +kernel
theorem d_W_isOf_23 : decode b_W_isOf 23 = .ok (.ifCond .ne 7, 3) := by decide +kernel
theorem d_W_isOf_26 : decode b_W_isOf 26 = .ok (.iconst 1, 1) := by decide +kernel
theorem d_W_isOf_27 : decode b_W_isOf 27 = .ok (.goto 4, 3) := by decide +kernel
theorem d_W_isOf_30 : decode b_W_isOf 30 = .ok (.iconst 0, 1) := by decide +kernel
theorem d_W_isOf_31 : decode b_W_isOf 31 = .ok (.ireturn, 1) := by decide +kernel
theorem d_W_key_0 : decode b_W_key 0 = .ok (.iload_n 0, 1) := by decide +kernel
theorem d_W_key_1 : decode b_W_key 1 = .ok (.iload_n 1, 1) := by decide +kernel
theorem d_W_key_2 : decode b_W_key 2 = .ok (.iadd, 1) := by decide +kernel
theorem d_W_key_3 : decode b_W_key 3 = .ok (.iload_n 2, 1) := by decide +kernel
theorem d_W_key_4 : decode b_W_key 4 = .ok (.iadd, 1) := by decide +kernel
theorem d_W_key_5 : decode b_W_key 5 = .ok (.bipush 10, 2) := by decide +kernel
theorem d_W_key_7 : decode b_W_key 7 = .ok (.ishl, 1) := by decide +kernel
theorem d_W_key_8 : decode b_W_key 8 = .ok (.iload_n 0, 1) := by decide +kernel
theorem d_W_key_9 : decode b_W_key 9 = .ok (.iconst 5, 1) := by decide +kernel
theorem d_W_key_10 : decode b_W_key 10 = .ok (.ishl, 1) := by decide +kernel
theorem d_W_key_11 : decode b_W_key 11 = .ok (.ior, 1) := by decide +kernel
theorem d_W_key_12 : decode b_W_key 12 = .ok (.iload_n 1, 1) := by decide +kernel
theorem d_W_key_13 : decode b_W_key 13 = .ok (.ior, 1) := by decide +kernel
theorem d_W_key_14 : decode b_W_key 14 = .ok (.ireturn, 1) := by decide +kernel
theorem d_W_leastMultiple_0 : decode b_W_leastMultiple 0 = .ok (.iload_n 0, 1) := by decide +kernel
theorem d_W_leastMultiple_1 : decode b_W_leastMultiple 1 = .ok (.iconst 0, 1) := by decide +kernel
theorem d_W_leastMultiple_2 : decode b_W_leastMultiple 2 = .ok (.invokestatic 15, 3) := by decide +kernel
theorem d_W_leastMultiple_5 : decode b_W_leastMultiple 5 = .ok (.iload_n 1, 1) := by decide +kernel
theorem d_W_leastMultiple_6 : decode b_W_leastMultiple 6 = .ok (.iconst 0, 1) := by decide +kernel
theorem d_W_leastMultiple_7 : decode b_W_leastMultiple 7 = .ok (.invokestatic 15, 3) := by decide +kernel
theorem d_W_leastMultiple_10 : decode b_W_leastMultiple 10 = .ok (.invokestatic 19, 3) := by decide +kernel
theorem d_W_leastMultiple_13 : decode b_W_leastMultiple 13 = .ok (.iload_n 0, 1) := by decide +kernel
theorem d_W_leastMultiple_14 : decode b_W_leastMultiple 14 = .ok (.iconst 1, 1) := by decide +kernel
theorem d_W_leastMultiple_15 : decode b_W_leastMultiple 15 = .ok (.invokestatic 15, 3) := by decide +kernel
theorem d_W_leastMultiple_18 : decode b_W_leastMultiple 18 = .ok (.iload_n 1, 1) := by decide +kernel
theorem d_W_leastMultiple_19 : decode b_W_leastMultiple 19 = .ok (.iconst 1, 1) := by decide +kernel
theorem d_W_leastMultiple_20 : decode b_W_leastMultiple 20 = .ok (.invokestatic 15, 3) := by decide +kernel
theorem d_W_leastMultiple_23 : decode b_W_leastMultiple 23 = .ok (.invokestatic 19, 3) := by decide +kernel
theorem d_W_leastMultiple_26 : decode b_W_leastMultiple 26 = .ok (.iload_n 0, 1) := by decide +kernel
theorem d_W_leastMultiple_27 : decode b_W_leastMultiple 27 = .ok (.iconst 2, 1) := by decide +kernel
theorem d_W_leastMultiple_28 : decode b_W_leastMultiple 28 = .ok (.invokestatic 15, 3) := by decide +kernel
theorem d_W_leastMultiple_31 : decode b_W_leastMultiple 31 = .ok (.iload_n 1, 1) := by decide +kernel
theorem d_W_leastMultiple_32 : decode b_W_leastMultiple 32 = .ok (.iconst 2, 1) := by decide +kernel
theorem d_W_leastMultiple_33 : decode b_W_leastMultiple 33 = .ok (.invokestatic 15, 3) := by decide +kernel
theorem d_W_leastMultiple_36 : decode b_W_leastMultiple 36 = .ok (.invokestatic 19, 3) := by decide +kernel
theorem d_W_leastMultiple_39 : decode b_W_leastMultiple 39 = .ok (.invokestatic 11, 3) := by decide +kernel
theorem d_W_leastMultiple_42 : decode b_W_leastMultiple 42 = .ok (.ireturn, 1) := by decide +kernel
theorem d_W_shareLetter_0 : decode b_W_shareLetter 0 = .ok (.iload_n 0, 1) := by decide +kernel
theorem d_W_shareLetter_1 : decode b_W_shareLetter 1 = .ok (.iload_n 1, 1) := by decide +kernel
theorem d_W_shareLetter_2 : decode b_W_shareLetter 2 = .ok (.invokestatic 24, 3) := by decide +kernel
theorem d_W_shareLetter_5 : decode b_W_shareLetter 5 = .ok (.iload_n 0, 1) := by decide +kernel
theorem d_W_shareLetter_6 : decode b_W_shareLetter 6 = .ok (.iload_n 1, 1) := by decide +kernel
theorem d_W_shareLetter_7 : decode b_W_shareLetter 7 = .ok (.iadd, 1) := by decide +kernel
theorem d_W_shareLetter_8 : decode b_W_shareLetter 8 = .ok (.if_icmp .eq 7, 3) := by decide +kernel
theorem d_W_shareLetter_11 : decode b_W_shareLetter 11 = .ok (.iconst 1, 1) := by decide +kernel
theorem d_W_shareLetter_12 : decode b_W_shareLetter 12 = .ok (.goto 4, 3) := by decide +kernel
theorem d_W_shareLetter_15 : decode b_W_shareLetter 15 = .ok (.iconst 0, 1) := by decide +kernel
theorem d_W_shareLetter_16 : decode b_W_shareLetter 16 = .ok (.ireturn, 1) := by decide +kernel
theorem d_W_written_0 : decode b_W_written 0 = .ok (.iload_n 0, 1) := by decide +kernel
theorem d_W_written_1 : decode b_W_written 1 = .ok (.iconst 0, 1) := by decide +kernel
theorem d_W_written_2 : decode b_W_written 2 = .ok (.invokestatic 15, 3) := by decide +kernel
theorem d_W_written_5 : decode b_W_written 5 = .ok (.bipush 16, 2) := by decide +kernel
theorem d_W_written_7 : decode b_W_written 7 = .ok (.iload_n 0, 1) := by decide +kernel
theorem d_W_written_8 : decode b_W_written 8 = .ok (.iconst 1, 1) := by decide +kernel
theorem d_W_written_9 : decode b_W_written 9 = .ok (.invokestatic 15, 3) := by decide +kernel
theorem d_W_written_12 : decode b_W_written 12 = .ok (.imul, 1) := by decide +kernel
theorem d_W_written_13 : decode b_W_written 13 = .ok (.iadd, 1) := by decide +kernel
theorem d_W_written_14 : decode b_W_written 14 = .ok (.sipush 256, 3) := by decide +kernel
theorem d_W_written_17 : decode b_W_written 17 = .ok (.iload_n 0, 1) := by decide +kernel
theorem d_W_written_18 : decode b_W_written 18 = .ok (.iconst 2, 1) := by decide +kernel
theorem d_W_written_19 : decode b_W_written 19 = .ok (.invokestatic 15, 3) := by decide +kernel
theorem d_W_written_22 : decode b_W_written 22 = .ok (.imul, 1) := by decide +kernel
theorem d_W_written_23 : decode b_W_written 23 = .ok (.iadd, 1) := by decide +kernel
theorem d_W_written_24 : decode b_W_written 24 = .ok (.ireturn, 1) := by decide +kernel
set_option maxHeartbeats 4000000 in
set_option maxRecDepth 100000 in
/-- the key of three exponents -/
theorem c_W_key (l : Launch) (D : mp_G) (g : Nat → ClassId) (S : mp_M) (sz : Nat) (a b d : Nat)  (ha : a < 32) (hb9 : b < 32) (hd : d < 32) : Met l y_W_key w_W_key ({ frames := 0, cells := 0, slots := 0, locals := 0 }) (va_Pc [.int (nI a), .int (nI b), .int (nI d)] (mp_B0 D classes (tys g) S sz)) (va_Qi (fun (r : Int32) (S1 : mp_M) => r = nI (kN a b d) ∧ S1 = S) (mp_B1 D classes S sz) (mp_A S sz)) 0 0 (mp_A S sz) := by
  refine Met.ofW (cc := b_W_key) (maxL := 3) (ret := (some .int)) (by decide) rfl ?_
  intro p e s m args below meth c s₁ B hml hv
  obtain ⟨rfl, hsz, hH, hK⟩ := hv
  have hx := B.exec
  have hb := B.bytes
  have hr := B.returns
  have hts := atoms_spec (ws := w_W_key) B.pre
  have hg : ∀ w ∈ gw, w.before _ s = true := fun w h => hts w (List.mem_cons_of_mem _ h)
  have hown : s.vm.findClass R_W = some m.cls := findClass_of_methodNamed B.named
  have hlocks := B.notSynchronized
  subst hsz
  have hI := mp_I.start hH
  have hl := lv_entry ([.int (nI a), .int (nI b), .int (nI d)]) (n := 3) (Nat.le_of_ble_eq_true rfl)
  rw [lg_entry_eq]
  generalize (lg_sl ([.int (nI a), .int (nI b), .int (nI d)]) ++ List.replicate (3 - (lg_sl ([.int (nI a), .int (nI b), .int (nI d)])).length) Slot.unset).toArray = ls at hl ⊢
  have hl : lv_has ls 3 [(0, .int (nI a)), (1, .int (nI b)), (2, .int (nI d))] := hl
  refine lv_iload_n hx hb d_W_key_0 rfl (lv_at hl 0 rfl) ?_
  refine lv_iload_n hx hb d_W_key_1 rfl (lv_at hl 1 rfl) ?_
  refine lv_iadd hx hb d_W_key_2 ?_
  refine lv_topi (fun v1 ev1 => ?_)
  obtain rfl : v1 = nI (a + b) := ev1.trans (nI_add _ _)
  refine lv_iload_n hx hb d_W_key_3 rfl (lv_at hl 2 rfl) ?_
  refine lv_iadd hx hb d_W_key_4 ?_
  refine lv_topi (fun v2 ev2 => ?_)
  obtain rfl : v2 = nI ((a + b) + d) := ev2.trans (nI_add _ _)
  refine lv_bipush (v := nI 10) hx hb d_W_key_5 (by decide) ?_
  refine lv_ishl hx hb d_W_key_7 ?_
  refine lv_iload_n hx hb d_W_key_8 rfl (lv_at hl 0 rfl) ?_
  refine lv_iconst (v := nI 5) hx hb d_W_key_9 (by decide) ?_
  refine lv_ishl hx hb d_W_key_10 ?_
  refine lv_ior hx hb d_W_key_11 ?_
  refine lv_iload_n hx hb d_W_key_12 rfl (lv_at hl 1 rfl) ?_
  refine lv_ior hx hb d_W_key_13 ?_
  exact mp_iret hx hb hr hlocks hI (by decide) (by decide) (⟨kN_or ha hb9 hd, rfl⟩) d_W_key_14
set_option maxHeartbeats 4000000 in
set_option maxRecDepth 100000 in
/-- the degree of a key -/
theorem c_W_degree (l : Launch) (D : mp_G) (g : Nat → ClassId) (S : mp_M) (sz : Nat) (a b d : Nat)  (ha : a < 32) (hb9 : b < 32) (hd : d < 32) : Met l y_W_degree w_W_degree ({ frames := 0, cells := 0, slots := 0, locals := 0 }) (va_Pc [.int (nI (kN a b d))] (mp_B0 D classes (tys g) S sz)) (va_Qi (fun (r : Int32) (S1 : mp_M) => r = nI (a + b + d) ∧ S1 = S) (mp_B1 D classes S sz) (mp_A S sz)) 0 0 (mp_A S sz) := by
  refine Met.ofW (cc := b_W_degree) (maxL := 1) (ret := (some .int)) (by decide) rfl ?_
  intro p e s m args below meth c s₁ B hml hv
  obtain ⟨rfl, hsz, hH, hK⟩ := hv
  have hx := B.exec
  have hb := B.bytes
  have hr := B.returns
  have hts := atoms_spec (ws := w_W_degree) B.pre
  have hg : ∀ w ∈ gw, w.before _ s = true := fun w h => hts w (List.mem_cons_of_mem _ h)
  have hown : s.vm.findClass R_W = some m.cls := findClass_of_methodNamed B.named
  have hlocks := B.notSynchronized
  subst hsz
  have hI := mp_I.start hH
  have hl := lv_entry ([.int (nI (kN a b d))]) (n := 1) (Nat.le_of_ble_eq_true rfl)
  rw [lg_entry_eq]
  generalize (lg_sl ([.int (nI (kN a b d))]) ++ List.replicate (1 - (lg_sl ([.int (nI (kN a b d))])).length) Slot.unset).toArray = ls at hl ⊢
  have hl : lv_has ls 1 [(0, .int (nI (kN a b d)))] := hl
  refine lv_iload_n hx hb d_W_degree_0 rfl (lv_at hl 0 rfl) ?_
  refine lv_bipush (v := nI 10) hx hb d_W_degree_1 (by decide) ?_
  refine lv_ishr hx hb d_W_degree_3 ?_
  exact mp_iret hx hb hr hlocks hI (by decide) (by decide) (⟨kN_deg ha hb9 hd, rfl⟩) d_W_degree_4
set_option maxHeartbeats 4000000 in
set_option maxRecDepth 100000 in
/-- an exponent of a key -/
theorem c_W_exponent (l : Launch) (D : mp_G) (g : Nat → ClassId) (S : mp_M) (sz : Nat) (a b d j : Nat)  (ha : a < 32) (hb9 : b < 32) (hd : d < 32) (hj : j < 3) : Met l y_W_exponent w_W_exponent ({ frames := 0, cells := 0, slots := 0, locals := 0 }) (va_Pc [.int (nI (kN a b d)), .int (nI j)] (mp_B0 D classes (tys g) S sz)) (va_Qi (fun (r : Int32) (S1 : mp_M) => r = nI (if j = 0 then a else if j = 1 then b else d) ∧ S1 = S) (mp_B1 D classes S sz) (mp_A S sz)) 0 0 (mp_A S sz) := by
  refine Met.ofW (cc := b_W_exponent) (maxL := 4) (ret := (some .int)) (by decide) rfl ?_
  intro p e s m args below meth c s₁ B hml hv
  obtain ⟨rfl, hsz, hH, hK⟩ := hv
  have hx := B.exec
  have hb := B.bytes
  have hr := B.returns
  have hts := atoms_spec (ws := w_W_exponent) B.pre
  have hg : ∀ w ∈ gw, w.before _ s = true := fun w h => hts w (List.mem_cons_of_mem _ h)
  have hown : s.vm.findClass R_W = some m.cls := findClass_of_methodNamed B.named
  have hlocks := B.notSynchronized
  subst hsz
  have hI := mp_I.start hH
  have hl := lv_entry ([.int (nI (kN a b d)), .int (nI j)]) (n := 4) (Nat.le_of_ble_eq_true rfl)
  rw [lg_entry_eq]
  generalize (lg_sl ([.int (nI (kN a b d)), .int (nI j)]) ++ List.replicate (4 - (lg_sl ([.int (nI (kN a b d)), .int (nI j)])).length) Slot.unset).toArray = ls at hl ⊢
  have hl : lv_has ls 4 [(0, .int (nI (kN a b d))), (1, .int (nI j))] := hl
  refine lv_iload_n hx hb d_W_exponent_0 rfl (lv_at hl 0 rfl) ?_
  refine lv_iconst (v := nI 5) hx hb d_W_exponent_1 (by decide) ?_
  refine lv_ishr hx hb d_W_exponent_2 ?_
  refine lv_bipush (v := nI 31) hx hb d_W_exponent_3 (by decide) ?_
  refine lv_iand hx hb d_W_exponent_5 ?_
  refine lv_topi (fun v1 ev1 => ?_)
  obtain rfl : v1 = nI a := ev1.trans (kN_fst ha hb9 hd)
  refine lv_istore_n (lv' := [(2, .int (nI a)), (0, .int (nI (kN a b d))), (1, .int (nI j))]) hx hb d_W_exponent_6 rfl hl (by decide) rfl (fun ls hl => ?_)
  refine lv_iload_n hx hb d_W_exponent_7 rfl (lv_at hl 1 rfl) ?_
  refine lv_bipush (v := nI 31) hx hb d_W_exponent_8 (by decide) ?_
  refine lv_iand hx hb d_W_exponent_10 ?_
  refine lv_topi (fun v2 ev2 => ?_)
  obtain rfl : v2 = nI b := ev2.trans (kN_snd ha hb9 hd)
  refine lv_istore_n (lv' := [(3, .int (nI b)), (2, .int (nI a)), (0, .int (nI (kN a b d))), (1, .int (nI j))]) hx hb d_W_exponent_11 rfl hl (by decide) rfl (fun ls hl => ?_)
  refine lv_iload_n hx hb d_W_exponent_12 rfl (lv_at hl 3 rfl) ?_
  refine lv_if_ne (tgt := 18) hx hb d_W_exponent_13 (by decide) (fun c1 => ?_) (fun c1 => ?_)
  · rw [zI_eq (by omega)] at c1
    refine lv_iload_n hx hb d_W_exponent_18 rfl (lv_at hl 3 rfl) ?_
    refine lv_iconst (v := nI 1) hx hb d_W_exponent_19 (by decide) ?_
    refine lv_icmp_ne (tgt := 27) hx hb d_W_exponent_20 (by decide) (fun c2 => ?_) (fun c2 => ?_)
    · rw [nI_eq (by omega) (by omega)] at c2
      refine lv_iload_n hx hb d_W_exponent_27 rfl (lv_at hl 2 rfl) ?_
      refine lv_bipush (v := nI 10) hx hb d_W_exponent_28 (by decide) ?_
      refine lv_ishr hx hb d_W_exponent_30 ?_
      refine lv_topi (fun v3 ev3 => ?_)
      obtain rfl : v3 = nI (a + b + d) := ev3.trans (kN_deg ha hb9 hd)
      refine lv_iload_n hx hb d_W_exponent_31 rfl (lv_at hl 1 rfl) ?_
      refine lv_isub hx hb d_W_exponent_32 ?_
      refine lv_topi (fun v4 ev4 => ?_)
      obtain rfl : v4 = nI ((a + b + d) - a) := ev4.trans (pk_sub (by omega))
      refine lv_iload_n hx hb d_W_exponent_33 rfl (lv_at hl 0 rfl) ?_
      refine lv_isub hx hb d_W_exponent_34 ?_
      refine lv_topi (fun v5 ev5 => ?_)
      obtain rfl : v5 = nI (((a + b + d) - a) - b) := ev5.trans (pk_sub (by omega))
      exact mp_iret hx hb hr hlocks hI (by decide) (by decide) (⟨by rw [if_neg c1, if_neg c2]; congr 1; omega, rfl⟩) d_W_exponent_35
    · rw [nI_eq (by omega) (by omega)] at c2
      refine lv_iload_n hx hb d_W_exponent_23 rfl (lv_at hl 0 rfl) ?_
      refine lv_goto (tgt := 35) hx hb d_W_exponent_24 (by decide) ?_
      exact mp_iret hx hb hr hlocks hI (by decide) (by decide) (⟨by rw [if_neg c1, if_pos c2], rfl⟩) d_W_exponent_35
  · rw [zI_eq (by omega)] at c1
    refine lv_iload_n hx hb d_W_exponent_16 rfl (lv_at hl 1 rfl) ?_
    exact mp_iret hx hb hr hlocks hI (by decide) (by decide) (⟨by rw [if_pos c1], rfl⟩) d_W_exponent_17
set_option maxHeartbeats 4000000 in
set_option maxRecDepth 100000 in
/-- one power divides another -/
theorem c_W_divides (l : Launch) (D : mp_G) (g : Nat → ClassId) (S : mp_M) (sz : Nat) (a b d a1 b1 d1 : Nat)  (ha : a < 32) (hb9 : b < 32) (hd : d < 32) (ha1 : a1 < 32) (hb1 : b1 < 32) (hd1 : d1 < 32) : Met l y_W_divides w_W_divides ({ frames := 0, cells := 0, slots := 0, locals := 0 }) (va_Pc [.int (nI (kN a b d)), .int (nI (kN a1 b1 d1))] (mp_B0 D classes (tys g) S sz)) (va_Qi (fun (r : Int32) (S1 : mp_M) => r = (if a ≤ a1 ∧ b ≤ b1 ∧ d ≤ d1 then 1 else 0) ∧ S1 = S) (mp_B1 D classes S sz) (mp_A S sz)) 0 0 (mp_A S sz) := by
  refine Met.ofW (cc := b_W_divides) (maxL := 5) (ret := (some .boolean)) (by decide) rfl ?_
  intro p e s m args below meth c s₁ B hml hv
  obtain ⟨rfl, hsz, hH, hK⟩ := hv
  have hx := B.exec
  have hb := B.bytes
  have hr := B.returns
  have hts := atoms_spec (ws := w_W_divides) B.pre
  have hg : ∀ w ∈ gw, w.before _ s = true := fun w h => hts w (List.mem_cons_of_mem _ h)
  have hown : s.vm.findClass R_W = some m.cls := findClass_of_methodNamed B.named
  have hlocks := B.notSynchronized
  subst hsz
  have hI := mp_I.start hH
  have hl := lv_entry ([.int (nI (kN a b d)), .int (nI (kN a1 b1 d1))]) (n := 5) (Nat.le_of_ble_eq_true rfl)
  rw [lg_entry_eq]
  generalize (lg_sl ([.int (nI (kN a b d)), .int (nI (kN a1 b1 d1))]) ++ List.replicate (5 - (lg_sl ([.int (nI (kN a b d)), .int (nI (kN a1 b1 d1))])).length) Slot.unset).toArray = ls at hl ⊢
  have hl : lv_has ls 5 [(0, .int (nI (kN a b d))), (1, .int (nI (kN a1 b1 d1)))] := hl
  refine lv_iload_n hx hb d_W_divides_0 rfl (lv_at hl 1 rfl) ?_
  refine lv_iconst (v := nI 5) hx hb d_W_divides_1 (by decide) ?_
  refine lv_ishr hx hb d_W_divides_2 ?_
  refine lv_bipush (v := nI 31) hx hb d_W_divides_3 (by decide) ?_
  refine lv_iand hx hb d_W_divides_5 ?_
  refine lv_topi (fun v1 ev1 => ?_)
  obtain rfl : v1 = nI a1 := ev1.trans (kN_fst ha1 hb1 hd1)
  refine lv_iload_n hx hb d_W_divides_6 rfl (lv_at hl 0 rfl) ?_
  refine lv_iconst (v := nI 5) hx hb d_W_divides_7 (by decide) ?_
  refine lv_ishr hx hb d_W_divides_8 ?_
  refine lv_bipush (v := nI 31) hx hb d_W_divides_9 (by decide) ?_
  refine lv_iand hx hb d_W_divides_11 ?_
  refine lv_topi (fun v2 ev2 => ?_)
  obtain rfl : v2 = nI a := ev2.trans (kN_fst ha hb9 hd)
  refine lv_isub hx hb d_W_divides_12 ?_
  refine lv_istore_n (lv' := [(2, .int (nI a1 - nI a)), (0, .int (nI (kN a b d))), (1, .int (nI (kN a1 b1 d1)))]) hx hb d_W_divides_13 rfl hl (by decide) rfl (fun ls hl => ?_)
  refine lv_iload_n hx hb d_W_divides_14 rfl (lv_at hl 2 rfl) ?_
  refine lv_bipush (v := nI 31) hx hb d_W_divides_15 (by decide) ?_
  refine lv_iand hx hb d_W_divides_17 ?_
  refine lv_topi (fun v3 ev3 => ?_)
  obtain rfl : v3 = nI b1 := ev3.trans (kN_snd ha1 hb1 hd1)
  refine lv_iload_n hx hb d_W_divides_18 rfl (lv_at hl 1 rfl) ?_
  refine lv_bipush (v := nI 31) hx hb d_W_divides_19 (by decide) ?_
  refine lv_iand hx hb d_W_divides_21 ?_
  refine lv_topi (fun v4 ev4 => ?_)
  obtain rfl : v4 = nI b := ev4.trans (kN_snd ha hb9 hd)
  refine lv_isub hx hb d_W_divides_22 ?_
  refine lv_istore_n (lv' := [(3, .int (nI b1 - nI b)), (2, .int (nI a1 - nI a)), (0, .int (nI (kN a b d))), (1, .int (nI (kN a1 b1 d1)))]) hx hb d_W_divides_23 rfl hl (by decide) rfl (fun ls hl => ?_)
  refine lv_iload_n hx hb d_W_divides_24 rfl (lv_at hl 3 rfl) ?_
  refine lv_bipush (v := nI 10) hx hb d_W_divides_25 (by decide) ?_
  refine lv_ishr hx hb d_W_divides_27 ?_
  refine lv_topi (fun v5 ev5 => ?_)
  obtain rfl : v5 = nI (a1 + b1 + d1) := ev5.trans (kN_deg ha1 hb1 hd1)
  refine lv_iload_n hx hb d_W_divides_28 rfl (lv_at hl 2 rfl) ?_
  refine lv_bipush (v := nI 10) hx hb d_W_divides_29 (by decide) ?_
  refine lv_ishr hx hb d_W_divides_31 ?_
  refine lv_topi (fun v6 ev6 => ?_)
  obtain rfl : v6 = nI (a + b + d) := ev6.trans (kN_deg ha hb9 hd)
  refine lv_isub hx hb d_W_divides_32 ?_
  refine lv_iload_n hx hb d_W_divides_33 rfl (lv_at hl 1 rfl) ?_
  refine lv_isub hx hb d_W_divides_34 ?_
  refine lv_iload_n hx hb d_W_divides_35 rfl (lv_at hl 0 rfl) ?_
  refine lv_isub hx hb d_W_divides_36 ?_
  refine lv_topi (fun v7 ev7 => ?_)
  obtain rfl : v7 = (nI d1 - nI d) := ev7.trans (kN_third a b d a1 b1 d1)
  refine lv_istore (lv' := [(4, .int (nI d1 - nI d)), (3, .int (nI b1 - nI b)), (2, .int (nI a1 - nI a)), (0, .int (nI (kN a b d))), (1, .int (nI (kN a1 b1 d1)))]) hx hb d_W_divides_37 hl (by decide) rfl (fun ls hl => ?_)
  refine lv_iload_n hx hb d_W_divides_39 rfl (lv_at hl 2 rfl) ?_
  refine lv_if_lt (tgt := 56) hx hb d_W_divides_40 (by decide) (fun c1 => ?_) (fun c1 => ?_)
  · rw [sI_lt (by omega) (by omega)] at c1
    refine lv_iconst (v := nI 0) hx hb d_W_divides_56 (by decide) ?_
    exact mp_zret hx hb hr hlocks hI (by decide) (by decide) (⟨by rw [if_neg (by omega)]; rfl, rfl⟩) (by decide) d_W_divides_57
  · rw [sI_lt (by omega) (by omega)] at c1
    refine lv_iload_n hx hb d_W_divides_43 rfl (lv_at hl 1 rfl) ?_
    refine lv_if_lt (tgt := 56) hx hb d_W_divides_44 (by decide) (fun c2 => ?_) (fun c2 => ?_)
    · rw [sI_lt (by omega) (by omega)] at c2
      refine lv_iconst (v := nI 0) hx hb d_W_divides_56 (by decide) ?_
      exact mp_zret hx hb hr hlocks hI (by decide) (by decide) (⟨by rw [if_neg (by omega)]; rfl, rfl⟩) (by decide) d_W_divides_57
    · rw [sI_lt (by omega) (by omega)] at c2
      refine lv_iload hx hb d_W_divides_47 (lv_at hl 0 rfl) ?_
      refine lv_if_lt (tgt := 56) hx hb d_W_divides_49 (by decide) (fun c3 => ?_) (fun c3 => ?_)
      · rw [sI_lt (by omega) (by omega)] at c3
        refine lv_iconst (v := nI 0) hx hb d_W_divides_56 (by decide) ?_
        exact mp_zret hx hb hr hlocks hI (by decide) (by decide) (⟨by rw [if_neg (by omega)]; rfl, rfl⟩) (by decide) d_W_divides_57
      · rw [sI_lt (by omega) (by omega)] at c3
        refine lv_iconst (v := nI 1) hx hb d_W_divides_52 (by decide) ?_
        refine lv_goto (tgt := 57) hx hb d_W_divides_53 (by decide) ?_
        exact mp_zret hx hb hr hlocks hI (by decide) (by decide) (⟨by rw [if_pos (by omega)]; rfl, rfl⟩) (by decide) d_W_divides_57
set_option maxHeartbeats 4000000 in
set_option maxRecDepth 100000 in
/-- the least power that both divide -/
theorem c_W_leastMultiple (l : Launch) (D : mp_G) (g : Nat → ClassId) (S : mp_M) (sz : Nat) (a b d a1 b1 d1 : Nat)  (ha : a < 32) (hb9 : b < 32) (hd : d < 32) (ha1 : a1 < 32) (hb1 : b1 < 32) (hd1 : d1 < 32) : Met l y_W_leastMultiple w_W_leastMultiple ({ frames := 1, cells := 0, slots := 0, locals := 23 }) (va_Pc [.int (nI (kN a b d)), .int (nI (kN a1 b1 d1))] (mp_B0 D classes (tys g) S sz)) (va_Qi (fun (r : Int32) (S1 : mp_M) => r = nI (kN (max a a1) (max b b1) (max d d1)) ∧ S1 = S) (mp_B1 D classes S sz) (mp_A S sz)) 0 0 (mp_A S sz) := by
  refine Met.ofW (cc := b_W_leastMultiple) (maxL := 2) (ret := (some .int)) (by decide) rfl ?_
  intro p e s m args below meth c s₁ B hml hv
  obtain ⟨rfl, hsz, hH, hK⟩ := hv
  have hx := B.exec
  have hb := B.bytes
  have hr := B.returns
  have hts := atoms_spec (ws := w_W_leastMultiple) B.pre
  have hg : ∀ w ∈ gw, w.before _ s = true := fun w h => hts w (List.mem_cons_of_mem _ h)
  have hown : s.vm.findClass R_W = some m.cls := findClass_of_methodNamed B.named
  have hlocks := B.notSynchronized
  subst hsz
  have hI := mp_I.start hH
  have hl := lv_entry ([.int (nI (kN a b d)), .int (nI (kN a1 b1 d1))]) (n := 2) (Nat.le_of_ble_eq_true rfl)
  rw [lg_entry_eq]
  generalize (lg_sl ([.int (nI (kN a b d)), .int (nI (kN a1 b1 d1))]) ++ List.replicate (2 - (lg_sl ([.int (nI (kN a b d)), .int (nI (kN a1 b1 d1))])).length) Slot.unset).toArray = ls at hl ⊢
  have hl : lv_has ls 2 [(0, .int (nI (kN a b d))), (1, .int (nI (kN a1 b1 d1)))] := hl
  refine lv_iload_n hx hb d_W_leastMultiple_0 rfl (lv_at hl 0 rfl) ?_
  refine lv_iconst (v := nI 0) hx hb d_W_leastMultiple_1 (by decide) ?_
  refine mp_calli hI (va_runS (As := [.int (nI (kN a b d)), .int (nI 0)]) (rest := []) ⟨hx, hb, hml, hown, hg⟩ (c_W_exponent l D g S _ a b d 0 ha hb9 hd (by decide)) ⟨(callB_of 2 hg (wd_goodG q_309) rfl rfl rfl (hg _ q_11) (hg _ q_327) (by decide +kernel) ⟨Nat.le_of_ble_eq_true rfl, Nat.le_of_ble_eq_true rfl⟩), hg _ q_308⟩ (mp_pre hI hK [.int (nI (kN a b d)), .int (nI 0)]) rfl rfl hl.1 rfl (lv_room (Nat.le_of_ble_eq_true rfl)) d_W_leastMultiple_2 ⟨Nat.le_of_ble_eq_true rfl, Nat.le_of_ble_eq_true rfl⟩) (fun r4 S1 H2 locs p_3 hI => ?_)
  obtain ⟨er4, eS5⟩ := p_3
  rw [eS5] at hI
  have er4 : r4 = nI a := er4
  subst er4
  refine lv_iload_n hx hb d_W_leastMultiple_5 rfl (lv_at hl 1 rfl) ?_
  refine lv_iconst (v := nI 0) hx hb d_W_leastMultiple_6 (by decide) ?_
  refine mp_calli hI (va_runS (As := [.int (nI (kN a1 b1 d1)), .int (nI 0)]) (rest := [.int (nI a)]) ⟨hx, hb, hml, hown, hg⟩ (c_W_exponent l D g S _ a1 b1 d1 0 ha1 hb1 hd1 (by decide)) ⟨(callB_of 2 hg (wd_goodG q_309) rfl rfl rfl (hg _ q_11) (hg _ q_327) (by decide +kernel) ⟨Nat.le_of_ble_eq_true rfl, Nat.le_of_ble_eq_true rfl⟩), hg _ q_308⟩ (mp_pre hI hK [.int (nI (kN a1 b1 d1)), .int (nI 0)]) rfl rfl hl.1 rfl (lv_room (Nat.le_of_ble_eq_true rfl)) d_W_leastMultiple_7 ⟨Nat.le_of_ble_eq_true rfl, Nat.le_of_ble_eq_true rfl⟩) (fun r9 S6 H7 locs p_8 hI => ?_)
  obtain ⟨er9, eS10⟩ := p_8
  rw [eS10] at hI
  have er9 : r9 = nI a1 := er9
  subst er9
  refine va_mmax hx hb (hml.trans hl.1.symm) hown (hg _ q_328) (hg _ q_79) (hg _ q_4) (hg _ q_80) (Nat.le_of_ble_eq_true rfl) (Nat.le_of_ble_eq_true rfl) (Nat.le_of_ble_eq_true rfl) (Nat.le_of_ble_eq_true rfl) d_W_leastMultiple_10 ?_
  refine lv_topi (fun v11 ev11 => ?_)
  obtain rfl : v11 = nI (max a a1) := ev11.trans (mx_nI (by omega) (by omega))
  refine lv_iload_n hx hb d_W_leastMultiple_13 rfl (lv_at hl 0 rfl) ?_
  refine lv_iconst (v := nI 1) hx hb d_W_leastMultiple_14 (by decide) ?_
  refine mp_calli hI (va_runS (As := [.int (nI (kN a b d)), .int (nI 1)]) (rest := [.int (nI (max a a1))]) ⟨hx, hb, hml, hown, hg⟩ (c_W_exponent l D g S _ a b d 1 ha hb9 hd (by decide)) ⟨(callB_of 2 hg (wd_goodG q_309) rfl rfl rfl (hg _ q_11) (hg _ q_327) (by decide +kernel) ⟨Nat.le_of_ble_eq_true rfl, Nat.le_of_ble_eq_true rfl⟩), hg _ q_308⟩ (mp_pre hI hK [.int (nI (kN a b d)), .int (nI 1)]) rfl rfl hl.1 rfl (lv_room (Nat.le_of_ble_eq_true rfl)) d_W_leastMultiple_15 ⟨Nat.le_of_ble_eq_true rfl, Nat.le_of_ble_eq_true rfl⟩) (fun r15 S12 H13 locs p_14 hI => ?_)
  obtain ⟨er15, eS16⟩ := p_14
  rw [eS16] at hI
  have er15 : r15 = nI b := er15
  subst er15
  refine lv_iload_n hx hb d_W_leastMultiple_18 rfl (lv_at hl 1 rfl) ?_
  refine lv_iconst (v := nI 1) hx hb d_W_leastMultiple_19 (by decide) ?_
  refine mp_calli hI (va_runS (As := [.int (nI (kN a1 b1 d1)), .int (nI 1)]) (rest := [.int (nI b), .int (nI (max a a1))]) ⟨hx, hb, hml, hown, hg⟩ (c_W_exponent l D g S _ a1 b1 d1 1 ha1 hb1 hd1 (by decide)) ⟨(callB_of 2 hg (wd_goodG q_309) rfl rfl rfl (hg _ q_11) (hg _ q_327) (by decide +kernel) ⟨Nat.le_of_ble_eq_true rfl, Nat.le_of_ble_eq_true rfl⟩), hg _ q_308⟩ (mp_pre hI hK [.int (nI (kN a1 b1 d1)), .int (nI 1)]) rfl rfl hl.1 rfl (lv_room (Nat.le_of_ble_eq_true rfl)) d_W_leastMultiple_20 ⟨Nat.le_of_ble_eq_true rfl, Nat.le_of_ble_eq_true rfl⟩) (fun r20 S17 H18 locs p_19 hI => ?_)
  obtain ⟨er20, eS21⟩ := p_19
  rw [eS21] at hI
  have er20 : r20 = nI b1 := er20
  subst er20
  refine va_mmax hx hb (hml.trans hl.1.symm) hown (hg _ q_328) (hg _ q_79) (hg _ q_4) (hg _ q_80) (Nat.le_of_ble_eq_true rfl) (Nat.le_of_ble_eq_true rfl) (Nat.le_of_ble_eq_true rfl) (Nat.le_of_ble_eq_true rfl) d_W_leastMultiple_23 ?_
  refine lv_topi (fun v22 ev22 => ?_)
  obtain rfl : v22 = nI (max b b1) := ev22.trans (mx_nI (by omega) (by omega))
  refine lv_iload_n hx hb d_W_leastMultiple_26 rfl (lv_at hl 0 rfl) ?_
  refine lv_iconst (v := nI 2) hx hb d_W_leastMultiple_27 (by decide) ?_
  refine mp_calli hI (va_runS (As := [.int (nI (kN a b d)), .int (nI 2)]) (rest := [.int (nI (max b b1)), .int (nI (max a a1))]) ⟨hx, hb, hml, hown, hg⟩ (c_W_exponent l D g S _ a b d 2 ha hb9 hd (by decide)) ⟨(callB_of 2 hg (wd_goodG q_309) rfl rfl rfl (hg _ q_11) (hg _ q_327) (by decide +kernel) ⟨Nat.le_of_ble_eq_true rfl, Nat.le_of_ble_eq_true rfl⟩), hg _ q_308⟩ (mp_pre hI hK [.int (nI (kN a b d)), .int (nI 2)]) rfl rfl hl.1 rfl (lv_room (Nat.le_of_ble_eq_true rfl)) d_W_leastMultiple_28 ⟨Nat.le_of_ble_eq_true rfl, Nat.le_of_ble_eq_true rfl⟩) (fun r26 S23 H24 locs p_25 hI => ?_)
  obtain ⟨er26, eS27⟩ := p_25
  rw [eS27] at hI
  have er26 : r26 = nI d := er26
  subst er26
  refine lv_iload_n hx hb d_W_leastMultiple_31 rfl (lv_at hl 1 rfl) ?_
  refine lv_iconst (v := nI 2) hx hb d_W_leastMultiple_32 (by decide) ?_
  refine mp_calli hI (va_runS (As := [.int (nI (kN a1 b1 d1)), .int (nI 2)]) (rest := [.int (nI d), .int (nI (max b b1)), .int (nI (max a a1))]) ⟨hx, hb, hml, hown, hg⟩ (c_W_exponent l D g S _ a1 b1 d1 2 ha1 hb1 hd1 (by decide)) ⟨(callB_of 2 hg (wd_goodG q_309) rfl rfl rfl (hg _ q_11) (hg _ q_327) (by decide +kernel) ⟨Nat.le_of_ble_eq_true rfl, Nat.le_of_ble_eq_true rfl⟩), hg _ q_308⟩ (mp_pre hI hK [.int (nI (kN a1 b1 d1)), .int (nI 2)]) rfl rfl hl.1 rfl (lv_room (Nat.le_of_ble_eq_true rfl)) d_W_leastMultiple_33 ⟨Nat.le_of_ble_eq_true rfl, Nat.le_of_ble_eq_true rfl⟩) (fun r31 S28 H29 locs p_30 hI => ?_)
  obtain ⟨er31, eS32⟩ := p_30
  rw [eS32] at hI
  have er31 : r31 = nI d1 := er31
  subst er31
  refine va_mmax hx hb (hml.trans hl.1.symm) hown (hg _ q_328) (hg _ q_79) (hg _ q_4) (hg _ q_80) (Nat.le_of_ble_eq_true rfl) (Nat.le_of_ble_eq_true rfl) (Nat.le_of_ble_eq_true rfl) (Nat.le_of_ble_eq_true rfl) d_W_leastMultiple_36 ?_
  refine lv_topi (fun v33 ev33 => ?_)
  obtain rfl : v33 = nI (max d d1) := ev33.trans (mx_nI (by omega) (by omega))
  refine mp_calli hI (va_runS (As := [.int (nI (max a a1)), .int (nI (max b b1)), .int (nI (max d d1))]) (rest := []) ⟨hx, hb, hml, hown, hg⟩ (c_W_key l D g S _ (max a a1) (max b b1) (max d d1) (by omega) (by omega) (by omega)) ⟨(callB_of 3 hg (wd_goodG q_183) rfl rfl rfl (hg _ q_11) (hg _ q_329) (by decide +kernel) ⟨Nat.le_of_ble_eq_true rfl, Nat.le_of_ble_eq_true rfl⟩), hg _ q_182⟩ (mp_pre hI hK [.int (nI (max a a1)), .int (nI (max b b1)), .int (nI (max d d1))]) rfl rfl hl.1 rfl (lv_room (Nat.le_of_ble_eq_true rfl)) d_W_leastMultiple_39 ⟨Nat.le_of_ble_eq_true rfl, Nat.le_of_ble_eq_true rfl⟩) (fun r37 S34 H35 locs p_36 hI => ?_)
  obtain ⟨er37, eS38⟩ := p_36
  rw [eS38] at hI
  have er37 : r37 = nI (kN (max a a1) (max b b1) (max d d1)) := er37
  subst er37
  exact mp_iret hx hb hr hlocks hI (by decide) (by decide) (⟨rfl, rfl⟩) d_W_leastMultiple_42
set_option maxHeartbeats 4000000 in
set_option maxRecDepth 100000 in
/-- two powers have a letter in common -/
theorem c_W_shareLetter (l : Launch) (D : mp_G) (g : Nat → ClassId) (S : mp_M) (sz : Nat) (a b d a1 b1 d1 : Nat)  (ha : a < 16) (hb9 : b < 16) (hd : d < 16) (ha1 : a1 < 16) (hb1 : b1 < 16) (hd1 : d1 < 16) : Met l y_W_shareLetter w_W_shareLetter ({ frames := 2, cells := 0, slots := 0, locals := 44 }) (va_Pc [.int (nI (kN a b d)), .int (nI (kN a1 b1 d1))] (mp_B0 D classes (tys g) S sz)) (va_Qi (fun (r : Int32) (S1 : mp_M) => r = (if (0 < a ∧ 0 < a1) ∨ (0 < b ∧ 0 < b1) ∨ (0 < d ∧ 0 < d1) then 1 else 0) ∧ S1 = S) (mp_B1 D classes S sz) (mp_A S sz)) 0 0 (mp_A S sz) := by
  refine Met.ofW (cc := b_W_shareLetter) (maxL := 2) (ret := (some .boolean)) (by decide) rfl ?_
  intro p e s m args below meth c s₁ B hml hv
  obtain ⟨rfl, hsz, hH, hK⟩ := hv
  have hx := B.exec
  have hb := B.bytes
  have hr := B.returns
  have hts := atoms_spec (ws := w_W_shareLetter) B.pre
  have hg : ∀ w ∈ gw, w.before _ s = true := fun w h => hts w (List.mem_cons_of_mem _ h)
  have hown : s.vm.findClass R_W = some m.cls := findClass_of_methodNamed B.named
  have hlocks := B.notSynchronized
  subst hsz
  have hI := mp_I.start hH
  have hl := lv_entry ([.int (nI (kN a b d)), .int (nI (kN a1 b1 d1))]) (n := 2) (Nat.le_of_ble_eq_true rfl)
  rw [lg_entry_eq]
  generalize (lg_sl ([.int (nI (kN a b d)), .int (nI (kN a1 b1 d1))]) ++ List.replicate (2 - (lg_sl ([.int (nI (kN a b d)), .int (nI (kN a1 b1 d1))])).length) Slot.unset).toArray = ls at hl ⊢
  have hl : lv_has ls 2 [(0, .int (nI (kN a b d))), (1, .int (nI (kN a1 b1 d1)))] := hl
  refine lv_iload_n hx hb d_W_shareLetter_0 rfl (lv_at hl 0 rfl) ?_
  refine lv_iload_n hx hb d_W_shareLetter_1 rfl (lv_at hl 1 rfl) ?_
  refine mp_calli hI (va_runS (As := [.int (nI (kN a b d)), .int (nI (kN a1 b1 d1))]) (rest := []) ⟨hx, hb, hml, hown, hg⟩ (c_W_leastMultiple l D g S _ a b d a1 b1 d1 (by omega) (by omega) (by omega) (by omega) (by omega) (by omega)) ⟨(callB_of 2 hg (wd_goodG q_326) rfl rfl rfl (hg _ q_11) (hg _ q_324) (by decide +kernel) ⟨Nat.le_of_ble_eq_true rfl, Nat.le_of_ble_eq_true rfl⟩), hg _ q_325⟩ (mp_pre hI hK [.int (nI (kN a b d)), .int (nI (kN a1 b1 d1))]) rfl rfl hl.1 rfl (lv_room (Nat.le_of_ble_eq_true rfl)) d_W_shareLetter_2 ⟨Nat.le_of_ble_eq_true rfl, Nat.le_of_ble_eq_true rfl⟩) (fun r4 S1 H2 locs p_3 hI => ?_)
  obtain ⟨er4, eS5⟩ := p_3
  rw [eS5] at hI
  have er4 : r4 = nI (kN (max a a1) (max b b1) (max d d1)) := er4
  subst er4
  have hk := kN_add a b d a1 b1 d1
  have hk1 := kN_lt (a := a + a1) (b := b + b1) (d := d + d1) (by omega) (by omega) (by omega)
  have hk2 := kN_lt (a := max a a1) (b := max b b1) (d := max d d1) (by omega) (by omega) (by omega)
  have hk3 := kN_inj (a := max a a1) (b := max b b1) (d := max d d1) (a1 := a + a1) (b1 := b + b1) (d1 := d + d1) (by omega) (by omega) (by omega) (by omega) (by omega) (by omega)
  refine lv_iload_n hx hb d_W_shareLetter_5 rfl (lv_at hl 0 rfl) ?_
  refine lv_iload_n hx hb d_W_shareLetter_6 rfl (lv_at hl 1 rfl) ?_
  refine lv_iadd hx hb d_W_shareLetter_7 ?_
  refine lv_topi (fun v6 ev6 => ?_)
  obtain rfl : v6 = nI ((kN a b d) + (kN a1 b1 d1)) := ev6.trans (nI_add _ _)
  refine lv_icmp_eq (tgt := 15) hx hb d_W_shareLetter_8 (by decide) (fun c1 => ?_) (fun c1 => ?_)
  · rw [nI_eq (by omega) (by omega)] at c1
    rw [hk, hk3] at c1
    refine lv_iconst (v := nI 0) hx hb d_W_shareLetter_15 (by decide) ?_
    exact mp_zret hx hb hr hlocks hI (by decide) (by decide) (⟨by rw [if_neg (by omega)]; rfl, rfl⟩) (by decide) d_W_shareLetter_16
  · rw [nI_eq (by omega) (by omega)] at c1
    rw [hk, hk3] at c1
    refine lv_iconst (v := nI 1) hx hb d_W_shareLetter_11 (by decide) ?_
    refine lv_goto (tgt := 16) hx hb d_W_shareLetter_12 (by decide) ?_
    exact mp_zret hx hb hr hlocks hI (by decide) (by decide) (⟨by rw [if_pos (by omega)]; rfl, rfl⟩) (by decide) d_W_shareLetter_16
set_option maxHeartbeats 4000000 in
set_option maxRecDepth 100000 in
/-- a power is of the letters -/
theorem c_W_isOf (l : Launch) (D : mp_G) (g : Nat → ClassId) (S : mp_M) (sz : Nat) (a b d n : Nat)  (ha : a < 32) (hb9 : b < 32) (hd : d < 32) (hn : n < 4) : Met l y_W_isOf w_W_isOf ({ frames := 1, cells := 0, slots := 0, locals := 23 }) (va_Pc [.int (nI (kN a b d)), .int (nI n)] (mp_B0 D classes (tys g) S sz)) (va_Qi (fun (r : Int32) (S1 : mp_M) => r = (if (1 < n ∨ b = 0) ∧ (2 < n ∨ d = 0) then 1 else 0) ∧ S1 = S) (mp_B1 D classes S sz) (mp_A S sz)) 0 0 (mp_A S sz) := by
  refine Met.ofW (cc := b_W_isOf) (maxL := 2) (ret := (some .boolean)) (by decide) rfl ?_
  intro p e s m args below meth c s₁ B hml hv
  obtain ⟨rfl, hsz, hH, hK⟩ := hv
  have hx := B.exec
  have hb := B.bytes
  have hr := B.returns
  have hts := atoms_spec (ws := w_W_isOf) B.pre
  have hg : ∀ w ∈ gw, w.before _ s = true := fun w h => hts w (List.mem_cons_of_mem _ h)
  have hown : s.vm.findClass R_W = some m.cls := findClass_of_methodNamed B.named
  have hlocks := B.notSynchronized
  subst hsz
  have hI := mp_I.start hH
  have hl := lv_entry ([.int (nI (kN a b d)), .int (nI n)]) (n := 2) (Nat.le_of_ble_eq_true rfl)
  rw [lg_entry_eq]
  generalize (lg_sl ([.int (nI (kN a b d)), .int (nI n)]) ++ List.replicate (2 - (lg_sl ([.int (nI (kN a b d)), .int (nI n)])).length) Slot.unset).toArray = ls at hl ⊢
  have hl : lv_has ls 2 [(0, .int (nI (kN a b d))), (1, .int (nI n))] := hl
  refine lv_iload_n hx hb d_W_isOf_0 rfl (lv_at hl 1 rfl) ?_
  refine lv_iconst (v := nI 1) hx hb d_W_isOf_1 (by decide) ?_
  refine lv_icmp_gt (tgt := 13) hx hb d_W_isOf_2 (by decide) (fun c1 => ?_) (fun c1 => ?_)
  · rw [nI_ltI (by omega) (by omega)] at c1
    refine lv_iload_n hx hb d_W_isOf_13 rfl (lv_at hl 1 rfl) ?_
    refine lv_iconst (v := nI 2) hx hb d_W_isOf_14 (by decide) ?_
    refine lv_icmp_gt (tgt := 26) hx hb d_W_isOf_15 (by decide) (fun c3 => ?_) (fun c3 => ?_)
    · rw [nI_ltI (by omega) (by omega)] at c3
      refine lv_iconst (v := nI 1) hx hb d_W_isOf_26 (by decide) ?_
      refine lv_goto (tgt := 31) hx hb d_W_isOf_27 (by decide) ?_
      exact mp_zret hx hb hr hlocks hI (by decide) (by decide) (⟨by rw [if_pos (by omega)]; rfl, rfl⟩) (by decide) d_W_isOf_31
    · rw [nI_ltI (by omega) (by omega)] at c3
      refine lv_iload_n hx hb d_W_isOf_18 rfl (lv_at hl 0 rfl) ?_
      refine lv_iconst (v := nI 2) hx hb d_W_isOf_19 (by decide) ?_
      refine mp_calli hI (va_runS (As := [.int (nI (kN a b d)), .int (nI 2)]) (rest := []) ⟨hx, hb, hml, hown, hg⟩ (c_W_exponent l D g S _ a b d 2 ha hb9 hd (by decide)) ⟨(callB_of 2 hg (wd_goodG q_309) rfl rfl rfl (hg _ q_11) (hg _ q_327) (by decide +kernel) ⟨Nat.le_of_ble_eq_true rfl, Nat.le_of_ble_eq_true rfl⟩), hg _ q_308⟩ (mp_pre hI hK [.int (nI (kN a b d)), .int (nI 2)]) rfl rfl hl.1 rfl (lv_room (Nat.le_of_ble_eq_true rfl)) d_W_isOf_20 ⟨Nat.le_of_ble_eq_true rfl, Nat.le_of_ble_eq_true rfl⟩) (fun r4 S1 H2 locs p_3 hI => ?_)
      obtain ⟨er4, eS5⟩ := p_3
      rw [eS5] at hI
      have er4 : r4 = nI d := er4
      subst er4
      refine lv_if_ne (tgt := 30) hx hb d_W_isOf_23 (by decide) (fun c4 => ?_) (fun c4 => ?_)
      · rw [zI_eq (by omega)] at c4
        refine lv_iconst (v := nI 0) hx hb d_W_isOf_30 (by decide) ?_
        exact mp_zret hx hb hr hlocks hI (by decide) (by decide) (⟨by rw [if_neg (by omega)]; rfl, rfl⟩) (by decide) d_W_isOf_31
      · rw [zI_eq (by omega)] at c4
        refine lv_iconst (v := nI 1) hx hb d_W_isOf_26 (by decide) ?_
        refine lv_goto (tgt := 31) hx hb d_W_isOf_27 (by decide) ?_
        exact mp_zret hx hb hr hlocks hI (by decide) (by decide) (⟨by rw [if_pos (by omega)]; rfl, rfl⟩) (by decide) d_W_isOf_31
  · rw [nI_ltI (by omega) (by omega)] at c1
    refine lv_iload_n hx hb d_W_isOf_5 rfl (lv_at hl 0 rfl) ?_
    refine lv_iconst (v := nI 1) hx hb d_W_isOf_6 (by decide) ?_
    refine mp_calli hI (va_runS (As := [.int (nI (kN a b d)), .int (nI 1)]) (rest := []) ⟨hx, hb, hml, hown, hg⟩ (c_W_exponent l D g S _ a b d 1 ha hb9 hd (by decide)) ⟨(callB_of 2 hg (wd_goodG q_309) rfl rfl rfl (hg _ q_11) (hg _ q_327) (by decide +kernel) ⟨Nat.le_of_ble_eq_true rfl, Nat.le_of_ble_eq_true rfl⟩), hg _ q_308⟩ (mp_pre hI hK [.int (nI (kN a b d)), .int (nI 1)]) rfl rfl hl.1 rfl (lv_room (Nat.le_of_ble_eq_true rfl)) d_W_isOf_7 ⟨Nat.le_of_ble_eq_true rfl, Nat.le_of_ble_eq_true rfl⟩) (fun r9 S6 H7 locs p_8 hI => ?_)
    obtain ⟨er9, eS10⟩ := p_8
    rw [eS10] at hI
    have er9 : r9 = nI b := er9
    subst er9
    refine lv_if_ne (tgt := 30) hx hb d_W_isOf_10 (by decide) (fun c2 => ?_) (fun c2 => ?_)
    · rw [zI_eq (by omega)] at c2
      refine lv_iconst (v := nI 0) hx hb d_W_isOf_30 (by decide) ?_
      exact mp_zret hx hb hr hlocks hI (by decide) (by decide) (⟨by rw [if_neg (by omega)]; rfl, rfl⟩) (by decide) d_W_isOf_31
    · rw [zI_eq (by omega)] at c2
      refine lv_iload_n hx hb d_W_isOf_13 rfl (lv_at hl 1 rfl) ?_
      refine lv_iconst (v := nI 2) hx hb d_W_isOf_14 (by decide) ?_
      refine lv_icmp_gt (tgt := 26) hx hb d_W_isOf_15 (by decide) (fun c3 => ?_) (fun c3 => ?_)
      · rw [nI_ltI (by omega) (by omega)] at c3
        refine lv_iconst (v := nI 1) hx hb d_W_isOf_26 (by decide) ?_
        refine lv_goto (tgt := 31) hx hb d_W_isOf_27 (by decide) ?_
        exact mp_zret hx hb hr hlocks hI (by decide) (by decide) (⟨by rw [if_pos (by omega)]; rfl, rfl⟩) (by decide) d_W_isOf_31
      · rw [nI_ltI (by omega) (by omega)] at c3
        refine lv_iload_n hx hb d_W_isOf_18 rfl (lv_at hl 0 rfl) ?_
        refine lv_iconst (v := nI 2) hx hb d_W_isOf_19 (by decide) ?_
        refine mp_calli hI (va_runS (As := [.int (nI (kN a b d)), .int (nI 2)]) (rest := []) ⟨hx, hb, hml, hown, hg⟩ (c_W_exponent l D g S _ a b d 2 ha hb9 hd (by decide)) ⟨(callB_of 2 hg (wd_goodG q_309) rfl rfl rfl (hg _ q_11) (hg _ q_327) (by decide +kernel) ⟨Nat.le_of_ble_eq_true rfl, Nat.le_of_ble_eq_true rfl⟩), hg _ q_308⟩ (mp_pre hI hK [.int (nI (kN a b d)), .int (nI 2)]) rfl rfl hl.1 rfl (lv_room (Nat.le_of_ble_eq_true rfl)) d_W_isOf_20 ⟨Nat.le_of_ble_eq_true rfl, Nat.le_of_ble_eq_true rfl⟩) (fun r14 S11 H12 locs p_13 hI => ?_)
        obtain ⟨er14, eS15⟩ := p_13
        rw [eS15] at hI
        have er14 : r14 = nI d := er14
        subst er14
        refine lv_if_ne (tgt := 30) hx hb d_W_isOf_23 (by decide) (fun c4 => ?_) (fun c4 => ?_)
        · rw [zI_eq (by omega)] at c4
          refine lv_iconst (v := nI 0) hx hb d_W_isOf_30 (by decide) ?_
          exact mp_zret hx hb hr hlocks hI (by decide) (by decide) (⟨by rw [if_neg (by omega)]; rfl, rfl⟩) (by decide) d_W_isOf_31
        · rw [zI_eq (by omega)] at c4
          refine lv_iconst (v := nI 1) hx hb d_W_isOf_26 (by decide) ?_
          refine lv_goto (tgt := 31) hx hb d_W_isOf_27 (by decide) ?_
          exact mp_zret hx hb hr hlocks hI (by decide) (by decide) (⟨by rw [if_pos (by omega)]; rfl, rfl⟩) (by decide) d_W_isOf_31
set_option maxHeartbeats 4000000 in
set_option maxRecDepth 100000 in
/-- a power as the document writes it -/
theorem c_W_written (l : Launch) (D : mp_G) (g : Nat → ClassId) (S : mp_M) (sz : Nat) (a b d : Nat)  (ha : a < 32) (hb9 : b < 32) (hd : d < 32) : Met l y_W_written w_W_written ({ frames := 1, cells := 0, slots := 0, locals := 23 }) (va_Pc [.int (nI (kN a b d))] (mp_B0 D classes (tys g) S sz)) (va_Qi (fun (r : Int32) (S1 : mp_M) => r = nI (a + 16 * b + 256 * d) ∧ S1 = S) (mp_B1 D classes S sz) (mp_A S sz)) 0 0 (mp_A S sz) := by
  refine Met.ofW (cc := b_W_written) (maxL := 1) (ret := (some .int)) (by decide) rfl ?_
  intro p e s m args below meth c s₁ B hml hv
  obtain ⟨rfl, hsz, hH, hK⟩ := hv
  have hx := B.exec
  have hb := B.bytes
  have hr := B.returns
  have hts := atoms_spec (ws := w_W_written) B.pre
  have hg : ∀ w ∈ gw, w.before _ s = true := fun w h => hts w (List.mem_cons_of_mem _ h)
  have hown : s.vm.findClass R_W = some m.cls := findClass_of_methodNamed B.named
  have hlocks := B.notSynchronized
  subst hsz
  have hI := mp_I.start hH
  have hl := lv_entry ([.int (nI (kN a b d))]) (n := 1) (Nat.le_of_ble_eq_true rfl)
  rw [lg_entry_eq]
  generalize (lg_sl ([.int (nI (kN a b d))]) ++ List.replicate (1 - (lg_sl ([.int (nI (kN a b d))])).length) Slot.unset).toArray = ls at hl ⊢
  have hl : lv_has ls 1 [(0, .int (nI (kN a b d)))] := hl
  refine lv_iload_n hx hb d_W_written_0 rfl (lv_at hl 0 rfl) ?_
  refine lv_iconst (v := nI 0) hx hb d_W_written_1 (by decide) ?_
  refine mp_calli hI (va_runS (As := [.int (nI (kN a b d)), .int (nI 0)]) (rest := []) ⟨hx, hb, hml, hown, hg⟩ (c_W_exponent l D g S _ a b d 0 ha hb9 hd (by decide)) ⟨(callB_of 2 hg (wd_goodG q_309) rfl rfl rfl (hg _ q_11) (hg _ q_327) (by decide +kernel) ⟨Nat.le_of_ble_eq_true rfl, Nat.le_of_ble_eq_true rfl⟩), hg _ q_308⟩ (mp_pre hI hK [.int (nI (kN a b d)), .int (nI 0)]) rfl rfl hl.1 rfl (lv_room (Nat.le_of_ble_eq_true rfl)) d_W_written_2 ⟨Nat.le_of_ble_eq_true rfl, Nat.le_of_ble_eq_true rfl⟩) (fun r4 S1 H2 locs p_3 hI => ?_)
  obtain ⟨er4, eS5⟩ := p_3
  rw [eS5] at hI
  have er4 : r4 = nI a := er4
  subst er4
  refine lv_bipush (v := nI 16) hx hb d_W_written_5 (by decide) ?_
  refine lv_iload_n hx hb d_W_written_7 rfl (lv_at hl 0 rfl) ?_
  refine lv_iconst (v := nI 1) hx hb d_W_written_8 (by decide) ?_
  refine mp_calli hI (va_runS (As := [.int (nI (kN a b d)), .int (nI 1)]) (rest := [.int (nI 16), .int (nI a)]) ⟨hx, hb, hml, hown, hg⟩ (c_W_exponent l D g S _ a b d 1 ha hb9 hd (by decide)) ⟨(callB_of 2 hg (wd_goodG q_309) rfl rfl rfl (hg _ q_11) (hg _ q_327) (by decide +kernel) ⟨Nat.le_of_ble_eq_true rfl, Nat.le_of_ble_eq_true rfl⟩), hg _ q_308⟩ (mp_pre hI hK [.int (nI (kN a b d)), .int (nI 1)]) rfl rfl hl.1 rfl (lv_room (Nat.le_of_ble_eq_true rfl)) d_W_written_9 ⟨Nat.le_of_ble_eq_true rfl, Nat.le_of_ble_eq_true rfl⟩) (fun r9 S6 H7 locs p_8 hI => ?_)
  obtain ⟨er9, eS10⟩ := p_8
  rw [eS10] at hI
  have er9 : r9 = nI b := er9
  subst er9
  refine lv_imul hx hb d_W_written_12 ?_
  refine lv_topi (fun v11 ev11 => ?_)
  obtain rfl : v11 = nI (16 * b) := ev11.trans (pk_mul _ _)
  refine lv_iadd hx hb d_W_written_13 ?_
  refine lv_topi (fun v12 ev12 => ?_)
  obtain rfl : v12 = nI (a + (16 * b)) := ev12.trans (nI_add _ _)
  refine lv_sipush (v := nI 256) hx hb d_W_written_14 (by decide) ?_
  refine lv_iload_n hx hb d_W_written_17 rfl (lv_at hl 0 rfl) ?_
  refine lv_iconst (v := nI 2) hx hb d_W_written_18 (by decide) ?_
  refine mp_calli hI (va_runS (As := [.int (nI (kN a b d)), .int (nI 2)]) (rest := [.int (nI 256), .int (nI (a + (16 * b)))]) ⟨hx, hb, hml, hown, hg⟩ (c_W_exponent l D g S _ a b d 2 ha hb9 hd (by decide)) ⟨(callB_of 2 hg (wd_goodG q_309) rfl rfl rfl (hg _ q_11) (hg _ q_327) (by decide +kernel) ⟨Nat.le_of_ble_eq_true rfl, Nat.le_of_ble_eq_true rfl⟩), hg _ q_308⟩ (mp_pre hI hK [.int (nI (kN a b d)), .int (nI 2)]) rfl rfl hl.1 rfl (lv_room (Nat.le_of_ble_eq_true rfl)) d_W_written_19 ⟨Nat.le_of_ble_eq_true rfl, Nat.le_of_ble_eq_true rfl⟩) (fun r16 S13 H14 locs p_15 hI => ?_)
  obtain ⟨er16, eS17⟩ := p_15
  rw [eS17] at hI
  have er16 : r16 = nI d := er16
  subst er16
  refine lv_imul hx hb d_W_written_22 ?_
  refine lv_topi (fun v18 ev18 => ?_)
  obtain rfl : v18 = nI (256 * d) := ev18.trans (pk_mul _ _)
  refine lv_iadd hx hb d_W_written_23 ?_
  refine lv_topi (fun v19 ev19 => ?_)
  obtain rfl : v19 = nI ((a + (16 * b)) + (256 * d)) := ev19.trans (nI_add _ _)
  exact mp_iret hx hb hr hlocks hI (by decide) (by decide) (⟨rfl, rfl⟩) d_W_written_24
