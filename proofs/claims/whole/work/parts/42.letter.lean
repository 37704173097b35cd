/-- a polynomial in one letter as it is held: n numbers, the last of them not 0 -/
def olP (n : Nat) (c : Nat → fF) : Prop := n ≤ 33 ∧ (∀ k, n ≤ k → c k = 0) ∧ (0 < n → c (n - 1) ≠ 0)
theorem dmin {m : Nat} (h : m ≤ 33) : (if nI (33 - 1) < nI m + -1 then nI (33 - 1) else nI m + -1) = nI m + -1 := by
  cases m with
  | zero => decide
  | succ k => rw [nI_dec, if_neg]; rw [nI_ltI (by omega) (by omega)]; omega
theorem pe_ol {n N : Nat} {c : Nat → fF} (h : ∀ k, n ≤ k → c k = 0) (hN : n ≤ N) (a : fF) : pe N c a = pe n c a := by
  unfold pe; exact sm_le hN (fun i h1 _ => by rw [h i h1]; grind)
def scl (c : Nat → fF) (y : fF) : Nat → fF := fun k => c k * y
theorem scl_w {n : Nat} {c : Nat → fF} {y : fF} (h : ∀ k, n ≤ k → c k = 0) : mgF n (scl c y) c = scl c y := by
  funext k
  by_cases e : k < n
  · rw [mgF_lt e]
  · rw [mgF_ge e]; unfold scl; rw [h k (by omega)]; grind
theorem pe_scl (n : Nat) (c : Nat → fF) (y a : fF) : pe n (scl c y) a = y * pe n c a := by
  unfold pe scl; rw [← sm_mul]; apply sm_cg; intro k _; grind
/-- one step of a division, so far -/
def stpI (m : Nat) (b : Nat → fF) (c : Nat → fF) (sh i : Nat) : Nat → fF := fun k => if sh ≤ k ∧ k < sh + i then c k - c (sh + m) * b (k - sh) else c k
theorem stpI_0 (m : Nat) (b c : Nat → fF) (sh : Nat) : stpI m b c sh 0 = c := by funext k; unfold stpI; rw [if_neg (by omega)]
theorem stpI_m (m : Nat) (b c : Nat → fF) (sh : Nat) : stpI m b c sh m = stp m b c sh := rfl
theorem stpI_up {m : Nat} {b c : Nat → fF} {sh i : Nat} : va_up (stpI m b c sh i) (sh + i) (c (sh + i) - c (sh + m) * b i) = stpI m b c sh (i + 1) := by
  funext k
  by_cases e : k = sh + i
  · rw [e, mp_us]; unfold stpI; rw [if_pos (by omega), Nat.add_sub_cancel_left]
  · rw [mp_un e]; unfold stpI
    by_cases q : sh ≤ k ∧ k < sh + i
    · rw [if_pos q, if_pos (by omega)]
    · rw [if_neg q, if_neg (by omega)]
theorem stpI_at {m : Nat} {b c : Nat → fF} {sh i k : Nat} (h : sh + i ≤ k) : stpI m b c sh i k = c k := by unfold stpI; rw [if_neg (by omega)]
/-- the places from i on are 0 -/
def cut (i : Nat) (c : Nat → fF) : Nat → fF := fun k => if k < i then c k else 0
theorem nI_sub1 (m : Nat) : nI m - nI 1 = nI m + -1 := by rw [Int32.sub_eq_add_neg]; rfl
theorem wpF_us {m i : Nat} {D : Nat → fF} (h : m ≤ i) : va_up (wpF m i D) i 0 = wpF m (i + 1) D := by
  funext j
  by_cases e : j = i
  · rw [e, mp_us]; unfold wpF; rw [if_pos (by omega)]
  · rw [mp_un e]; unfold wpF
    by_cases q : m ≤ j ∧ j < i
    · rw [if_pos q, if_pos (by omega)]
    · rw [if_neg q, if_neg (by omega)]
theorem wpF_e (m : Nat) (D : Nat → fF) : wpF m m D = D := by funext j; unfold wpF; rw [if_neg (by omega)]
theorem wpF_cut {m d : Nat} {D : Nat → fF} (h : ∀ k, d < k → D k = 0) : wpF m (d + 1) D = cut m D := by
  funext j; unfold wpF cut
  by_cases e : j < m
  · rw [if_neg (by omega), if_pos e]
  · rw [if_neg e]
    by_cases q : j < d + 1
    · rw [if_pos (by omega)]
    · rw [if_neg (by omega)]; exact h j (by omega)
/-- what a remainder is worth -/
theorem rem_sem {m d : Nat} {b c : Nat → fF} (hm : m ≤ d) (hd : d < 33) (hz : ∀ k, d < k → c k = 0) : ∃ Q : fF → fF, (∀ a, pe 33 c a = Q a * (pe m b a + a ^ m) + pe 33 (cut m (dvA m b (d + 1 - m) c)) a) ∧ PL (d + 1 - m) Q ∧ (c d = 1 → PM (d - m) Q) := by
  refine ⟨fun a => pe (d + 1 - m) (fun k => dvA m b (d + 1 - m) c (m + k)) a, fun a => ?_, ⟨_, fun a => rfl⟩, fun h1 => dv_pm hm h1⟩
  have h1 := dv_eq (b := b) a (d + 1 - m) c (m := m)
  rw [show d + 1 - m + m = d + 1 by omega] at h1
  rw [pe_ol (n := d + 1) (fun k hk => hz k (by omega)) (by omega), h1]
  congr 1
  rw [pe_ol (n := m) (c := cut m _) (fun k hk => by unfold cut; rw [if_neg (by omega)]) (by omega)]
  exact pe_cg a (fun k hk => by unfold cut; rw [if_pos hk])
def mbI (s : fF) (c : Nat → fF) (k : Nat) : Nat → fF := fun q => if k < q then mbs s c q else c q
theorem mbI_up {s : fF} {c : Nat → fF} {k : Nat} : va_up (mbI s c (k + 1)) (k + 1) (c k + s * c (k + 1)) = mbI s c k := by
  funext q
  by_cases e : q = k + 1
  · rw [e, mp_us]; unfold mbI mbs; rw [if_pos (Nat.lt_succ_self k), if_neg (Nat.succ_ne_zero k), Nat.add_sub_cancel]
  · rw [mp_un e]; unfold mbI
    by_cases q9 : k < q
    · rw [if_pos q9, if_pos (by omega)]
    · rw [if_neg q9, if_neg (by omega)]
theorem mbI_lo {s : fF} {c : Nat → fF} {k q : Nat} (h : q ≤ k) : mbI s c k q = c q := by unfold mbI; rw [if_neg (by omega)]
theorem mbI_0 {s : fF} {c : Nat → fF} : va_up (mbI s c 0) 0 (s * c 0) = mbs s c := by
  funext q
  by_cases e : q = 0
  · rw [e, mp_us]; unfold mbs; rw [if_pos rfl]; grind
  · rw [mp_un e]; unfold mbI; rw [if_pos (by omega)]
theorem mbI_d {s : fF} {c : Nat → fF} {d : Nat} (h : ∀ k, d < k → c k = 0) : mbI s c (d + 1) = c := by
  funext q; unfold mbI
  by_cases e : d + 1 < q
  · rw [if_pos e]; unfold mbs; rw [if_neg (by omega), h (q - 1) (by omega), h q (by omega)]; grind
  · rw [if_neg e]
def qtI (m d : Nat) (D : Nat → fF) (i : Nat) : Nat → fF := fun k => if k < i then (if k ≤ d - m then D (k + m) else 0) else D k
theorem qtI_0 (m d : Nat) (D : Nat → fF) : qtI m d D 0 = D := by funext k; unfold qtI; rw [if_neg (Nat.not_lt_zero k)]
theorem qtI_y {m d : Nat} {D : Nat → fF} {i : Nat} (h : i ≤ d - m) : va_up (qtI m d D i) i (D (i + m)) = qtI m d D (i + 1) := by
  funext k
  by_cases e : k = i
  · rw [e, mp_us]; unfold qtI; rw [if_pos (Nat.lt_succ_self i), if_pos h]
  · rw [mp_un e]; unfold qtI
    by_cases q : k < i
    · rw [if_pos q, if_pos (show k < i + 1 by omega)]
    · rw [if_neg q, if_neg (show ¬ k < i + 1 by omega)]
theorem qtI_n {m d : Nat} {D : Nat → fF} {i : Nat} (h : ¬ i ≤ d - m) : va_up (qtI m d D i) i 0 = qtI m d D (i + 1) := by
  funext k
  by_cases e : k = i
  · rw [e, mp_us]; unfold qtI; rw [if_pos (Nat.lt_succ_self i), if_neg h]
  · rw [mp_un e]; unfold qtI
    by_cases q : k < i
    · rw [if_pos q, if_pos (show k < i + 1 by omega)]
    · rw [if_neg q, if_neg (show ¬ k < i + 1 by omega)]
theorem qtI_g {m d : Nat} {D : Nat → fF} {i k : Nat} (h : i ≤ k) : qtI m d D i k = D k := by unfold qtI; rw [if_neg (by omega)]
theorem dI_gt {m n : Nat} (h : n ≤ m) (hm : m < 33) (hn : n ≤ 33) : ¬ nI m ≤ nI n + -1 := by
  cases n with
  | zero =>
    intro q
    have h1 : nI m < 0 := Int32.lt_of_le_of_lt q (by decide)
    exact nI_pos (by omega) h1
  | succ k => rw [nI_dec, nI_leI (by omega) (by omega)]; omega

theorem d_O_becomeQuotient_0 : decode b_O_becomeQuotient 0 = .ok (.aload_n 1, 1) := by decide +kernel
theorem d_O_becomeQuotient_1 : decode b_O_becomeQuotient 1 = .ok (.getfield 15, 3) := by decide +kernel
theorem d_O_becomeQuotient_4 : decode b_O_becomeQuotient 4 = .ok (.iconst 1, 1) := by decide +kernel
theorem d_O_becomeQuotient_5 : decode b_O_becomeQuotient 5 = .ok (.if_icmp .lt 14, 3) := by decide +kernel
theorem d_O_becomeQuotient_8 : decode b_O_becomeQuotient 8 = .ok (.aload_n 1, 1) := by decide +kernel
theorem d_O_becomeQuotient_9 : decode b_O_becomeQuotient 9 = .ok (.getfield 15, 3) := by decide +kernel
theorem d_O_becomeQuotient_12 : decode b_O_becomeQuotient 12 = .ok (.aload_n 0, 1) := by decide +kernel
theorem d_O_becomeQuotient_13 : decode b_O_becomeQuotient 13 = .ok (.getfield 15, 3) := by decide +kernel
theorem d_O_becomeQuotient_16 : decode b_O_becomeQuotient 16 = .ok (.if_icmp .le 4, 3) := by decide +kernel
theorem d_O_becomeQuotient_20 : decode b_O_becomeQuotient 20 = .ok (.aload_n 0, 1) := by decide +kernel
theorem d_O_becomeQuotient_21 : decode b_O_becomeQuotient 21 = .ok (.aload_n 1, 1) := by decide +kernel
theorem d_O_becomeQuotient_22 : decode b_O_becomeQuotient 22 = .ok (.invokevirtual 42, 3) := by decide +kernel
theorem d_O_becomeQuotient_25 : decode b_O_becomeQuotient 25 = .ok (.aload_n 0, 1) := by decide +kernel
theorem d_O_becomeQuotient_26 : decode b_O_becomeQuotient 26 = .ok (.getfield 15, 3) := by decide +kernel
theorem d_O_becomeQuotient_29 : decode b_O_becomeQuotient 29 = .ok (.aload_n 1, 1) := by decide +kernel
theorem d_O_becomeQuotient_30 : decode b_O_becomeQuotient 30 = .ok (.getfield 15, 3) := by decide +kernel
theorem d_O_becomeQuotient_33 : decode b_O_becomeQuotient 33 = .ok (.isub, 1) := by decide +kernel
theorem d_O_becomeQuotient_34 : decode b_O_becomeQuotient 34 = .ok (.istore_n 2, 1) := by decide +kernel
theorem d_O_becomeQuotient_35 : decode b_O_becomeQuotient 35 = .ok (.iconst 0, 1) := by decide +kernel
theorem d_O_becomeQuotient_36 : decode b_O_becomeQuotient 36 = .ok (.istore_n 3, 1) := by decide +kernel
theorem d_O_becomeQuotient_37 : decode b_O_becomeQuotient 37 = .ok (.iload_n 3, 1) := by decide +kernel
theorem d_O_becomeQuotient_38 : decode b_O_becomeQuotient 38 = .ok (.aload_n 0, 1) := by decide +kernel
theorem d_O_becomeQuotient_39 : decode b_O_becomeQuotient 39 = .ok (.getfield 15, 3) := by decide +kernel
theorem d_O_becomeQuotient_42 : decode b_O_becomeQuotient 42 = .ok (.if_icmp .gt 35, 3) := by decide +kernel
theorem d_O_becomeQuotient_45 : decode b_O_becomeQuotient 45 = .ok (.aload_n 0, 1) := by decide +kernel
theorem d_O_becomeQuotient_46 : decode b_O_becomeQuotient 46 = .ok (.getfield 9, 3) := by decide +kernel
theorem d_O_becomeQuotient_49 : decode b_O_becomeQuotient 49 = .ok (.iload_n 3, 1) := by decide +kernel
theorem d_O_becomeQuotient_50 : decode b_O_becomeQuotient 50 = .ok (.iload_n 3, 1) := by decide +kernel
theorem d_O_becomeQuotient_51 : decode b_O_becomeQuotient 51 = .ok (.iload_n 2, 1) := by decide +kernel
theorem d_O_becomeQuotient_52 : decode b_O_becomeQuotient 52 = .ok (.if_icmp .gt 17, 3) := by decide +kernel
theorem d_O_becomeQuotient_55 : decode b_O_becomeQuotient 55 = .ok (.aload_n 0, 1) := by decide +kernel
theorem d_O_becomeQuotient_56 : decode b_O_becomeQuotient 56 = .ok (.getfield 9, 3) := by decide +kernel
theorem d_O_becomeQuotient_59 : decode b_O_becomeQuotient 59 = .ok (.iload_n 3, 1) := by decide +kernel
theorem d_O_becomeQuotient_60 : decode b_O_becomeQuotient 60 = .ok (.aload_n 1, 1) := by decide +kernel
theorem d_O_becomeQuotient_61 : decode b_O_becomeQuotient 61 = .ok (.getfield 15, 3) := by decide +kernel
theorem d_O_becomeQuotient_64 : decode b_O_becomeQuotient 64 = .ok (.iadd, 1) := by decide +kernel
theorem d_O_becomeQuotient_65 : decode b_O_becomeQuotient 65 = .ok (.iaload, 1) := by decide +kernel
theorem d_O_becomeQuotient_66 : decode b_O_becomeQuotient 66 = .ok (.goto 4, 3) := by decide +kernel
theorem d_O_becomeQuotient_69 : decode b_O_becomeQuotient 69 = .ok (.iconst 0, 1) := by decide +kernel
theorem d_O_becomeQuotient_70 : decode b_O_becomeQuotient 70 = .ok (.iastore, 1) := by decide +kernel
theorem d_O_becomeQuotient_71 : decode b_O_becomeQuotient 71 = .ok (.iinc 3 1, 3) := by decide +kernel
theorem d_O_becomeQuotient_74 : decode b_O_becomeQuotient 74 = .ok (.goto (-37), 3) := by decide +kernel
theorem d_O_becomeQuotient_77 : decode b_O_becomeQuotient 77 = .ok (.aload_n 0, 1) := by decide +kernel
theorem d_O_becomeQuotient_78 : decode b_O_becomeQuotient 78 = .ok (.iload_n 2, 1) := by decide +kernel
theorem d_O_becomeQuotient_79 : decode b_O_becomeQuotient 79 = .ok (.putfield 15, 3) := by decide +kernel
theorem d_O_becomeQuotient_82 : decode b_O_becomeQuotient 82 = .ok (.return_, 1) := by decide +kernel
theorem d_O_becomeRemainder_0 : decode b_O_becomeRemainder 0 = .ok (.aload_n 1, 1) := by decide +kernel
theorem d_O_becomeRemainder_1 : decode b_O_becomeRemainder 1 = .ok (.getfield 15, 3) := by decide +kernel
theorem d_O_becomeRemainder_4 : decode b_O_becomeRemainder 4 = .ok (.ifCond .lt 14, 3) := by decide +kernel
theorem d_O_becomeRemainder_7 : decode b_O_becomeRemainder 7 = .ok (.aload_n 1, 1) := by decide +kernel
theorem d_O_becomeRemainder_8 : decode b_O_becomeRemainder 8 = .ok (.getfield 15, 3) := by decide +kernel
theorem d_O_becomeRemainder_11 : decode b_O_becomeRemainder 11 = .ok (.aload_n 0, 1) := by decide +kernel
theorem d_O_becomeRemainder_12 : decode b_O_becomeRemainder 12 = .ok (.getfield 15, 3) := by decide +kernel
theorem d_O_becomeRemainder_15 : decode b_O_becomeRemainder 15 = .ok (.if_icmp .le 4, 3) := by decide +kernel
theorem d_O_becomeRemainder_18 : decode b_O_becomeRemainder 18 = .ok (.return_, 1) := by decide +kernel
theorem d_O_becomeRemainder_19 : decode b_O_becomeRemainder 19 = .ok (.aload_n 0, 1) := by decide +kernel
theorem d_O_becomeRemainder_20 : decode b_O_becomeRemainder 20 = .ok (.aload_n 1, 1) := by decide +kernel
theorem d_O_becomeRemainder_21 : decode b_O_becomeRemainder 21 = .ok (.invokevirtual 42, 3) := by decide +kernel
theorem d_O_becomeRemainder_24 : decode b_O_becomeRemainder 24 = .ok (.aload_n 1, 1) := by decide +kernel
theorem d_O_becomeRemainder_25 : decode b_O_becomeRemainder 25 = .ok (.getfield 15, 3) := by decide +kernel
theorem d_O_becomeRemainder_28 : decode b_O_becomeRemainder 28 = .ok (.istore_n 2, 1) := by decide +kernel
theorem d_O_becomeRemainder_29 : decode b_O_becomeRemainder 29 = .ok (.iload_n 2, 1) := by decide +kernel
theorem d_O_becomeRemainder_30 : decode b_O_becomeRemainder 30 = .ok (.aload_n 0, 1) := by decide +kernel
theorem d_O_becomeRemainder_31 : decode b_O_becomeRemainder 31 = .ok (.getfield 15, 3) := by decide +kernel
theorem d_O_becomeRemainder_34 : decode b_O_becomeRemainder 34 = .ok (.if_icmp .gt 16, 3) := by decide +kernel
theorem d_O_becomeRemainder_37 : decode b_O_becomeRemainder 37 = .ok (.aload_n 0, 1) := by decide +kernel
theorem d_O_becomeRemainder_38 : decode b_O_becomeRemainder 38 = .ok (.getfield 9, 3) := by decide +kernel
theorem d_O_becomeRemainder_41 : decode b_O_becomeRemainder 41 = .ok (.iload_n 2, 1) := by decide +kernel
theorem d_O_becomeRemainder_42 : decode b_O_becomeRemainder 42 = .ok (.iconst 0, 1) := by decide +kernel
theorem d_O_becomeRemainder_43 : decode b_O_becomeRemainder 43 = .ok (.iastore, 1) := by decide +kernel
theorem d_O_becomeRemainder_44 : decode b_O_becomeRemainder 44 = .ok (.iinc 2 1, 3) := by decide +kernel
theorem d_O_becomeRemainder_47 : decode b_O_becomeRemainder 47 = .ok (.goto (-18), 3) := by decide +kernel
theorem d_O_becomeRemainder_50 : decode b_O_becomeRemainder 50 = .ok (.aload_n 0, 1) := by decide +kernel
theorem d_O_becomeRemainder_51 : decode b_O_becomeRemainder 51 = .ok (.aload_n 1, 1) := by decide +kernel
theorem d_O_becomeRemainder_52 : decode b_O_becomeRemainder 52 = .ok (.getfield 15, 3) := by decide +kernel
theorem d_O_becomeRemainder_55 : decode b_O_becomeRemainder 55 = .ok (.iconst 1, 1) := by decide +kernel
theorem d_O_becomeRemainder_56 : decode b_O_becomeRemainder 56 = .ok (.isub, 1) := by decide +kernel
theorem d_O_becomeRemainder_57 : decode b_O_becomeRemainder 57 = .ok (.invokevirtual 19, 3) := by decide +kernel
theorem d_O_becomeRemainder_60 : decode b_O_becomeRemainder 60 = .ok (.return_, 1) := by decide +kernel
theorem d_O_divide_0 : decode b_O_divide 0 = .ok (.aload_n 0, 1) := by decide +kernel
theorem d_O_divide_1 : decode b_O_divide 1 = .ok (.getfield 15, 3) := by decide +kernel
theorem d_O_divide_4 : decode b_O_divide 4 = .ok (.aload_n 1, 1) := by decide +kernel
theorem d_O_divide_5 : decode b_O_divide 5 = .ok (.getfield 15, 3) := by decide +kernel
theorem d_O_divide_8 : decode b_O_divide 8 = .ok (.isub, 1) := by decide +kernel
theorem d_O_divide_9 : decode b_O_divide 9 = .ok (.istore_n 2, 1) := by decide +kernel
theorem d_O_divide_10 : decode b_O_divide 10 = .ok (.iload_n 2, 1) := by decide +kernel
theorem d_O_divide_11 : decode b_O_divide 11 = .ok (.ifCond .lt 75, 3) := by decide +kernel
theorem d_O_divide_14 : decode b_O_divide 14 = .ok (.sipush 32003, 3) := by decide +kernel
theorem d_O_divide_17 : decode b_O_divide 17 = .ok (.aload_n 0, 1) := by decide +kernel
theorem d_O_divide_18 : decode b_O_divide 18 = .ok (.getfield 9, 3) := by decide +kernel
theorem d_O_divide_21 : decode b_O_divide 21 = .ok (.iload_n 2, 1) := by decide +kernel
theorem d_O_divide_22 : decode b_O_divide 22 = .ok (.aload_n 1, 1) := by decide +kernel
theorem d_O_divide_23 : decode b_O_divide 23 = .ok (.getfield 15, 3) := by decide +kernel
theorem d_O_divide_26 : decode b_O_divide 26 = .ok (.iadd, 1) := by decide +kernel
theorem d_O_divide_27 : decode b_O_divide 27 = .ok (.iaload, 1) := by decide +kernel
theorem d_O_divide_28 : decode b_O_divide 28 = .ok (.isub, 1) := by decide +kernel
theorem d_O_divide_29 : decode b_O_divide 29 = .ok (.istore_n 3, 1) := by decide +kernel
theorem d_O_divide_30 : decode b_O_divide 30 = .ok (.iconst 0, 1) := by decide +kernel
theorem d_O_divide_31 : decode b_O_divide 31 = .ok (.istore 4, 2) := by decide +kernel
theorem d_O_divide_33 : decode b_O_divide 33 = .ok (.iload 4, 2) := by decide +kernel
theorem d_O_divide_35 : decode b_O_divide 35 = .ok (.aload_n 1, 1) := by decide +kernel
theorem d_O_divide_36 : decode b_O_divide 36 = .ok (.getfield 15, 3) := by decide +kernel
theorem d_O_divide_39 : decode b_O_divide 39 = .ok (.if_icmp .ge 41, 3) := by decide +kernel
theorem d_O_divide_42 : decode b_O_divide 42 = .ok (.aload_n 0, 1) := by decide +kernel
theorem d_O_divide_43 : decode b_O_divide 43 = .ok (.getfield 9, 3) := by decide +kernel
theorem d_O_divide_46 : decode b_O_divide 46 = .ok (.iload_n 2, 1) := by decide +kernel
theorem d_O_divide_47 : decode b_O_divide 47 = .ok (.iload 4, 2) := by decide +kernel
theorem d_O_divide_49 : decode b_O_divide 49 = .ok (.iadd, 1) := by decide +kernel
theorem d_O_divide_50 : decode b_O_divide 50 = .ok (.aload_n 0, 1) := by decide +kernel
theorem d_O_divide_51 : decode b_O_divide 51 = .ok (.getfield 9, 3) := by decide +kernel
theorem d_O_divide_54 : decode b_O_divide 54 = .ok (.iload_n 2, 1) := by decide +kernel
theorem d_O_divide_55 : decode b_O_divide 55 = .ok (.iload 4, 2) := by decide +kernel
theorem d_O_divide_57 : decode b_O_divide 57 = .ok (.iadd, 1) := by decide +kernel
theorem d_O_divide_58 : decode b_O_divide 58 = .ok (.iaload, 1) := by decide +kernel
theorem d_O_divide_59 : decode b_O_divide 59 = .ok (.iload_n 3, 1) := by decide +kernel
theorem d_O_divide_60 : decode b_O_divide 60 = .ok (.aload_n 1, 1) := by decide +kernel
theorem d_O_divide_61 : decode b_O_divide 61 = .ok (.getfield 9, 3) := by decide +kernel
theorem d_O_divide_64 : decode b_O_divide 64 = .ok (.iload 4, 2) := by decide +kernel
theorem d_O_divide_66 : decode b_O_divide 66 = .ok (.iaload, 1) := by decide +kernel
theorem d_O_divide_67 : decode b_O_divide 67 = .ok (.imul, 1) := by decide +kernel
theorem d_O_divide_68 : decode b_O_divide 68 = .ok (.iadd, 1) := by decide +kernel
theorem d_O_divide_69 : decode b_O_divide 69 = .ok (.sipush 32003, 3) := by decide +kernel
theorem d_O_divide_72 : decode b_O_divide 72 = .ok (.irem, 1) := by decide +kernel
theorem d_O_divide_73 : decode b_O_divide 73 = .ok (.iastore, 1) := by decide +kernel
theorem d_O_divide_74 : decode b_O_divide 74 = .ok (.iinc 4 1, 3) := by decide +kernel
theorem d_O_divide_77 : decode b_O_divide 77 = .ok (.goto (-44), 3) := by decide +kernel
theorem d_O_divide_80 : decode b_O_divide 80 = .ok (.iinc 2 (-1), 3) := by decide +kernel
theorem d_O_divide_83 : decode b_O_divide 83 = .ok (.goto (-73), 3) := by decide +kernel
theorem d_O_divide_86 : decode b_O_divide 86 = .ok (.return_, 1) := by decide +kernel
theorem d_O_makeMonic_0 : decode b_O_makeMonic 0 = .ok (.aload_n 0, 1) := by decide +kernel
theorem d_O_makeMonic_1 : decode b_O_makeMonic 1 = .ok (.getfield 15, 3) := by decide +kernel
theorem d_O_makeMonic_4 : decode b_O_makeMonic 4 = .ok (.ifCond .ge 4, 3) := by decide +kernel
theorem d_O_makeMonic_8 : decode b_O_makeMonic 8 = .ok (.aload_n 0, 1) := by decide +kernel
theorem d_O_makeMonic_9 : decode b_O_makeMonic 9 = .ok (.getfield 9, 3) := by decide +kernel
theorem d_O_makeMonic_12 : decode b_O_makeMonic 12 = .ok (.aload_n 0, 1) := by decide +kernel
theorem d_O_makeMonic_13 : decode b_O_makeMonic 13 = .ok (.getfield 15, 3) := by decide +kernel
theorem d_O_makeMonic_16 : decode b_O_makeMonic 16 = .ok (.iaload, 1) := by decide +kernel
theorem d_O_makeMonic_17 : decode b_O_makeMonic 17 = .ok (.invokestatic 38, 3) := by decide +kernel
theorem d_O_makeMonic_20 : decode b_O_makeMonic 20 = .ok (.istore_n 1, 1) := by decide +kernel
theorem d_O_makeMonic_21 : decode b_O_makeMonic 21 = .ok (.iconst 0, 1) := by decide +kernel
theorem d_O_makeMonic_22 : decode b_O_makeMonic 22 = .ok (.istore_n 2, 1) := by decide +kernel
theorem d_O_makeMonic_23 : decode b_O_makeMonic 23 = .ok (.iload_n 2, 1) := by decide +kernel
theorem d_O_makeMonic_24 : decode b_O_makeMonic 24 = .ok (.aload_n 0, 1) := by decide +kernel
theorem d_O_makeMonic_25 : decode b_O_makeMonic 25 = .ok (.getfield 15, 3) := by decide +kernel
theorem d_O_makeMonic_28 : decode b_O_makeMonic 28 = .ok (.if_icmp .gt 27, 3) := by decide +kernel
theorem d_O_makeMonic_31 : decode b_O_makeMonic 31 = .ok (.aload_n 0, 1) := by decide +kernel
theorem d_O_makeMonic_32 : decode b_O_makeMonic 32 = .ok (.getfield 9, 3) := by decide +kernel
theorem d_O_makeMonic_35 : decode b_O_makeMonic 35 = .ok (.iload_n 2, 1) := by decide +kernel
theorem d_O_makeMonic_36 : decode b_O_makeMonic 36 = .ok (.aload_n 0, 1) := by decide +kernel
theorem d_O_makeMonic_37 : decode b_O_makeMonic 37 = .ok (.getfield 9, 3) := by decide +kernel
theorem d_O_makeMonic_40 : decode b_O_makeMonic 40 = .ok (.iload_n 2, 1) := by decide +kernel
theorem d_O_makeMonic_41 : decode b_O_makeMonic 41 = .ok (.iaload, 1) := by decide +kernel
theorem d_O_makeMonic_42 : decode b_O_makeMonic 42 = .ok (.iload_n 1, 1) := by decide +kernel
theorem d_O_makeMonic_43 : decode b_O_makeMonic 43 = .ok (.imul, 1) := by decide +kernel
theorem d_O_makeMonic_44 : decode b_O_makeMonic 44 = .ok (.sipush 32003, 3) := by decide +kernel
theorem d_O_makeMonic_47 : decode b_O_makeMonic 47 = .ok (.irem, 1) := by decide +kernel
theorem d_O_makeMonic_48 : decode b_O_makeMonic 48 = .ok (.iastore, 1) := by decide +kernel
theorem d_O_makeMonic_49 : decode b_O_makeMonic 49 = .ok (.iinc 2 1, 3) := by decide +kernel
theorem d_O_makeMonic_52 : decode b_O_makeMonic 52 = .ok (.goto (-29), 3) := by decide +kernel
theorem d_O_makeMonic_55 : decode b_O_makeMonic 55 = .ok (.return_, 1) := by decide +kernel
theorem d_O_multiplyByShifted_0 : decode b_O_multiplyByShifted 0 = .ok (.aload_n 0, 1) := by decide +kernel
theorem d_O_multiplyByShifted_1 : decode b_O_multiplyByShifted 1 = .ok (.getfield 15, 3) := by decide +kernel
theorem d_O_multiplyByShifted_4 : decode b_O_multiplyByShifted 4 = .ok (.ifCond .lt 17, 3) := by decide +kernel
theorem d_O_multiplyByShifted_7 : decode b_O_multiplyByShifted 7 = .ok (.aload_n 0, 1) := by decide +kernel
theorem d_O_multiplyByShifted_8 : decode b_O_multiplyByShifted 8 = .ok (.getfield 15, 3) := by decide +kernel
theorem d_O_multiplyByShifted_11 : decode b_O_multiplyByShifted 11 = .ok (.iconst 1, 1) := by decide +kernel
theorem d_O_multiplyByShifted_12 : decode b_O_multiplyByShifted 12 = .ok (.iadd, 1) := by decide +kernel
theorem d_O_multiplyByShifted_13 : decode b_O_multiplyByShifted 13 = .ok (.aload_n 0, 1) := by decide +kernel
theorem d_O_multiplyByShifted_14 : decode b_O_multiplyByShifted 14 = .ok (.getfield 9, 3) := by decide +kernel
theorem d_O_multiplyByShifted_17 : decode b_O_multiplyByShifted 17 = .ok (.arraylength, 1) := by decide +kernel
theorem d_O_multiplyByShifted_18 : decode b_O_multiplyByShifted 18 = .ok (.if_icmp .lt 4, 3) := by decide +kernel
theorem d_O_multiplyByShifted_22 : decode b_O_multiplyByShifted 22 = .ok (.aload_n 0, 1) := by decide +kernel
theorem d_O_multiplyByShifted_23 : decode b_O_multiplyByShifted 23 = .ok (.dup, 1) := by decide +kernel
theorem d_O_multiplyByShifted_24 : decode b_O_multiplyByShifted 24 = .ok (.getfield 15, 3) := by decide +kernel
theorem d_O_multiplyByShifted_27 : decode b_O_multiplyByShifted 27 = .ok (.iconst 1, 1) := by decide +kernel
theorem d_O_multiplyByShifted_28 : decode b_O_multiplyByShifted 28 = .ok (.iadd, 1) := by decide +kernel
theorem d_O_multiplyByShifted_29 : decode b_O_multiplyByShifted 29 = .ok (.putfield 15, 3) := by decide +kernel
theorem d_O_multiplyByShifted_32 : decode b_O_multiplyByShifted 32 = .ok (.aload_n 0, 1) := by decide +kernel
theorem d_O_multiplyByShifted_33 : decode b_O_multiplyByShifted 33 = .ok (.getfield 15, 3) := by decide +kernel
theorem d_O_multiplyByShifted_36 : decode b_O_multiplyByShifted 36 = .ok (.istore_n 2, 1) := by decide +kernel
theorem d_O_multiplyByShifted_37 : decode b_O_multiplyByShifted 37 = .ok (.iload_n 2, 1) := by decide +kernel
theorem d_O_multiplyByShifted_38 : decode b_O_multiplyByShifted 38 = .ok (.ifCond .le 36, 3) := by decide +kernel
theorem d_O_multiplyByShifted_41 : decode b_O_multiplyByShifted 41 = .ok (.aload_n 0, 1) := by decide +kernel
theorem d_O_multiplyByShifted_42 : decode b_O_multiplyByShifted 42 = .ok (.getfield 9, 3) := by decide +kernel
theorem d_O_multiplyByShifted_45 : decode b_O_multiplyByShifted 45 = .ok (.iload_n 2, 1) := by decide +kernel
theorem d_O_multiplyByShifted_46 : decode b_O_multiplyByShifted 46 = .ok (.aload_n 0, 1) := by decide +kernel
theorem d_O_multiplyByShifted_47 : decode b_O_multiplyByShifted 47 = .ok (.getfield 9, 3) := by decide +kernel
theorem d_O_multiplyByShifted_50 : decode b_O_multiplyByShifted 50 = .ok (.iload_n 2, 1) := by decide +kernel
theorem d_O_multiplyByShifted_51 : decode b_O_multiplyByShifted 51 = .ok (.iconst 1, 1) := by decide +kernel
theorem d_O_multiplyByShifted_52 : decode b_O_multiplyByShifted 52 = .ok (.isub, 1) := by decide +kernel
theorem d_O_multiplyByShifted_53 : decode b_O_multiplyByShifted 53 = .ok (.iaload, 1) := by decide +kernel
theorem d_O_multiplyByShifted_54 : decode b_O_multiplyByShifted 54 = .ok (.iload_n 1, 1) := by decide +kernel
theorem d_O_multiplyByShifted_55 : decode b_O_multiplyByShifted 55 = .ok (.aload_n 0, 1) := by decide +kernel
theorem d_O_multiplyByShifted_56 : decode b_O_multiplyByShifted 56 = .ok (.getfield 9, 3) := by decide +kernel
theorem d_O_multiplyByShifted_59 : decode b_O_multiplyByShifted 59 = .ok (.iload_n 2, 1) := by decide +kernel
theorem d_O_multiplyByShifted_60 : decode b_O_multiplyByShifted 60 = .ok (.iaload, 1) := by decide +kernel
theorem d_O_multiplyByShifted_61 : decode b_O_multiplyByShifted 61 = .ok (.imul, 1) := by decide +kernel
theorem d_O_multiplyByShifted_62 : decode b_O_multiplyByShifted 62 = .ok (.iadd, 1) := by decide +kernel
theorem d_O_multiplyByShifted_63 : decode b_O_multiplyByShifted 63 = .ok (.sipush 32003, 3) := by decide +kernel
theorem d_O_multiplyByShifted_66 : decode b_O_multiplyByShifted 66 = .ok (.irem, 1) := by decide +kernel
theorem d_O_multiplyByShifted_67 : decode b_O_multiplyByShifted 67 = .ok (.iastore, 1) := by decide +kernel
theorem d_O_multiplyByShifted_68 : decode b_O_multiplyByShifted 68 = .ok (.iinc 2 (-1), 3) := by decide +kernel
theorem d_O_multiplyByShifted_71 : decode b_O_multiplyByShifted 71 = .ok (.goto (-34), 3) := by decide +kernel
theorem d_O_multiplyByShifted_74 : decode b_O_multiplyByShifted 74 = .ok (.aload_n 0, 1) := by decide +kernel
theorem d_O_multiplyByShifted_75 : decode b_O_multiplyByShifted 75 = .ok (.getfield 9, 3) := by decide +kernel
theorem d_O_multiplyByShifted_78 : decode b_O_multiplyByShifted 78 = .ok (.iconst 0, 1) := by decide +kernel
theorem d_O_multiplyByShifted_79 : decode b_O_multiplyByShifted 79 = .ok (.iload_n 1, 1) := by decide +kernel
theorem d_O_multiplyByShifted_80 : decode b_O_multiplyByShifted 80 = .ok (.aload_n 0, 1) := by decide +kernel
theorem d_O_multiplyByShifted_81 : decode b_O_multiplyByShifted 81 = .ok (.getfield 9, 3) := by decide +kernel
theorem d_O_multiplyByShifted_84 : decode b_O_multiplyByShifted 84 = .ok (.iconst 0, 1) := by decide +kernel
theorem d_O_multiplyByShifted_85 : decode b_O_multiplyByShifted 85 = .ok (.iaload, 1) := by decide +kernel
theorem d_O_multiplyByShifted_86 : decode b_O_multiplyByShifted 86 = .ok (.imul, 1) := by decide +kernel
theorem d_O_multiplyByShifted_87 : decode b_O_multiplyByShifted 87 = .ok (.sipush 32003, 3) := by decide +kernel
theorem d_O_multiplyByShifted_90 : decode b_O_multiplyByShifted 90 = .ok (.irem, 1) := by decide +kernel
theorem d_O_multiplyByShifted_91 : decode b_O_multiplyByShifted 91 = .ok (.iastore, 1) := by decide +kernel
theorem d_O_multiplyByShifted_92 : decode b_O_multiplyByShifted 92 = .ok (.return_, 1) := by decide +kernel
theorem d_O_settle_0 : decode b_O_settle 0 = .ok (.aload_n 0, 1) := by decide +kernel
theorem d_O_settle_1 : decode b_O_settle 1 = .ok (.iload_n 1, 1) := by decide +kernel
theorem d_O_settle_2 : decode b_O_settle 2 = .ok (.aload_n 0, 1) := by decide +kernel
theorem d_O_settle_3 : decode b_O_settle 3 = .ok (.getfield 9, 3) := by decide +kernel
theorem d_O_settle_6 : decode b_O_settle 6 = .ok (.arraylength, 1) := by decide +kernel
theorem d_O_settle_7 : decode b_O_settle 7 = .ok (.iconst 1, 1) := by decide +kernel
theorem d_O_settle_8 : decode b_O_settle 8 = .ok (.isub, 1) := by decide +kernel
theorem d_O_settle_9 : decode b_O_settle 9 = .ok (.invokestatic 29, 3) := by decide +kernel
theorem d_O_settle_12 : decode b_O_settle 12 = .ok (.putfield 15, 3) := by decide +kernel
theorem d_O_settle_15 : decode b_O_settle 15 = .ok (.aload_n 0, 1) := by decide +kernel
theorem d_O_settle_16 : decode b_O_settle 16 = .ok (.getfield 15, 3) := by decide +kernel
theorem d_O_settle_19 : decode b_O_settle 19 = .ok (.ifCond .lt 28, 3) := by decide +kernel
theorem d_O_settle_22 : decode b_O_settle 22 = .ok (.aload_n 0, 1) := by decide +kernel
theorem d_O_settle_23 : decode b_O_settle 23 = .ok (.getfield 9, 3) := by decide +kernel
theorem d_O_settle_26 : decode b_O_settle 26 = .ok (.aload_n 0, 1) := by decide +kernel
theorem d_O_settle_27 : decode b_O_settle 27 = .ok (.getfield 15, 3) := by decide +kernel
theorem d_O_settle_30 : decode b_O_settle 30 = .ok (.iaload, 1) := by decide +kernel
theorem d_O_settle_31 : decode b_O_settle 31 = .ok (.ifCond .ne 16, 3) := by decide +kernel
theorem d_O_settle_34 : decode b_O_settle 34 = .ok (.aload_n 0, 1) := by decide +kernel
theorem d_O_settle_35 : decode b_O_settle 35 = .ok (.dup, 1) := by decide +kernel
theorem d_O_settle_36 : decode b_O_settle 36 = .ok (.getfield 15, 3) := by decide +kernel
theorem d_O_settle_39 : decode b_O_settle 39 = .ok (.iconst 1, 1) := by decide +kernel
theorem d_O_settle_40 : decode b_O_settle 40 = .ok (.isub, 1) := by decide +kernel
theorem d_O_settle_41 : decode b_O_settle 41 = .ok (.putfield 15, 3) := by decide +kernel
theorem d_O_settle_44 : decode b_O_settle 44 = .ok (.goto (-29), 3) := by decide +kernel
theorem d_O_settle_47 : decode b_O_settle 47 = .ok (.return_, 1) := by decide +kernel
set_option maxHeartbeats 4000000 in
set_option maxRecDepth 100000 in
theorem lp_O_settle {p : Program} {l : Launch} {e : Env} {R : Room} {s : State} {m : MethodId} {args : Array Value} {below : List Frame} {meth : Method} {c : Code} {Q : State → Prop} {D : mp_G} {g : Nat → ClassId} {A : Nat → Prop} {cells slots : Nat} (hx : p.tables.exec = Jvm.exec) (hb : c.code = b_O_settle) (hml : c.maxLocals = 2) (hg : ∀ w ∈ gw, w.before args s = true) (hown : s.vm.findClass R_O = some m.cls) (hK : mp_K D classes (tys g) s) (hRf : 0 ≤ R.frames) (hRl : 0 ≤ R.locals) (hRc : cells ≤ R.cells) (hRs : slots ≤ R.slots) {B : mp_M} {oo oa TO : Nat} {cf : Nat → fF} {mm : Nat} (hm : mm ≤ 33) : ∀ (k : Nat) (S : mp_M) (H : Heap) (locs : List Loc) (ls : Array Slot), k ≤ mm → (∀ q, k ≤ q → q < mm → cf q = 0) → S oo = some (TO, .inr (1, [.ref oa, .int (nI k + -1)])) → S oa = some ((TO + 1), .inl ((g 0), 33, .inl (fun j => nI (cf j).val))) → (∀ b t e9, B b = some (t, e9) → (t ≠ TO) → S b = some (t, e9)) → mp_I D classes A s.heap S H locs → lv_has ls 2 [(0, .ref oo)] → (∀ (S : mp_M) (H : Heap) (locs : List Loc) (ls : Array Slot), (∀ q, 0 ≤ q → q < mm → cf q = 0) → S oo = some (TO, .inr (1, [.ref oa, .int (nI 0 + -1)])) → S oa = some ((TO + 1), .inl ((g 0), 33, .inl (fun j => nI (cf j).val))) → (∀ b t e9, B b = some (t, e9) → (t ≠ TO) → S b = some (t, e9)) → mp_I D classes A s.heap S H locs → lv_has ls 2 [(0, .ref oo)] → W p l e R s m args below meth c H locs cells slots Q (F0 m 47 ls [])) → (∀ (n9 : Nat) (S : mp_M) (H : Heap) (locs : List Loc) (ls : Array Slot), (0 < n9 ∧ n9 ≤ mm ∧ (∀ q, n9 ≤ q → q < mm → cf q = 0) ∧ cf (n9 - 1) ≠ 0) → S oo = some (TO, .inr (1, [.ref oa, .int (nI n9 + -1)])) → S oa = some ((TO + 1), .inl ((g 0), 33, .inl (fun j => nI (cf j).val))) → (∀ b t e9, B b = some (t, e9) → (t ≠ TO) → S b = some (t, e9)) → mp_I D classes A s.heap S H locs → lv_has ls 2 [(0, .ref oo)] → W p l e R s m args below meth c H locs cells slots Q (F0 m 47 ls [])) → W p l e R s m args below meth c H locs cells slots Q (F0 m 15 ls []) := by
  intro k
  induction k with
  | zero =>
    intro S H locs ls hi hz h_oo h_oa hfr hI hl kx ky
    refine lv_aload_n hx hb d_O_settle_15 rfl (lv_at hl 0 rfl) ?_
    refine mp_get (C := R_O) (T := F_O) (N := 2) (v := .int (nI 0 + -1)) hx hb hg i_O hown hK.va hI h_oo rfl 1 (by decide) (hg _ q_138) (fun _ h9 => h9) rfl d_O_settle_16 ?_
    refine lv_if_lt (tgt := 47) hx hb d_O_settle_19 (by decide) (fun _ => ?_) (fun h9 => absurd (by decide) h9)
    exact kx S H locs ls hz h_oo h_oa hfr hI (lv_sub hl [0] rfl)
  | succ k ih =>
    intro S H locs ls hi hz h_oo h_oa hfr hI hl kx ky
    rw [nI_dec] at h_oo
    refine lv_aload_n hx hb d_O_settle_15 rfl (lv_at hl 0 rfl) ?_
    refine mp_get (C := R_O) (T := F_O) (N := 2) (v := .int (nI k)) hx hb hg i_O hown hK.va hI h_oo rfl 1 (by decide) (hg _ q_138) (fun _ h9 => h9) rfl d_O_settle_16 ?_
    refine lv_if_lt (tgt := 47) hx hb d_O_settle_19 (by decide) (fun h9 => absurd h9 (nI_pos (by omega))) (fun _ => ?_)
    refine lv_aload_n hx hb d_O_settle_22 rfl (lv_at hl 0 rfl) ?_
    refine mp_get (C := R_O) (T := F_O) (N := 2) (v := .ref oa) hx hb hg i_O hown hK.va hI h_oo rfl 0 (by decide) (hg _ q_136) (fun _ h9 => h9) rfl d_O_settle_23 ?_
    refine lv_aload_n hx hb d_O_settle_26 rfl (lv_at hl 0 rfl) ?_
    refine mp_get (C := R_O) (T := F_O) (N := 2) (v := .int (nI k)) hx hb hg i_O hown hK.va hI h_oo rfl 1 (by decide) (hg _ q_138) (fun _ h9 => h9) rfl d_O_settle_27 ?_
    refine mp_iald hx hb hK.va hI 0 h_oa rfl (vp_in_nI (show k < 33 by omega) (by omega)) d_O_settle_30 ?_
    refine lv_topi (fun v1 ev1 => ?_)
    obtain rfl : v1 = nI (cf k).val := ev1.trans (by rw [nI_clamp (by omega)])
    refine lv_if_ne (tgt := 47) hx hb d_O_settle_31 (by decide) (fun c1 => ?_) (fun c1 => ?_)
    · rw [zI_eq (by omega)] at c1
      have h_oo : S oo = some (TO, .inr (1, [.ref oa, .int (nI (k + 1) + -1)])) := by rw [nI_dec]; exact h_oo
      exact ky (k + 1) S H locs ls ⟨by omega, by omega, hz, fun e => c1 (by rw [show k = k + 1 - 1 from rfl, e]; rfl)⟩ h_oo h_oa hfr hI (lv_sub hl [0] rfl)
    · rw [zI_eq (by omega)] at c1
      refine lv_aload_n hx hb d_O_settle_34 rfl (lv_at hl 0 rfl) ?_
      refine lv_dup hx hb d_O_settle_35 rfl ?_
      refine mp_get (C := R_O) (T := F_O) (N := 2) (v := .int (nI k)) hx hb hg i_O hown hK.va hI h_oo rfl 1 (by decide) (hg _ q_138) (fun _ h9 => h9) rfl d_O_settle_36 ?_
      refine lv_iconst (v := nI 1) hx hb d_O_settle_39 (by decide) ?_
      refine lv_isub hx hb d_O_settle_40 ?_
      refine lv_topi (fun v2 ev2 => ?_)
      obtain rfl : v2 = (nI k + -1) := ev2.trans (nI_sub1 k)
      refine mp_put (C := R_O) (T := F_O) (N := 2) (v := .int (nI k + -1)) (ty := .int) hx hb hg i_O t_O t_O_ok n_O hown hK.va hI h_oo rfl 1 (by decide) (hg _ q_138) (fun _ h9 => h9) rfl (by decide +kernel) (rfl) rfl (Nat.le_of_ble_eq_true rfl) d_O_settle_41 (fun S3 H4 locs e_5 hI => ?_)
      have h_oo_o := h_oo
      have e_5 : S3 = va_up S oo (some (TO, .inr (1, [.ref oa, .int (nI k + -1)]))) := e_5
      have h_oa : S3 oa = some ((TO + 1), .inl ((g 0), 33, .inl (fun j => nI (cf j).val))) := by rw [e_5]; exact mp_keep h_oa h_oo (by omega)
      have h_oo : S3 oo = some (TO, .inr (1, [.ref oa, .int (nI k + -1)])) := by rw [e_5]; exact mp_us _ _ _
      have hfr : ∀ b t e9, B b = some (t, e9) → (t ≠ TO) → S3 b = some (t, e9) := fun b t e9 h9 k0 => by rw [e_5]; exact mp_keep (hfr b t e9 h9 k0) h_oo_o (by omega)
      refine lv_goto (tgt := 15) hx hb d_O_settle_44 (by decide) ?_
      exact ih S3 H4 locs ls (by omega) (fun q h1 h2 => by by_cases e : q = k; exact (by rw [e]; exact Fin.ext c1); exact hz q (by omega) h2) h_oo h_oa hfr hI (lv_sub hl [0] rfl) kx ky
set_option maxHeartbeats 4000000 in
set_option maxRecDepth 100000 in
/-- the degree is found -/
theorem c_O_settle (l : Launch) (D : mp_G) (g : Nat → ClassId) (S : mp_M) (sz : Nat) (oo oa TO : Nat) (cf : Nat → fF) (mm : Nat) (d0 : Int32) (h_oo : S oo = some (TO, .inr (1, [.ref oa, .int d0]))) (h_oa : S oa = some ((TO + 1), .inl ((g 0), 33, .inl (fun j => nI (cf j).val)))) (hm : mm ≤ 33) : Met l y_O_settle w_O_settle ({ frames := 1, cells := 0, slots := 0, locals := 21 }) (va_Pc [.ref oo, .int (nI mm + -1)] (mp_B0 D classes (tys g) S sz)) (va_Qv (fun (S1 : mp_M) => ∃ n9, n9 ≤ mm ∧ (∀ q, n9 ≤ q → q < mm → cf q = 0) ∧ (0 < n9 → cf (n9 - 1) ≠ 0) ∧ S1 oo = some (TO, .inr (1, [.ref oa, .int (nI n9 + -1)])) ∧ (∀ b t e9, S b = some (t, e9) → (t ≠ TO) → S1 b = some (t, e9))) (mp_B1 D classes S sz) (mp_A S sz)) 0 0 (mp_A S sz) := by
  refine Met.ofW (cc := b_O_settle) (maxL := 2) (ret := none) (by decide) rfl ?_
  intro p e s m args below meth c s₁ B hml hv
  obtain ⟨rfl, hsz, hH, hK⟩ := hv
  have hx := B.exec
  have hb := B.bytes
  have hr := B.returns
  have hts := atoms_spec (ws := w_O_settle) B.pre
  have hg : ∀ w ∈ gw, w.before _ s = true := fun w h => hts w (List.mem_cons_of_mem _ h)
  have hown : s.vm.findClass R_O = some m.cls := findClass_of_methodNamed B.named
  have hlocks := B.notSynchronized
  subst hsz
  have hI := mp_I.start hH
  have hl := lv_entry ([.ref oo, .int (nI mm + -1)]) (n := 2) (Nat.le_of_ble_eq_true rfl)
  rw [lg_entry_eq]
  generalize (lg_sl ([.ref oo, .int (nI mm + -1)]) ++ List.replicate (2 - (lg_sl ([.ref oo, .int (nI mm + -1)])).length) Slot.unset).toArray = ls at hl ⊢
  have hl : lv_has ls 2 [(0, .ref oo), (1, .int (nI mm + -1))] := hl
  have hfr : ∀ b t e9, S b = some (t, e9) → (t ≠ TO) → S b = some (t, e9) := fun _ _ _ h9 _ => h9
  refine lv_aload_n hx hb d_O_settle_0 rfl (lv_at hl 0 rfl) ?_
  refine lv_iload_n hx hb d_O_settle_1 rfl (lv_at hl 1 rfl) ?_
  refine lv_aload_n hx hb d_O_settle_2 rfl (lv_at hl 0 rfl) ?_
  refine mp_get (C := R_O) (T := F_O) (N := 2) (v := .ref oa) hx hb hg i_O hown hK.va hI h_oo rfl 0 (by decide) (hg _ q_136) (fun _ h9 => h9) rfl d_O_settle_3 ?_
  refine mp_alen (v := nI 33) hx hb hK.va hI 0 h_oa rfl rfl d_O_settle_6 ?_
  refine lv_iconst (v := nI 1) hx hb d_O_settle_7 (by decide) ?_
  refine lv_isub hx hb d_O_settle_8 ?_
  refine lv_topi (fun v1 ev1 => ?_)
  obtain rfl : v1 = nI (33 - 1) := ev1.trans (pk_sub (by omega))
  refine va_mmin hx hb (hml.trans hl.1.symm) hown (hg _ q_423) (hg _ q_76) (hg _ q_4) (hg _ q_77) (Nat.le_of_ble_eq_true rfl) (Nat.le_of_ble_eq_true rfl) (Nat.le_of_ble_eq_true rfl) (Nat.le_of_ble_eq_true rfl) d_O_settle_9 ?_
  refine lv_topi (fun v2 ev2 => ?_)
  obtain rfl : v2 = (nI mm + -1) := ev2.trans (dmin hm)
  refine mp_put (C := R_O) (T := F_O) (N := 2) (v := .int (nI mm + -1)) (ty := .int) hx hb hg i_O t_O t_O_ok n_O hown hK.va hI h_oo rfl 1 (by decide) (hg _ q_138) (fun _ h9 => h9) rfl (by decide +kernel) (rfl) rfl (Nat.le_of_ble_eq_true rfl) d_O_settle_12 (fun S3 H4 locs e_5 hI => ?_)
  have h_oo_o := h_oo
  have e_5 : S3 = va_up S oo (some (TO, .inr (1, [.ref oa, .int (nI mm + -1)]))) := e_5
  have h_oa : S3 oa = some ((TO + 1), .inl ((g 0), 33, .inl (fun j => nI (cf j).val))) := by rw [e_5]; exact mp_keep h_oa h_oo (by omega)
  have h_oo : S3 oo = some (TO, .inr (1, [.ref oa, .int (nI mm + -1)])) := by rw [e_5]; exact mp_us _ _ _
  have hfr : ∀ b t e9, S b = some (t, e9) → (t ≠ TO) → S3 b = some (t, e9) := fun b t e9 h9 k0 => by rw [e_5]; exact mp_keep (hfr b t e9 h9 k0) h_oo_o (by omega)
  refine lp_O_settle (B := S) (oo := oo) (oa := oa) (TO := TO) (cf := cf) (mm := mm) hx hb hml hg hown hK (Nat.le_of_ble_eq_true rfl) (Nat.le_of_ble_eq_true rfl) (Nat.le_of_ble_eq_true rfl) (Nat.le_of_ble_eq_true rfl) hm mm S3 H4 _ ls (Nat.le_refl _) (fun q h1 h2 => absurd h1 (by omega)) h_oo h_oa hfr hI (lv_sub hl [0] rfl) (fun S6 H7 locs ls hz j_oo j_oa hfr hI hl => ?_) (fun n9 S9 H9 locs ls hk j_oo j_oa hfr hI hl => ?_)
  · refine mp_vret hx hb hr hlocks hI (Nat.le_of_ble_eq_true rfl) (Nat.le_of_ble_eq_true rfl) ?_ d_O_settle_47
    exact ⟨0, Nat.zero_le _, hz, fun q => absurd q (Nat.lt_irrefl 0), j_oo, hfr⟩
  · refine mp_vret hx hb hr hlocks hI (Nat.le_of_ble_eq_true rfl) (Nat.le_of_ble_eq_true rfl) ?_ d_O_settle_47
    exact ⟨n9, hk.2.1, hk.2.2.1, fun _ => hk.2.2.2, j_oo, hfr⟩
set_option maxHeartbeats 4000000 in
set_option maxRecDepth 100000 in
theorem lp_O_monic {p : Program} {l : Launch} {e : Env} {R : Room} {s : State} {m : MethodId} {args : Array Value} {below : List Frame} {meth : Method} {c : Code} {Q : State → Prop} {D : mp_G} {g : Nat → ClassId} {A : Nat → Prop} {cells slots : Nat} (hx : p.tables.exec = Jvm.exec) (hb : c.code = b_O_makeMonic) (hml : c.maxLocals = 3) (hg : ∀ w ∈ gw, w.before args s = true) (hown : s.vm.findClass R_O = some m.cls) (hK : mp_K D classes (tys g) s) (hRf : 0 ≤ R.frames) (hRl : 0 ≤ R.locals) (hRc : cells ≤ R.cells) (hRs : slots ≤ R.slots) {B : mp_M} {oo oa TO : Nat} {cf : Nat → fF} {d : Nat} (hd : d < 33) : ∀ (k : Nat) (i : Nat) (S : mp_M) (H : Heap) (locs : List Loc) (ls : Array Slot), i + k = d + 1 → S oo = some (TO, .inr (1, [.ref oa, .int (nI d)])) → S oa = some ((TO + 1), .inl ((g 0), 33, .inl (fun j => nI ((mgF i (scl cf (iv (cf d))) cf) j).val))) → (∀ b t e9, B b = some (t, e9) → (t ≠ TO + 1) → S b = some (t, e9)) → mp_I D classes A s.heap S H locs → lv_has ls 3 [(2, .int (nI i)), (1, .int (nI (iv (cf d)).val)), (0, .ref oo)] → (∀ (S : mp_M) (H : Heap) (locs : List Loc) (ls : Array Slot), S oo = some (TO, .inr (1, [.ref oa, .int (nI d)])) → S oa = some ((TO + 1), .inl ((g 0), 33, .inl (fun j => nI ((mgF (d + 1) (scl cf (iv (cf d))) cf) j).val))) → (∀ b t e9, B b = some (t, e9) → (t ≠ TO + 1) → S b = some (t, e9)) → mp_I D classes A s.heap S H locs → lv_has ls 3 [(2, .int (nI (d + 1))), (1, .int (nI (iv (cf d)).val)), (0, .ref oo)] → W p l e R s m args below meth c H locs cells slots Q (F0 m 55 ls [])) → W p l e R s m args below meth c H locs cells slots Q (F0 m 23 ls []) := by
  intro k
  induction k with
  | zero =>
    intro i S H locs ls hi h_oo h_oa hfr hI hl kx
    refine lv_iload_n hx hb d_O_makeMonic_23 rfl (lv_at hl 0 rfl) ?_
    refine lv_aload_n hx hb d_O_makeMonic_24 rfl (lv_at hl 2 rfl) ?_
    refine mp_get (C := R_O) (T := F_O) (N := 2) (v := .int (nI d)) hx hb hg i_O hown hK.va hI h_oo rfl 1 (by decide) (hg _ q_138) (fun _ h9 => h9) rfl d_O_makeMonic_25 ?_
    refine lv_icmp_gt (tgt := 55) hx hb d_O_makeMonic_28 (by decide) (fun _ => ?_) (fun h9 => absurd ((nI_ltI (by omega) (by omega)).mpr (by omega)) h9)
    obtain rfl : i = d + 1 := by omega
    exact kx S H locs ls h_oo h_oa hfr hI (lv_sub hl [0, 1, 2] rfl)
  | succ k ih =>
    intro i S H locs ls hi h_oo h_oa hfr hI hl kx
    refine lv_iload_n hx hb d_O_makeMonic_23 rfl (lv_at hl 0 rfl) ?_
    refine lv_aload_n hx hb d_O_makeMonic_24 rfl (lv_at hl 2 rfl) ?_
    refine mp_get (C := R_O) (T := F_O) (N := 2) (v := .int (nI d)) hx hb hg i_O hown hK.va hI h_oo rfl 1 (by decide) (hg _ q_138) (fun _ h9 => h9) rfl d_O_makeMonic_25 ?_
    refine lv_icmp_gt (tgt := 55) hx hb d_O_makeMonic_28 (by decide) (fun h9 => absurd h9 (by rw [nI_ltI (by omega) (by omega)]; omega)) (fun _ => ?_)
    refine lv_aload_n hx hb d_O_makeMonic_31 rfl (lv_at hl 2 rfl) ?_
    refine mp_get (C := R_O) (T := F_O) (N := 2) (v := .ref oa) hx hb hg i_O hown hK.va hI h_oo rfl 0 (by decide) (hg _ q_136) (fun _ h9 => h9) rfl d_O_makeMonic_32 ?_
    refine lv_iload_n hx hb d_O_makeMonic_35 rfl (lv_at hl 0 rfl) ?_
    refine lv_aload_n hx hb d_O_makeMonic_36 rfl (lv_at hl 2 rfl) ?_
    refine mp_get (C := R_O) (T := F_O) (N := 2) (v := .ref oa) hx hb hg i_O hown hK.va hI h_oo rfl 0 (by decide) (hg _ q_136) (fun _ h9 => h9) rfl d_O_makeMonic_37 ?_
    refine lv_iload_n hx hb d_O_makeMonic_40 rfl (lv_at hl 0 rfl) ?_
    refine mp_iald hx hb hK.va hI 0 h_oa rfl (vp_in_nI (show i < 33 by omega) (by omega)) d_O_makeMonic_41 ?_
    refine lv_topi (fun v1 ev1 => ?_)
    obtain rfl : v1 = nI (cf i).val := ev1.trans (by rw [nI_clamp (by omega), mgF_ge (by omega)])
    refine lv_iload_n hx hb d_O_makeMonic_42 rfl (lv_at hl 1 rfl) ?_
    refine lv_imul hx hb d_O_makeMonic_43 ?_
    refine lv_topi (fun v2 ev2 => ?_)
    obtain rfl : v2 = nI (((cf i).val) * ((iv (cf d)).val)) := ev2.trans (pk_mul _ _)
    refine lv_sipush (v := nI 32003) hx hb d_O_makeMonic_44 (by decide) ?_
    refine lv_irem hx hb d_O_makeMonic_47 (by decide) ?_
    refine lv_topi (fun v3 ev3 => ?_)
    obtain rfl : v3 = nI ((((cf i).val) * ((iv (cf d)).val)) % 32003) := ev3.trans (pk_rem (by first | exact fb_1 _ _ | exact fb_2 _ _ _ | exact fb_3 _ _ _ | exact fb_4 _ _ | exact fb_5 _ _ _ | omega) (by omega) (by omega))
    refine lv_topi (fun v4 ev4 => ?_)
    obtain rfl : v4 = nI (((cf i) * (iv (cf d)))).val := ev4.trans (congrArg nI (fv_mod (by simp only [fc_add, fc_mul, fc_of, fc_ng, fc_0, fc_1])))
    refine lv_topi (fun v5 ev5 => ?_)
    obtain rfl : v5 = nI (scl cf (iv (cf d)) i).val := ev5.trans (rfl)
    refine mp_iast hx hb hK.va hI 0 h_oa rfl (vp_in_nI (show i < 33 by omega) (by omega)) d_O_makeMonic_48 (fun S6 H7 locs e_8 hI => ?_)
    have h_oa_o := h_oa
    have e_8 : S6 = va_up S oa (some ((TO + 1), .inl ((g 0), 33, .inl (upd (fun j => nI ((mgF i (scl cf (iv (cf d))) cf) j).val) (nI i).toNatClampNeg (nI (scl cf (iv (cf d)) i).val))))) := e_8
    have h_oo : S6 oo = some (TO, .inr (1, [.ref oa, .int (nI d)])) := by rw [e_8]; exact mp_keep h_oo h_oa (by omega)
    have h_oa : S6 oa = some ((TO + 1), .inl ((g 0), 33, .inl (upd (fun j => nI ((mgF i (scl cf (iv (cf d))) cf) j).val) (nI i).toNatClampNeg (nI (scl cf (iv (cf d)) i).val)))) := by rw [e_8]; exact mp_us _ _ _
    have hfr : ∀ b t e9, B b = some (t, e9) → (t ≠ TO + 1) → S6 b = some (t, e9) := fun b t e9 h9 k0 => by rw [e_8]; exact mp_keep (hfr b t e9 h9 k0) h_oa_o (by omega)
    rw [nI_clamp (by omega), nIv_up] at h_oa
    have e9h_oa : (fun j => nI (va_up (mgF i (scl cf (iv (cf d))) cf) i (scl cf (iv (cf d)) i) j).val) = (fun j => nI ((mgF (i + 1) (scl cf (iv (cf d))) cf) j).val) := by rw [mgF_up]
    rw [e9h_oa] at h_oa
    refine lv_iinc (v := nI (i + 1)) (lv' := [(2, .int (nI (i + 1))), (1, .int (nI (iv (cf d)).val)), (0, .ref oo)]) hx hb d_O_makeMonic_49 hl (k := 0) rfl (nI_1 _) (by decide) rfl (fun ls hl => ?_)
    refine lv_goto (tgt := 23) hx hb d_O_makeMonic_52 (by decide) ?_
    exact ih (i + 1) S6 H7 locs ls (by omega) h_oo h_oa hfr hI (lv_sub hl [0, 1, 2] rfl) kx
set_option maxHeartbeats 4000000 in
set_option maxRecDepth 100000 in
/-- over the number at the head -/
theorem c_O_makeMonic (l : Launch) (D : mp_G) (g : Nat → ClassId) (S : mp_M) (sz : Nat) (oo oa TO : Nat) (cf : Nat → fF) (d : Nat) (h_oo : S oo = some (TO, .inr (1, [.ref oa, .int (nI d)]))) (h_oa : S oa = some ((TO + 1), .inl ((g 0), 33, .inl (fun j => nI (cf j).val)))) (hd : d < 33) (hz : ∀ k, d < k → cf k = 0) : Met l y_O_makeMonic w_O_makeMonic ({ frames := 1, cells := 0, slots := 0, locals := 23 }) (va_Pc [.ref oo] (mp_B0 D classes (tys g) S sz)) (va_Qv (fun (S1 : mp_M) => S1 oa = some ((TO + 1), .inl ((g 0), 33, .inl (fun j => nI ((scl cf (iv (cf d))) j).val))) ∧ (∀ b t e9, S b = some (t, e9) → (t ≠ TO + 1) → S1 b = some (t, e9))) (mp_B1 D classes S sz) (mp_A S sz)) 0 0 (mp_A S sz) := by
  refine Met.ofW (cc := b_O_makeMonic) (maxL := 3) (ret := none) (by decide) rfl ?_
  intro p e s m args below meth c s₁ B hml hv
  obtain ⟨rfl, hsz, hH, hK⟩ := hv
  have hx := B.exec
  have hb := B.bytes
  have hr := B.returns
  have hts := atoms_spec (ws := w_O_makeMonic) B.pre
  have hg : ∀ w ∈ gw, w.before _ s = true := fun w h => hts w (List.mem_cons_of_mem _ h)
  have hown : s.vm.findClass R_O = some m.cls := findClass_of_methodNamed B.named
  have hlocks := B.notSynchronized
  subst hsz
  have hI := mp_I.start hH
  have hl := lv_entry ([.ref oo]) (n := 3) (Nat.le_of_ble_eq_true rfl)
  rw [lg_entry_eq]
  generalize (lg_sl ([.ref oo]) ++ List.replicate (3 - (lg_sl ([.ref oo])).length) Slot.unset).toArray = ls at hl ⊢
  have hl : lv_has ls 3 [(0, .ref oo)] := hl
  have hfr : ∀ b t e9, S b = some (t, e9) → (t ≠ TO + 1) → S b = some (t, e9) := fun _ _ _ h9 _ => h9
  refine lv_aload_n hx hb d_O_makeMonic_0 rfl (lv_at hl 0 rfl) ?_
  refine mp_get (C := R_O) (T := F_O) (N := 2) (v := .int (nI d)) hx hb hg i_O hown hK.va hI h_oo rfl 1 (by decide) (hg _ q_138) (fun _ h9 => h9) rfl d_O_makeMonic_1 ?_
  refine lv_if_ge (tgt := 8) hx hb d_O_makeMonic_4 (by decide) (fun _ => ?_) (fun h9 => absurd (nI_pos' (by omega)) h9)
  refine lv_aload_n hx hb d_O_makeMonic_8 rfl (lv_at hl 0 rfl) ?_
  refine mp_get (C := R_O) (T := F_O) (N := 2) (v := .ref oa) hx hb hg i_O hown hK.va hI h_oo rfl 0 (by decide) (hg _ q_136) (fun _ h9 => h9) rfl d_O_makeMonic_9 ?_
  refine lv_aload_n hx hb d_O_makeMonic_12 rfl (lv_at hl 0 rfl) ?_
  refine mp_get (C := R_O) (T := F_O) (N := 2) (v := .int (nI d)) hx hb hg i_O hown hK.va hI h_oo rfl 1 (by decide) (hg _ q_138) (fun _ h9 => h9) rfl d_O_makeMonic_13 ?_
  refine mp_iald hx hb hK.va hI 0 h_oa rfl (vp_in_nI (show d < 33 by omega) (by omega)) d_O_makeMonic_16 ?_
  refine lv_topi (fun v1 ev1 => ?_)
  obtain rfl : v1 = nI (cf d).val := ev1.trans (by rw [nI_clamp (by omega)])
  refine mp_calli hI (va_runSN (As := [.int (nI (cf d).val)]) (rest := []) ⟨hx, hb, hml, hown, hg⟩ (c_B_inverse l D g S _ (cf d).val (cf d).isLt) ⟨(va_cnB 1 hg (wd_goodG q_414) rfl rfl rfl (hK.nw q_472 rfl) (hg _ q_1) (by decide +kernel) ⟨Nat.le_of_ble_eq_true rfl, Nat.le_of_ble_eq_true rfl⟩), hg _ q_413, trivial⟩ (mp_pre hI hK [.int (nI (cf d).val)]) rfl rfl hl.1 rfl (lv_room (Nat.le_of_ble_eq_true rfl)) d_O_makeMonic_17 ⟨Nat.le_of_ble_eq_true rfl, Nat.le_of_ble_eq_true rfl⟩) (fun r5 S2 H3 locs p_4 hI => ?_)
  obtain ⟨er5, eS6⟩ := p_4
  rw [eS6] at hI
  have er5 : r5 = nI ((cf d).val ^ 32001 % 32003) := er5
  subst er5
  refine lv_topi (fun v7 ev7 => ?_)
  obtain rfl : v7 = nI (iv (cf d)).val := ev7.trans (congrArg nI (iv_val _))
  refine lv_istore_n (lv' := [(1, .int (nI (iv (cf d)).val)), (0, .ref oo)]) hx hb d_O_makeMonic_20 rfl hl (by decide) rfl (fun ls hl => ?_)
  refine lv_iconst (v := nI 0) hx hb d_O_makeMonic_21 (by decide) ?_
  refine lv_istore_n (lv' := [(2, .int (nI 0)), (1, .int (nI (iv (cf d)).val)), (0, .ref oo)]) hx hb d_O_makeMonic_22 rfl hl (by decide) rfl (fun ls hl => ?_)
  rw [← mgF_0 (scl cf (iv (cf d))) cf] at h_oa
  refine lp_O_monic (B := S) (oo := oo) (oa := oa) (TO := TO) (cf := cf) (d := d) hx hb hml hg hown hK (Nat.le_of_ble_eq_true rfl) (Nat.le_of_ble_eq_true rfl) (Nat.le_of_ble_eq_true rfl) (Nat.le_of_ble_eq_true rfl) hd (d + 1) 0 S H3 _ ls (by omega) h_oo h_oa hfr hI (lv_sub hl [0, 1, 2] rfl) (fun S8 H9 locs ls j_oo j_oa hfr hI hl => ?_)
  rw [scl_w (fun k hk => hz k (by omega))] at j_oa
  refine mp_vret hx hb hr hlocks hI (Nat.le_of_ble_eq_true rfl) (Nat.le_of_ble_eq_true rfl) ?_ d_O_makeMonic_55
  exact ⟨j_oa, hfr⟩
set_option maxHeartbeats 4000000 in
set_option maxRecDepth 100000 in
theorem lp_O_divI {p : Program} {l : Launch} {e : Env} {R : Room} {s : State} {m : MethodId} {args : Array Value} {below : List Frame} {meth : Method} {c : Code} {Q : State → Prop} {D : mp_G} {g : Nat → ClassId} {A : Nat → Prop} {cells slots : Nat} (hx : p.tables.exec = Jvm.exec) (hb : c.code = b_O_divide) (hml : c.maxLocals = 5) (hg : ∀ w ∈ gw, w.before args s = true) (hown : s.vm.findClass R_O = some m.cls) (hK : mp_K D classes (tys g) s) (hRf : 0 ≤ R.frames) (hRl : 0 ≤ R.locals) (hRc : cells ≤ R.cells) (hRs : slots ≤ R.slots) {B : mp_M} {oo oa TO : Nat} {bo ba TB mm : Nat} {b : Nat → fF} {d sh : Nat} {c1 : Nat → fF} (hlab : TO + 1 < TB ∨ TB + 1 < TO) (hd : d < 33) (hs : sh + mm ≤ d) : ∀ (k : Nat) (i : Nat) (S : mp_M) (H : Heap) (locs : List Loc) (ls : Array Slot), i + k = mm → S oo = some (TO, .inr (1, [.ref oa, .int (nI d)])) → S oa = some ((TO + 1), .inl ((g 0), 33, .inl (fun j => nI ((stpI mm b c1 sh i) j).val))) → S bo = some (TB, .inr (1, [.ref ba, .int (nI mm)])) → S ba = some ((TB + 1), .inl ((g 0), 33, .inl (fun j => nI (b j).val))) → (∀ b t e9, B b = some (t, e9) → (t ≠ TO + 1) → S b = some (t, e9)) → mp_I D classes A s.heap S H locs → lv_has ls 5 [(4, .int (nI i)), (3, .int (nI (32003 - (c1 (sh + mm)).val))), (2, .int (nI sh)), (1, .ref bo), (0, .ref oo)] → (∀ (S : mp_M) (H : Heap) (locs : List Loc) (ls : Array Slot), S oo = some (TO, .inr (1, [.ref oa, .int (nI d)])) → S oa = some ((TO + 1), .inl ((g 0), 33, .inl (fun j => nI ((stpI mm b c1 sh mm) j).val))) → S bo = some (TB, .inr (1, [.ref ba, .int (nI mm)])) → S ba = some ((TB + 1), .inl ((g 0), 33, .inl (fun j => nI (b j).val))) → (∀ b t e9, B b = some (t, e9) → (t ≠ TO + 1) → S b = some (t, e9)) → mp_I D classes A s.heap S H locs → lv_has ls 5 [(4, .int (nI mm)), (3, .int (nI (32003 - (c1 (sh + mm)).val))), (2, .int (nI sh)), (1, .ref bo), (0, .ref oo)] → W p l e R s m args below meth c H locs cells slots Q (F0 m 80 ls [])) → W p l e R s m args below meth c H locs cells slots Q (F0 m 33 ls []) := by
  intro k
  induction k with
  | zero =>
    intro i S H locs ls hi h_oo h_oa h_bo h_ba hfr hI hl kx
    refine lv_iload hx hb d_O_divide_33 (lv_at hl 0 rfl) ?_
    refine lv_aload_n hx hb d_O_divide_35 rfl (lv_at hl 3 rfl) ?_
    refine mp_get (C := R_O) (T := F_O) (N := 2) (v := .int (nI mm)) hx hb hg i_O hown hK.va hI h_bo rfl 1 (by decide) (hg _ q_138) (fun _ h9 => h9) rfl d_O_divide_36 ?_
    refine lv_icmp_ge (tgt := 80) hx hb d_O_divide_39 (by decide) (fun _ => ?_) (fun h9 => absurd ((nI_leI (by omega) (by omega)).mpr (by omega)) h9)
    obtain rfl : i = mm := by omega
    exact kx S H locs ls h_oo h_oa h_bo h_ba hfr hI (lv_sub hl [0, 1, 2, 3, 4] rfl)
  | succ k ih =>
    intro i S H locs ls hi h_oo h_oa h_bo h_ba hfr hI hl kx
    refine lv_iload hx hb d_O_divide_33 (lv_at hl 0 rfl) ?_
    refine lv_aload_n hx hb d_O_divide_35 rfl (lv_at hl 3 rfl) ?_
    refine mp_get (C := R_O) (T := F_O) (N := 2) (v := .int (nI mm)) hx hb hg i_O hown hK.va hI h_bo rfl 1 (by decide) (hg _ q_138) (fun _ h9 => h9) rfl d_O_divide_36 ?_
    refine lv_icmp_ge (tgt := 80) hx hb d_O_divide_39 (by decide) (fun h9 => absurd h9 (by rw [nI_leI (by omega) (by omega)]; omega)) (fun _ => ?_)
    refine lv_aload_n hx hb d_O_divide_42 rfl (lv_at hl 4 rfl) ?_
    refine mp_get (C := R_O) (T := F_O) (N := 2) (v := .ref oa) hx hb hg i_O hown hK.va hI h_oo rfl 0 (by decide) (hg _ q_136) (fun _ h9 => h9) rfl d_O_divide_43 ?_
    refine lv_iload_n hx hb d_O_divide_46 rfl (lv_at hl 2 rfl) ?_
    refine lv_iload hx hb d_O_divide_47 (lv_at hl 0 rfl) ?_
    refine lv_iadd hx hb d_O_divide_49 ?_
    refine lv_topi (fun v1 ev1 => ?_)
    obtain rfl : v1 = nI (sh + i) := ev1.trans (nI_add _ _)
    refine lv_aload_n hx hb d_O_divide_50 rfl (lv_at hl 4 rfl) ?_
    refine mp_get (C := R_O) (T := F_O) (N := 2) (v := .ref oa) hx hb hg i_O hown hK.va hI h_oo rfl 0 (by decide) (hg _ q_136) (fun _ h9 => h9) rfl d_O_divide_51 ?_
    refine lv_iload_n hx hb d_O_divide_54 rfl (lv_at hl 2 rfl) ?_
    refine lv_iload hx hb d_O_divide_55 (lv_at hl 0 rfl) ?_
    refine lv_iadd hx hb d_O_divide_57 ?_
    refine lv_topi (fun v2 ev2 => ?_)
    obtain rfl : v2 = nI (sh + i) := ev2.trans (nI_add _ _)
    refine mp_iald hx hb hK.va hI 0 h_oa rfl (vp_in_nI (show sh + i < 33 by omega) (by omega)) d_O_divide_58 ?_
    refine lv_topi (fun v3 ev3 => ?_)
    obtain rfl : v3 = nI (c1 (sh + i)).val := ev3.trans (by rw [nI_clamp (by omega), stpI_at (by omega)])
    refine lv_iload_n hx hb d_O_divide_59 rfl (lv_at hl 1 rfl) ?_
    refine lv_aload_n hx hb d_O_divide_60 rfl (lv_at hl 3 rfl) ?_
    refine mp_get (C := R_O) (T := F_O) (N := 2) (v := .ref ba) hx hb hg i_O hown hK.va hI h_bo rfl 0 (by decide) (hg _ q_136) (fun _ h9 => h9) rfl d_O_divide_61 ?_
    refine lv_iload hx hb d_O_divide_64 (lv_at hl 0 rfl) ?_
    refine mp_iald hx hb hK.va hI 0 h_ba rfl (vp_in_nI (show i < 33 by omega) (by omega)) d_O_divide_66 ?_
    refine lv_topi (fun v4 ev4 => ?_)
    obtain rfl : v4 = nI (b i).val := ev4.trans (by rw [nI_clamp (by omega)])
    refine lv_imul hx hb d_O_divide_67 ?_
    refine lv_topi (fun v5 ev5 => ?_)
    obtain rfl : v5 = nI ((32003 - (c1 (sh + mm)).val) * ((b i).val)) := ev5.trans (pk_mul _ _)
    refine lv_iadd hx hb d_O_divide_68 ?_
    refine lv_topi (fun v6 ev6 => ?_)
    obtain rfl : v6 = nI (((c1 (sh + i)).val) + ((32003 - (c1 (sh + mm)).val) * ((b i).val))) := ev6.trans (nI_add _ _)
    refine lv_sipush (v := nI 32003) hx hb d_O_divide_69 (by decide) ?_
    refine lv_irem hx hb d_O_divide_72 (by decide) ?_
    refine lv_topi (fun v7 ev7 => ?_)
    obtain rfl : v7 = nI ((((c1 (sh + i)).val) + ((32003 - (c1 (sh + mm)).val) * ((b i).val))) % 32003) := ev7.trans (pk_rem (by first | exact fb_1 _ _ | exact fb_2 _ _ _ | exact fb_3 _ _ _ | exact fb_4 _ _ | exact fb_5 _ _ _ | omega) (by omega) (by omega))
    refine lv_topi (fun v8 ev8 => ?_)
    obtain rfl : v8 = nI (((c1 (sh + i)) + ((-c1 (sh + mm)) * (b i)))).val := ev8.trans (congrArg nI (fv_mod (by simp only [fc_add, fc_mul, fc_of, fc_ng, fc_0, fc_1])))
    refine lv_topi (fun v9 ev9 => ?_)
    obtain rfl : v9 = nI (c1 (sh + i) - c1 (sh + mm) * b i).val := ev9.trans (congrArg (fun x : fF => nI x.val) (by grind))
    refine mp_iast hx hb hK.va hI 0 h_oa rfl (vp_in_nI (show sh + i < 33 by omega) (by omega)) d_O_divide_73 (fun S10 H11 locs e_12 hI => ?_)
    have h_oa_o := h_oa
    have e_12 : S10 = va_up S oa (some ((TO + 1), .inl ((g 0), 33, .inl (upd (fun j => nI ((stpI mm b c1 sh i) j).val) (nI (sh + i)).toNatClampNeg (nI (c1 (sh + i) - c1 (sh + mm) * b i).val))))) := e_12
    have h_oo : S10 oo = some (TO, .inr (1, [.ref oa, .int (nI d)])) := by rw [e_12]; exact mp_keep h_oo h_oa (by omega)
    have h_bo : S10 bo = some (TB, .inr (1, [.ref ba, .int (nI mm)])) := by rw [e_12]; exact mp_keep h_bo h_oa (by omega)
    have h_ba : S10 ba = some ((TB + 1), .inl ((g 0), 33, .inl (fun j => nI (b j).val))) := by rw [e_12]; exact mp_keep h_ba h_oa (by omega)
    have h_oa : S10 oa = some ((TO + 1), .inl ((g 0), 33, .inl (upd (fun j => nI ((stpI mm b c1 sh i) j).val) (nI (sh + i)).toNatClampNeg (nI (c1 (sh + i) - c1 (sh + mm) * b i).val)))) := by rw [e_12]; exact mp_us _ _ _
    have hfr : ∀ b t e9, B b = some (t, e9) → (t ≠ TO + 1) → S10 b = some (t, e9) := fun b t e9 h9 k0 => by rw [e_12]; exact mp_keep (hfr b t e9 h9 k0) h_oa_o (by omega)
    rw [nI_clamp (by omega), nIv_up] at h_oa
    have e9h_oa : (fun j => nI (va_up (stpI mm b c1 sh i) (sh + i) (c1 (sh + i) - c1 (sh + mm) * b i) j).val) = (fun j => nI ((stpI mm b c1 sh (i + 1)) j).val) := by rw [stpI_up]
    rw [e9h_oa] at h_oa
    refine lv_iinc (v := nI (i + 1)) (lv' := [(4, .int (nI (i + 1))), (3, .int (nI (32003 - (c1 (sh + mm)).val))), (2, .int (nI sh)), (1, .ref bo), (0, .ref oo)]) hx hb d_O_divide_74 hl (k := 0) rfl (nI_1 _) (by decide) rfl (fun ls hl => ?_)
    refine lv_goto (tgt := 33) hx hb d_O_divide_77 (by decide) ?_
    exact ih (i + 1) S10 H11 locs ls (by omega) h_oo h_oa h_bo h_ba hfr hI (lv_sub hl [0, 1, 2, 3, 4] rfl) kx
set_option maxHeartbeats 4000000 in
set_option maxRecDepth 100000 in
theorem lp_O_divO {p : Program} {l : Launch} {e : Env} {R : Room} {s : State} {m : MethodId} {args : Array Value} {below : List Frame} {meth : Method} {c : Code} {Q : State → Prop} {D : mp_G} {g : Nat → ClassId} {A : Nat → Prop} {cells slots : Nat} (hx : p.tables.exec = Jvm.exec) (hb : c.code = b_O_divide) (hml : c.maxLocals = 5) (hg : ∀ w ∈ gw, w.before args s = true) (hown : s.vm.findClass R_O = some m.cls) (hK : mp_K D classes (tys g) s) (hRf : 0 ≤ R.frames) (hRl : 0 ≤ R.locals) (hRc : cells ≤ R.cells) (hRs : slots ≤ R.slots) {B : mp_M} {oo oa TO : Nat} {cf : Nat → fF} {bo ba TB mm : Nat} {b : Nat → fF} {d T : Nat} (hlab : TO + 1 < TB ∨ TB + 1 < TO) (hd : d < 33) : ∀ (k : Nat) (c1 : Nat → fF) (S : mp_M) (H : Heap) (locs : List Loc) (ls : Array Slot), k + mm ≤ d + 1 → (dvA mm b k c1 = dvA mm b T cf) → S oo = some (TO, .inr (1, [.ref oa, .int (nI d)])) → S oa = some ((TO + 1), .inl ((g 0), 33, .inl (fun j => nI (c1 j).val))) → S bo = some (TB, .inr (1, [.ref ba, .int (nI mm)])) → S ba = some ((TB + 1), .inl ((g 0), 33, .inl (fun j => nI (b j).val))) → (∀ b t e9, B b = some (t, e9) → (t ≠ TO + 1) → S b = some (t, e9)) → mp_I D classes A s.heap S H locs → lv_has ls 5 [(2, .int (nI k + -1)), (1, .ref bo), (0, .ref oo)] → (∀ (c1 : Nat → fF) (S : mp_M) (H : Heap) (locs : List Loc) (ls : Array Slot), (dvA mm b 0 c1 = dvA mm b T cf) → S oo = some (TO, .inr (1, [.ref oa, .int (nI d)])) → S oa = some ((TO + 1), .inl ((g 0), 33, .inl (fun j => nI (c1 j).val))) → S bo = some (TB, .inr (1, [.ref ba, .int (nI mm)])) → S ba = some ((TB + 1), .inl ((g 0), 33, .inl (fun j => nI (b j).val))) → (∀ b t e9, B b = some (t, e9) → (t ≠ TO + 1) → S b = some (t, e9)) → mp_I D classes A s.heap S H locs → lv_has ls 5 [(2, .int (nI 0 + -1)), (1, .ref bo), (0, .ref oo)] → W p l e R s m args below meth c H locs cells slots Q (F0 m 86 ls [])) → W p l e R s m args below meth c H locs cells slots Q (F0 m 10 ls []) := by
  intro k
  induction k with
  | zero =>
    intro c1 S H locs ls hi hdv h_oo h_oa h_bo h_ba hfr hI hl kx
    refine lv_iload_n hx hb d_O_divide_10 rfl (lv_at hl 0 rfl) ?_
    refine lv_if_lt (tgt := 86) hx hb d_O_divide_11 (by decide) (fun _ => ?_) (fun h9 => absurd (by decide) h9)
    exact kx c1 S H locs ls hdv h_oo h_oa h_bo h_ba hfr hI (lv_sub hl [0, 1, 2] rfl)
  | succ k ih =>
    intro c1 S H locs ls hi hdv h_oo h_oa h_bo h_ba hfr hI hl kx
    rw [nI_dec] at hl
    refine lv_iload_n hx hb d_O_divide_10 rfl (lv_at hl 0 rfl) ?_
    refine lv_if_lt (tgt := 86) hx hb d_O_divide_11 (by decide) (fun h9 => absurd h9 (nI_pos (by omega))) (fun _ => ?_)
    refine lv_sipush (v := nI 32003) hx hb d_O_divide_14 (by decide) ?_
    refine lv_aload_n hx hb d_O_divide_17 rfl (lv_at hl 2 rfl) ?_
    refine mp_get (C := R_O) (T := F_O) (N := 2) (v := .ref oa) hx hb hg i_O hown hK.va hI h_oo rfl 0 (by decide) (hg _ q_136) (fun _ h9 => h9) rfl d_O_divide_18 ?_
    refine lv_iload_n hx hb d_O_divide_21 rfl (lv_at hl 0 rfl) ?_
    refine lv_aload_n hx hb d_O_divide_22 rfl (lv_at hl 1 rfl) ?_
    refine mp_get (C := R_O) (T := F_O) (N := 2) (v := .int (nI mm)) hx hb hg i_O hown hK.va hI h_bo rfl 1 (by decide) (hg _ q_138) (fun _ h9 => h9) rfl d_O_divide_23 ?_
    refine lv_iadd hx hb d_O_divide_26 ?_
    refine lv_topi (fun v1 ev1 => ?_)
    obtain rfl : v1 = nI (k + mm) := ev1.trans (nI_add _ _)
    refine mp_iald hx hb hK.va hI 0 h_oa rfl (vp_in_nI (show k + mm < 33 by omega) (by omega)) d_O_divide_27 ?_
    refine lv_topi (fun v2 ev2 => ?_)
    obtain rfl : v2 = nI (c1 (k + mm)).val := ev2.trans (by rw [nI_clamp (by omega)])
    refine lv_isub hx hb d_O_divide_28 ?_
    refine lv_topi (fun v3 ev3 => ?_)
    obtain rfl : v3 = nI (32003 - ((c1 (k + mm)).val)) := ev3.trans (pk_sub (by omega))
    refine lv_istore_n (lv' := [(3, .int (nI (32003 - ((c1 (k + mm)).val)))), (2, .int (nI k)), (1, .ref bo), (0, .ref oo)]) hx hb d_O_divide_29 rfl hl (by decide) rfl (fun ls hl => ?_)
    refine lv_iconst (v := nI 0) hx hb d_O_divide_30 (by decide) ?_
    refine lv_istore (lv' := [(4, .int (nI 0)), (3, .int (nI (32003 - ((c1 (k + mm)).val)))), (2, .int (nI k)), (1, .ref bo), (0, .ref oo)]) hx hb d_O_divide_31 hl (by decide) rfl (fun ls hl => ?_)
    rw [← stpI_0 mm b c1 k] at h_oa
    refine lp_O_divI (B := B) (oo := oo) (oa := oa) (TO := TO) (bo := bo) (ba := ba) (TB := TB) (mm := mm) (b := b) (d := d) (sh := k) (c1 := c1) hx hb hml hg hown hK (Nat.le_trans (Nat.le_of_ble_eq_true rfl) hRf) (Nat.le_trans (Nat.le_of_ble_eq_true rfl) hRl) (by omega) (by omega) hlab hd (by omega) mm 0 S H _ ls (by omega) h_oo h_oa h_bo h_ba hfr hI (lv_sub hl [0, 1, 2, 3, 4] rfl) (fun S4 H5 locs ls j_oo j_oa j_bo j_ba hfr hI hl => ?_)
    rw [stpI_m] at j_oa
    refine lv_iinc (v := (nI k + (-1))) (lv' := [(2, .int (nI k + (-1))), (4, .int (nI mm)), (3, .int (nI (32003 - (c1 (k + mm)).val))), (1, .ref bo), (0, .ref oo)]) hx hb d_O_divide_80 hl (k := 2) rfl (rfl) (by decide) rfl (fun ls hl => ?_)
    refine lv_goto (tgt := 10) hx hb d_O_divide_83 (by decide) ?_
    exact ih (stp mm b c1 k) S4 H5 locs ls (by omega) hdv j_oo j_oa j_bo j_ba hfr hI (lv_sub hl [0, 3, 4] rfl) kx
set_option maxHeartbeats 4000000 in
set_option maxRecDepth 100000 in
/-- division by a monic one -/
theorem c_O_divide (l : Launch) (D : mp_G) (g : Nat → ClassId) (S : mp_M) (sz : Nat) (oo oa TO : Nat) (cf : Nat → fF) (bo ba TB mm : Nat) (b : Nat → fF) (d : Nat) (h_oo : S oo = some (TO, .inr (1, [.ref oa, .int (nI d)]))) (h_oa : S oa = some ((TO + 1), .inl ((g 0), 33, .inl (fun j => nI (cf j).val)))) (h_bo : S bo = some (TB, .inr (1, [.ref ba, .int (nI mm)]))) (h_ba : S ba = some ((TB + 1), .inl ((g 0), 33, .inl (fun j => nI (b j).val)))) (hlab : TO + 1 < TB ∨ TB + 1 < TO) (hd : d < 33) (hm : mm ≤ d) : Met l y_O_divide w_O_divide ({ frames := 0, cells := 0, slots := 0, locals := 0 }) (va_Pc [.ref oo, .ref bo] (mp_B0 D classes (tys g) S sz)) (va_Qv (fun (S1 : mp_M) => S1 oa = some ((TO + 1), .inl ((g 0), 33, .inl (fun j => nI ((dvA mm b (d + 1 - mm) cf) j).val))) ∧ (∀ b t e9, S b = some (t, e9) → (t ≠ TO + 1) → S1 b = some (t, e9))) (mp_B1 D classes S sz) (mp_A S sz)) 0 0 (mp_A S sz) := by
  refine Met.ofW (cc := b_O_divide) (maxL := 5) (ret := none) (by decide) rfl ?_
  intro p e s m args below meth c s₁ B hml hv
  obtain ⟨rfl, hsz, hH, hK⟩ := hv
  have hx := B.exec
  have hb := B.bytes
  have hr := B.returns
  have hts := atoms_spec (ws := w_O_divide) B.pre
  have hg : ∀ w ∈ gw, w.before _ s = true := fun w h => hts w (List.mem_cons_of_mem _ h)
  have hown : s.vm.findClass R_O = some m.cls := findClass_of_methodNamed B.named
  have hlocks := B.notSynchronized
  subst hsz
  have hI := mp_I.start hH
  have hl := lv_entry ([.ref oo, .ref bo]) (n := 5) (Nat.le_of_ble_eq_true rfl)
  rw [lg_entry_eq]
  generalize (lg_sl ([.ref oo, .ref bo]) ++ List.replicate (5 - (lg_sl ([.ref oo, .ref bo])).length) Slot.unset).toArray = ls at hl ⊢
  have hl : lv_has ls 5 [(0, .ref oo), (1, .ref bo)] := hl
  have hfr : ∀ b t e9, S b = some (t, e9) → (t ≠ TO + 1) → S b = some (t, e9) := fun _ _ _ h9 _ => h9
  refine lv_aload_n hx hb d_O_divide_0 rfl (lv_at hl 0 rfl) ?_
  refine mp_get (C := R_O) (T := F_O) (N := 2) (v := .int (nI d)) hx hb hg i_O hown hK.va hI h_oo rfl 1 (by decide) (hg _ q_138) (fun _ h9 => h9) rfl d_O_divide_1 ?_
  refine lv_aload_n hx hb d_O_divide_4 rfl (lv_at hl 1 rfl) ?_
  refine mp_get (C := R_O) (T := F_O) (N := 2) (v := .int (nI mm)) hx hb hg i_O hown hK.va hI h_bo rfl 1 (by decide) (hg _ q_138) (fun _ h9 => h9) rfl d_O_divide_5 ?_
  refine lv_isub hx hb d_O_divide_8 ?_
  refine lv_topi (fun v1 ev1 => ?_)
  obtain rfl : v1 = nI (d - mm) := ev1.trans (pk_sub (by omega))
  refine lv_topi (fun v2 ev2 => ?_)
  obtain rfl : v2 = (nI (d + 1 - mm) + -1) := ev2.trans (by rw [show d + 1 - mm = d - mm + 1 by omega]; exact (nI_dec _).symm)
  refine lv_istore_n (lv' := [(2, .int (nI (d + 1 - mm) + -1)), (0, .ref oo), (1, .ref bo)]) hx hb d_O_divide_9 rfl hl (by decide) rfl (fun ls hl => ?_)
  refine lp_O_divO (B := S) (oo := oo) (oa := oa) (TO := TO) (cf := cf) (bo := bo) (ba := ba) (TB := TB) (mm := mm) (b := b) (d := d) (T := d + 1 - mm) hx hb hml hg hown hK (Nat.le_of_ble_eq_true rfl) (Nat.le_of_ble_eq_true rfl) (Nat.le_of_ble_eq_true rfl) (Nat.le_of_ble_eq_true rfl) hlab hd (d + 1 - mm) cf S s.heap _ ls (by omega) rfl h_oo h_oa h_bo h_ba hfr hI (lv_sub hl [0, 2, 1] rfl) (fun c1 S3 H4 locs ls hdv j_oo j_oa j_bo j_ba hfr hI hl => ?_)
  have hdv : c1 = _ := hdv
  rw [hdv] at j_oa
  refine mp_vret hx hb hr hlocks hI (Nat.le_of_ble_eq_true rfl) (Nat.le_of_ble_eq_true rfl) ?_ d_O_divide_86
  exact ⟨j_oa, hfr⟩
set_option maxHeartbeats 4000000 in
set_option maxRecDepth 100000 in
theorem lp_O_rem {p : Program} {l : Launch} {e : Env} {R : Room} {s : State} {m : MethodId} {args : Array Value} {below : List Frame} {meth : Method} {c : Code} {Q : State → Prop} {D : mp_G} {g : Nat → ClassId} {A : Nat → Prop} {cells slots : Nat} (hx : p.tables.exec = Jvm.exec) (hb : c.code = b_O_becomeRemainder) (hml : c.maxLocals = 3) (hg : ∀ w ∈ gw, w.before args s = true) (hown : s.vm.findClass R_O = some m.cls) (hK : mp_K D classes (tys g) s) (hRf : 0 ≤ R.frames) (hRl : 0 ≤ R.locals) (hRc : cells ≤ R.cells) (hRs : slots ≤ R.slots) {B : mp_M} {oo oa TO : Nat} {bo ba TB mm : Nat} {b : Nat → fF} {d : Nat} {D9 : Nat → fF} (hlab : TO + 1 < TB ∨ TB + 1 < TO) (hd : d < 33) : ∀ (k : Nat) (i : Nat) (S : mp_M) (H : Heap) (locs : List Loc) (ls : Array Slot), i + k = d + 1 → (mm ≤ i) → S oo = some (TO, .inr (1, [.ref oa, .int (nI d)])) → S oa = some ((TO + 1), .inl ((g 0), 33, .inl (fun j => nI ((wpF mm i D9) j).val))) → S bo = some (TB, .inr (1, [.ref ba, .int (nI mm)])) → S ba = some ((TB + 1), .inl ((g 0), 33, .inl (fun j => nI (b j).val))) → (∀ b t e9, B b = some (t, e9) → (t ≠ TO) → (t ≠ TO + 1) → S b = some (t, e9)) → mp_I D classes A s.heap S H locs → lv_has ls 3 [(2, .int (nI i)), (1, .ref bo), (0, .ref oo)] → (∀ (S : mp_M) (H : Heap) (locs : List Loc) (ls : Array Slot), (mm ≤ (d + 1)) → S oo = some (TO, .inr (1, [.ref oa, .int (nI d)])) → S oa = some ((TO + 1), .inl ((g 0), 33, .inl (fun j => nI ((wpF mm (d + 1) D9) j).val))) → S bo = some (TB, .inr (1, [.ref ba, .int (nI mm)])) → S ba = some ((TB + 1), .inl ((g 0), 33, .inl (fun j => nI (b j).val))) → (∀ b t e9, B b = some (t, e9) → (t ≠ TO) → (t ≠ TO + 1) → S b = some (t, e9)) → mp_I D classes A s.heap S H locs → lv_has ls 3 [(2, .int (nI (d + 1))), (1, .ref bo), (0, .ref oo)] → W p l e R s m args below meth c H locs cells slots Q (F0 m 50 ls [])) → W p l e R s m args below meth c H locs cells slots Q (F0 m 29 ls []) := by
  intro k
  induction k with
  | zero =>
    intro i S H locs ls hi hmi h_oo h_oa h_bo h_ba hfr hI hl kx
    refine lv_iload_n hx hb d_O_becomeRemainder_29 rfl (lv_at hl 0 rfl) ?_
    refine lv_aload_n hx hb d_O_becomeRemainder_30 rfl (lv_at hl 2 rfl) ?_
    refine mp_get (C := R_O) (T := F_O) (N := 2) (v := .int (nI d)) hx hb hg i_O hown hK.va hI h_oo rfl 1 (by decide) (hg _ q_138) (fun _ h9 => h9) rfl d_O_becomeRemainder_31 ?_
    refine lv_icmp_gt (tgt := 50) hx hb d_O_becomeRemainder_34 (by decide) (fun _ => ?_) (fun h9 => absurd ((nI_ltI (by omega) (by omega)).mpr (by omega)) h9)
    obtain rfl : i = d + 1 := by omega
    exact kx S H locs ls hmi h_oo h_oa h_bo h_ba hfr hI (lv_sub hl [0, 1, 2] rfl)
  | succ k ih =>
    intro i S H locs ls hi hmi h_oo h_oa h_bo h_ba hfr hI hl kx
    refine lv_iload_n hx hb d_O_becomeRemainder_29 rfl (lv_at hl 0 rfl) ?_
    refine lv_aload_n hx hb d_O_becomeRemainder_30 rfl (lv_at hl 2 rfl) ?_
    refine mp_get (C := R_O) (T := F_O) (N := 2) (v := .int (nI d)) hx hb hg i_O hown hK.va hI h_oo rfl 1 (by decide) (hg _ q_138) (fun _ h9 => h9) rfl d_O_becomeRemainder_31 ?_
    refine lv_icmp_gt (tgt := 50) hx hb d_O_becomeRemainder_34 (by decide) (fun h9 => absurd h9 (by rw [nI_ltI (by omega) (by omega)]; omega)) (fun _ => ?_)
    refine lv_aload_n hx hb d_O_becomeRemainder_37 rfl (lv_at hl 2 rfl) ?_
    refine mp_get (C := R_O) (T := F_O) (N := 2) (v := .ref oa) hx hb hg i_O hown hK.va hI h_oo rfl 0 (by decide) (hg _ q_136) (fun _ h9 => h9) rfl d_O_becomeRemainder_38 ?_
    refine lv_iload_n hx hb d_O_becomeRemainder_41 rfl (lv_at hl 0 rfl) ?_
    refine lv_iconst (v := nI 0) hx hb d_O_becomeRemainder_42 (by decide) ?_
    refine mp_iast hx hb hK.va hI 0 h_oa rfl (vp_in_nI (show i < 33 by omega) (by omega)) d_O_becomeRemainder_43 (fun S1 H2 locs e_3 hI => ?_)
    have h_oa_o := h_oa
    have e_3 : S1 = va_up S oa (some ((TO + 1), .inl ((g 0), 33, .inl (upd (fun j => nI ((wpF mm i D9) j).val) (nI i).toNatClampNeg (nI 0))))) := e_3
    have h_oo : S1 oo = some (TO, .inr (1, [.ref oa, .int (nI d)])) := by rw [e_3]; exact mp_keep h_oo h_oa (by omega)
    have h_bo : S1 bo = some (TB, .inr (1, [.ref ba, .int (nI mm)])) := by rw [e_3]; exact mp_keep h_bo h_oa (by omega)
    have h_ba : S1 ba = some ((TB + 1), .inl ((g 0), 33, .inl (fun j => nI (b j).val))) := by rw [e_3]; exact mp_keep h_ba h_oa (by omega)
    have h_oa : S1 oa = some ((TO + 1), .inl ((g 0), 33, .inl (upd (fun j => nI ((wpF mm i D9) j).val) (nI i).toNatClampNeg (nI 0)))) := by rw [e_3]; exact mp_us _ _ _
    have hfr : ∀ b t e9, B b = some (t, e9) → (t ≠ TO) → (t ≠ TO + 1) → S1 b = some (t, e9) := fun b t e9 h9 k0 k1 => by rw [e_3]; exact mp_keep (hfr b t e9 h9 k0 k1) h_oa_o (by omega)
    have h_oa := h_oa
    rw [nI_clamp (by omega), nIv_up0] at h_oa
    have e9h_oa : (fun j => nI (va_up (wpF mm i D9) i 0 j).val) = (fun j => nI ((wpF mm (i + 1) D9) j).val) := by rw [wpF_us hmi]
    rw [e9h_oa] at h_oa
    refine lv_iinc (v := nI (i + 1)) (lv' := [(2, .int (nI (i + 1))), (1, .ref bo), (0, .ref oo)]) hx hb d_O_becomeRemainder_44 hl (k := 0) rfl (nI_1 _) (by decide) rfl (fun ls hl => ?_)
    refine lv_goto (tgt := 29) hx hb d_O_becomeRemainder_47 (by decide) ?_
    exact ih (i + 1) S1 H2 locs ls (by omega) (Nat.le_succ_of_le hmi) h_oo h_oa h_bo h_ba hfr hI (lv_sub hl [0, 1, 2] rfl) kx
set_option maxHeartbeats 4000000 in
set_option maxRecDepth 100000 in
/-- the remainder -/
theorem c_O_rem (l : Launch) (D : mp_G) (g : Nat → ClassId) (S : mp_M) (sz : Nat) (oo oa TO : Nat) (cf : Nat → fF) (bo ba TB mm : Nat) (b : Nat → fF) (n : Nat) (h_oo : S oo = some (TO, .inr (1, [.ref oa, .int (nI n + -1)]))) (h_oa : S oa = some ((TO + 1), .inl ((g 0), 33, .inl (fun j => nI (cf j).val)))) (h_bo : S bo = some (TB, .inr (1, [.ref ba, .int (nI mm)]))) (h_ba : S ba = some ((TB + 1), .inl ((g 0), 33, .inl (fun j => nI (b j).val)))) (hlab : TO + 1 < TB ∨ TB + 1 < TO) (hc : olP n cf) (hm : mm < 33) : Met l y_O_becomeRemainder w_O_becomeRemainder ({ frames := 2, cells := 0, slots := 0, locals := 42 }) (va_Pc [.ref oo, .ref bo] (mp_B0 D classes (tys g) S sz)) (va_Qv (fun (S1 : mp_M) => ∃ (n9 : Nat) (c9 : Nat → fF), S1 oo = some (TO, .inr (1, [.ref oa, .int (nI n9 + -1)])) ∧ S1 oa = some ((TO + 1), .inl ((g 0), 33, .inl (fun j => nI (c9 j).val))) ∧ olP n9 c9 ∧ (n ≤ mm → n9 = n ∧ c9 = cf) ∧ (mm < n → n9 ≤ mm) ∧ (∃ Q : fF → fF, (∀ a, pe 33 cf a = Q a * (pe mm b a + a ^ mm) + pe 33 c9 a) ∧ PL (n - mm) Q ∧ (mm < n → cf (n - 1) = 1 → PM (n - 1 - mm) Q) ∧ (n ≤ mm → ∀ a, Q a = 0)) ∧ (∀ b t e9, S b = some (t, e9) → (t ≠ TO) → (t ≠ TO + 1) → S1 b = some (t, e9))) (mp_B1 D classes S sz) (mp_A S sz)) 0 0 (mp_A S sz) := by
  refine Met.ofW (cc := b_O_becomeRemainder) (maxL := 3) (ret := none) (by decide) rfl ?_
  intro p e s m args below meth c s₁ B hml hv
  obtain ⟨rfl, hsz, hH, hK⟩ := hv
  have hx := B.exec
  have hb := B.bytes
  have hr := B.returns
  have hts := atoms_spec (ws := w_O_becomeRemainder) B.pre
  have hg : ∀ w ∈ gw, w.before _ s = true := fun w h => hts w (List.mem_cons_of_mem _ h)
  have hown : s.vm.findClass R_O = some m.cls := findClass_of_methodNamed B.named
  have hlocks := B.notSynchronized
  subst hsz
  have hI := mp_I.start hH
  have hl := lv_entry ([.ref oo, .ref bo]) (n := 3) (Nat.le_of_ble_eq_true rfl)
  rw [lg_entry_eq]
  generalize (lg_sl ([.ref oo, .ref bo]) ++ List.replicate (3 - (lg_sl ([.ref oo, .ref bo])).length) Slot.unset).toArray = ls at hl ⊢
  have hl : lv_has ls 3 [(0, .ref oo), (1, .ref bo)] := hl
  have hfr : ∀ b t e9, S b = some (t, e9) → (t ≠ TO) → (t ≠ TO + 1) → S b = some (t, e9) := fun _ _ _ h9 _ _ => h9
  have hn := hc.1
  refine lv_aload_n hx hb d_O_becomeRemainder_0 rfl (lv_at hl 1 rfl) ?_
  refine mp_get (C := R_O) (T := F_O) (N := 2) (v := .int (nI mm)) hx hb hg i_O hown hK.va hI h_bo rfl 1 (by decide) (hg _ q_138) (fun _ h9 => h9) rfl d_O_becomeRemainder_1 ?_
  refine lv_if_lt (tgt := 18) hx hb d_O_becomeRemainder_4 (by decide) (fun h9 => absurd h9 (nI_pos (by omega))) (fun _ => ?_)
  rcases Nat.lt_or_ge mm n with hmn | hmn
  · obtain ⟨d, rfl⟩ : ∃ d, n = d + 1 := ⟨n - 1, by omega⟩
    rw [nI_dec] at h_oo
    refine lv_aload_n hx hb d_O_becomeRemainder_7 rfl (lv_at hl 1 rfl) ?_
    refine mp_get (C := R_O) (T := F_O) (N := 2) (v := .int (nI mm)) hx hb hg i_O hown hK.va hI h_bo rfl 1 (by decide) (hg _ q_138) (fun _ h9 => h9) rfl d_O_becomeRemainder_8 ?_
    refine lv_aload_n hx hb d_O_becomeRemainder_11 rfl (lv_at hl 0 rfl) ?_
    refine mp_get (C := R_O) (T := F_O) (N := 2) (v := .int (nI d)) hx hb hg i_O hown hK.va hI h_oo rfl 1 (by decide) (hg _ q_138) (fun _ h9 => h9) rfl d_O_becomeRemainder_12 ?_
    refine lv_icmp_le (tgt := 19) hx hb d_O_becomeRemainder_15 (by decide) (fun _ => ?_) (fun h9 => absurd ((nI_leI (by omega) (by omega)).mpr (by omega)) h9)
    refine lv_aload_n hx hb d_O_becomeRemainder_19 rfl (lv_at hl 0 rfl) ?_
    refine lv_aload_n hx hb d_O_becomeRemainder_20 rfl (lv_at hl 1 rfl) ?_
    refine mp_callv hI (va_runV (As := [.ref bo]) (rest := []) ⟨hx, hb, hml, hown, hg⟩ (c_O_divide l D g S _ oo oa TO cf bo ba TB mm b d h_oo h_oa h_bo h_ba hlab (by omega) (by omega)) ⟨(callB_of 1 hg (wd_goodG q_451) rfl rfl rfl (hg _ q_18) (hg _ q_448) (by decide +kernel) ⟨Nat.le_of_ble_eq_true rfl, Nat.le_of_ble_eq_true rfl⟩), hg _ q_450, hg _ qs_12⟩ (mp_preV (C := R_O) (T := F_O) hI hK h_oo rfl [.ref bo]) rfl rfl hl.1 rfl (lv_room (Nat.le_of_ble_eq_true rfl)) d_O_becomeRemainder_21 ⟨Nat.le_of_ble_eq_true rfl, Nat.le_of_ble_eq_true rfl⟩) (fun S1 H2 locs p_3 hI => ?_)
    obtain ⟨q_oa, fq⟩ := p_3
    have h_oo : S1 oo = some (TO, .inr (1, [.ref oa, .int (nI d)])) := fq oo _ _ h_oo (by omega)
    have h_bo : S1 bo = some (TB, .inr (1, [.ref ba, .int (nI mm)])) := fq bo _ _ h_bo (by omega)
    have h_ba : S1 ba = some ((TB + 1), .inl ((g 0), 33, .inl (fun j => nI (b j).val))) := fq ba _ _ h_ba (by omega)
    have hfr : ∀ b t e9, S b = some (t, e9) → (t ≠ TO) → (t ≠ TO + 1) → S1 b = some (t, e9) := fun b t e9 h9 k0 k1 => by have h8 := hfr b t e9 h9 k0 k1; exact fq b _ _ h8 (by omega)
    have h_oa := q_oa
    refine lv_aload_n hx hb d_O_becomeRemainder_24 rfl (lv_at hl 1 rfl) ?_
    refine mp_get (C := R_O) (T := F_O) (N := 2) (v := .int (nI mm)) hx hb hg i_O hown hK.va hI h_bo rfl 1 (by decide) (hg _ q_138) (fun _ h9 => h9) rfl d_O_becomeRemainder_25 ?_
    refine lv_istore_n (lv' := [(2, .int (nI mm)), (0, .ref oo), (1, .ref bo)]) hx hb d_O_becomeRemainder_28 rfl hl (by decide) rfl (fun ls hl => ?_)
    rw [← wpF_e mm (dvA mm b (d + 1 - mm) cf)] at h_oa
    refine lp_O_rem (B := S) (oo := oo) (oa := oa) (TO := TO) (bo := bo) (ba := ba) (TB := TB) (mm := mm) (b := b) (d := d) (D9 := (dvA mm b (d + 1 - mm) cf)) hx hb hml hg hown hK (Nat.le_of_ble_eq_true rfl) (Nat.le_of_ble_eq_true rfl) (Nat.le_of_ble_eq_true rfl) (Nat.le_of_ble_eq_true rfl) hlab (by omega) (d + 1 - mm) mm S1 H2 _ ls (by omega) (Nat.le_refl mm) h_oo h_oa h_bo h_ba hfr hI (lv_sub hl [0, 2, 1] rfl) (fun S5 H6 locs ls hmi j_oo j_oa j_bo j_ba hfr hI hl => ?_)
    have hzd : ∀ k, d < k → cf k = 0 := fun k hk => hc.2.1 k (by omega)
    rw [wpF_cut (fun k hk => by rw [dvA_hi _ _ _ (by omega)]; exact hzd k hk)] at j_oa
    refine lv_aload_n hx hb d_O_becomeRemainder_50 rfl (lv_at hl 2 rfl) ?_
    refine lv_aload_n hx hb d_O_becomeRemainder_51 rfl (lv_at hl 1 rfl) ?_
    refine mp_get (C := R_O) (T := F_O) (N := 2) (v := .int (nI mm)) hx hb hg i_O hown hK.va hI j_bo rfl 1 (by decide) (hg _ q_138) (fun _ h9 => h9) rfl d_O_becomeRemainder_52 ?_
    refine lv_iconst (v := nI 1) hx hb d_O_becomeRemainder_55 (by decide) ?_
    refine lv_isub hx hb d_O_becomeRemainder_56 ?_
    refine lv_topi (fun v7 ev7 => ?_)
    obtain rfl : v7 = (nI mm + -1) := ev7.trans (nI_sub1 mm)
    refine mp_callv hI (va_runV (As := [.int (nI mm + -1)]) (rest := []) ⟨hx, hb, hml, hown, hg⟩ (c_O_settle l D g S5 _ oo oa TO (cut mm (dvA mm b (d + 1 - mm) cf)) mm (nI d) j_oo j_oa (by omega)) ⟨(callB_of 1 hg (wd_goodG q_422) rfl rfl rfl (hg _ q_18) (hg _ q_419) (by decide +kernel) ⟨Nat.le_of_ble_eq_true rfl, Nat.le_of_ble_eq_true rfl⟩), hg _ q_421, hg _ qs_9⟩ (mp_preV (C := R_O) (T := F_O) hI hK j_oo rfl [.int (nI mm + -1)]) rfl rfl hl.1 rfl (lv_room (Nat.le_of_ble_eq_true rfl)) d_O_becomeRemainder_57 ⟨Nat.le_of_ble_eq_true rfl, Nat.le_of_ble_eq_true rfl⟩) (fun S8 H9 locs p_10 hI => ?_)
    obtain ⟨n9, hn9, hz9, ht9, q_oo, fq⟩ := p_10
    have j_oa : S8 oa = some ((TO + 1), .inl ((g 0), 33, .inl (fun j => nI ((cut mm (dvA mm b (d + 1 - mm) cf)) j).val))) := fq oa _ _ j_oa (by omega)
    have j_bo : S8 bo = some (TB, .inr (1, [.ref ba, .int (nI mm)])) := fq bo _ _ j_bo (by omega)
    have j_ba : S8 ba = some ((TB + 1), .inl ((g 0), 33, .inl (fun j => nI (b j).val))) := fq ba _ _ j_ba (by omega)
    have hfr : ∀ b t e9, S b = some (t, e9) → (t ≠ TO) → (t ≠ TO + 1) → S8 b = some (t, e9) := fun b t e9 h9 k0 k1 => by have h8 := hfr b t e9 h9 k0 k1; exact fq b _ _ h8 (by omega)
    obtain ⟨Q, s1, s2, s3⟩ := rem_sem (b := b) (show mm ≤ d by omega) (by omega) hzd
    have hcut : ∀ k, mm ≤ k → cut mm (dvA mm b (d + 1 - mm) cf) k = 0 := fun k hk => by unfold cut; rw [if_neg (by omega)]
    refine mp_vret hx hb hr hlocks hI (Nat.le_of_ble_eq_true rfl) (Nat.le_of_ble_eq_true rfl) ?_ d_O_becomeRemainder_60
    exact ⟨n9, _, q_oo, j_oa, ⟨by omega, fun k hk => by by_cases e : k < mm; exact hz9 k hk e; exact hcut k (by omega), ht9⟩, fun q => absurd q (by omega), fun _ => hn9, ⟨Q, s1, s2, fun _ => s3, fun q => absurd q (by omega)⟩, hfr⟩
  · refine lv_aload_n hx hb d_O_becomeRemainder_7 rfl (lv_at hl 1 rfl) ?_
    refine mp_get (C := R_O) (T := F_O) (N := 2) (v := .int (nI mm)) hx hb hg i_O hown hK.va hI h_bo rfl 1 (by decide) (hg _ q_138) (fun _ h9 => h9) rfl d_O_becomeRemainder_8 ?_
    refine lv_aload_n hx hb d_O_becomeRemainder_11 rfl (lv_at hl 0 rfl) ?_
    refine mp_get (C := R_O) (T := F_O) (N := 2) (v := .int (nI n + -1)) hx hb hg i_O hown hK.va hI h_oo rfl 1 (by decide) (hg _ q_138) (fun _ h9 => h9) rfl d_O_becomeRemainder_12 ?_
    refine lv_icmp_le (tgt := 19) hx hb d_O_becomeRemainder_15 (by decide) (fun h9 => absurd h9 (dI_gt hmn hm hn)) (fun _ => ?_)
    refine mp_vret hx hb hr hlocks hI (Nat.le_of_ble_eq_true rfl) (Nat.le_of_ble_eq_true rfl) ?_ d_O_becomeRemainder_18
    exact ⟨n, cf, h_oo, h_oa, hc, fun _ => ⟨rfl, rfl⟩, fun q => absurd q (by omega), ⟨fun _ => 0, fun a => by grind, PL_z _, fun q => absurd q (by omega), fun _ _ => rfl⟩, hfr⟩
set_option maxHeartbeats 4000000 in
set_option maxRecDepth 100000 in
theorem lp_O_mul {p : Program} {l : Launch} {e : Env} {R : Room} {s : State} {m : MethodId} {args : Array Value} {below : List Frame} {meth : Method} {c : Code} {Q : State → Prop} {D : mp_G} {g : Nat → ClassId} {A : Nat → Prop} {cells slots : Nat} (hx : p.tables.exec = Jvm.exec) (hb : c.code = b_O_multiplyByShifted) (hml : c.maxLocals = 3) (hg : ∀ w ∈ gw, w.before args s = true) (hown : s.vm.findClass R_O = some m.cls) (hK : mp_K D classes (tys g) s) (hRf : 0 ≤ R.frames) (hRl : 0 ≤ R.locals) (hRc : cells ≤ R.cells) (hRs : slots ≤ R.slots) {B : mp_M} {oo oa TO : Nat} {cf : Nat → fF} {d : Nat} {s9 : fF} (hd : d < 32) : ∀ (k : Nat) (S : mp_M) (H : Heap) (locs : List Loc) (ls : Array Slot), k ≤ d + 1 → S oo = some (TO, .inr (1, [.ref oa, .int (nI (d + 1))])) → S oa = some ((TO + 1), .inl ((g 0), 33, .inl (fun j => nI ((mbI s9 cf k) j).val))) → (∀ b t e9, B b = some (t, e9) → (t ≠ TO) → (t ≠ TO + 1) → S b = some (t, e9)) → mp_I D classes A s.heap S H locs → lv_has ls 3 [(2, .int (nI k)), (1, .int (nI (s9).val)), (0, .ref oo)] → (∀ (S : mp_M) (H : Heap) (locs : List Loc) (ls : Array Slot), S oo = some (TO, .inr (1, [.ref oa, .int (nI (d + 1))])) → S oa = some ((TO + 1), .inl ((g 0), 33, .inl (fun j => nI ((mbI s9 cf 0) j).val))) → (∀ b t e9, B b = some (t, e9) → (t ≠ TO) → (t ≠ TO + 1) → S b = some (t, e9)) → mp_I D classes A s.heap S H locs → lv_has ls 3 [(2, .int (nI 0)), (1, .int (nI (s9).val)), (0, .ref oo)] → W p l e R s m args below meth c H locs cells slots Q (F0 m 74 ls [])) → W p l e R s m args below meth c H locs cells slots Q (F0 m 37 ls []) := by
  intro k
  induction k with
  | zero =>
    intro S H locs ls hi h_oo h_oa hfr hI hl kx
    refine lv_iload_n hx hb d_O_multiplyByShifted_37 rfl (lv_at hl 0 rfl) ?_
    refine lv_if_le (tgt := 74) hx hb d_O_multiplyByShifted_38 (by decide) (fun _ => ?_) (fun h9 => absurd (by decide) h9)
    exact kx S H locs ls h_oo h_oa hfr hI (lv_sub hl [0, 1, 2] rfl)
  | succ k ih =>
    intro S H locs ls hi h_oo h_oa hfr hI hl kx
    refine lv_iload_n hx hb d_O_multiplyByShifted_37 rfl (lv_at hl 0 rfl) ?_
    refine lv_if_le (tgt := 74) hx hb d_O_multiplyByShifted_38 (by decide) (fun h9 => absurd h9 (by rw [zI_le (by omega)]; omega)) (fun _ => ?_)
    refine lv_aload_n hx hb d_O_multiplyByShifted_41 rfl (lv_at hl 2 rfl) ?_
    refine mp_get (C := R_O) (T := F_O) (N := 2) (v := .ref oa) hx hb hg i_O hown hK.va hI h_oo rfl 0 (by decide) (hg _ q_136) (fun _ h9 => h9) rfl d_O_multiplyByShifted_42 ?_
    refine lv_iload_n hx hb d_O_multiplyByShifted_45 rfl (lv_at hl 0 rfl) ?_
    refine lv_aload_n hx hb d_O_multiplyByShifted_46 rfl (lv_at hl 2 rfl) ?_
    refine mp_get (C := R_O) (T := F_O) (N := 2) (v := .ref oa) hx hb hg i_O hown hK.va hI h_oo rfl 0 (by decide) (hg _ q_136) (fun _ h9 => h9) rfl d_O_multiplyByShifted_47 ?_
    refine lv_iload_n hx hb d_O_multiplyByShifted_50 rfl (lv_at hl 0 rfl) ?_
    refine lv_iconst (v := nI 1) hx hb d_O_multiplyByShifted_51 (by decide) ?_
    refine lv_isub hx hb d_O_multiplyByShifted_52 ?_
    refine lv_topi (fun v1 ev1 => ?_)
    obtain rfl : v1 = nI ((k + 1) - 1) := ev1.trans (pk_sub (by omega))
    refine mp_iald hx hb hK.va hI 0 h_oa rfl (vp_in_nI (show (k + 1) - 1 < 33 by omega) (by omega)) d_O_multiplyByShifted_53 ?_
    refine lv_topi (fun v2 ev2 => ?_)
    obtain rfl : v2 = nI (cf k).val := ev2.trans (by rw [nI_clamp (by omega), mbI_lo (by omega)]; rfl)
    refine lv_iload_n hx hb d_O_multiplyByShifted_54 rfl (lv_at hl 1 rfl) ?_
    refine lv_aload_n hx hb d_O_multiplyByShifted_55 rfl (lv_at hl 2 rfl) ?_
    refine mp_get (C := R_O) (T := F_O) (N := 2) (v := .ref oa) hx hb hg i_O hown hK.va hI h_oo rfl 0 (by decide) (hg _ q_136) (fun _ h9 => h9) rfl d_O_multiplyByShifted_56 ?_
    refine lv_iload_n hx hb d_O_multiplyByShifted_59 rfl (lv_at hl 0 rfl) ?_
    refine mp_iald hx hb hK.va hI 0 h_oa rfl (vp_in_nI (show k + 1 < 33 by omega) (by omega)) d_O_multiplyByShifted_60 ?_
    refine lv_topi (fun v3 ev3 => ?_)
    obtain rfl : v3 = nI (cf (k + 1)).val := ev3.trans (by rw [nI_clamp (by omega), mbI_lo (by omega)])
    refine lv_imul hx hb d_O_multiplyByShifted_61 ?_
    refine lv_topi (fun v4 ev4 => ?_)
    obtain rfl : v4 = nI (((s9).val) * ((cf (k + 1)).val)) := ev4.trans (pk_mul _ _)
    refine lv_iadd hx hb d_O_multiplyByShifted_62 ?_
    refine lv_topi (fun v5 ev5 => ?_)
    obtain rfl : v5 = nI (((cf k).val) + (((s9).val) * ((cf (k + 1)).val))) := ev5.trans (nI_add _ _)
    refine lv_sipush (v := nI 32003) hx hb d_O_multiplyByShifted_63 (by decide) ?_
    refine lv_irem hx hb d_O_multiplyByShifted_66 (by decide) ?_
    refine lv_topi (fun v6 ev6 => ?_)
    obtain rfl : v6 = nI ((((cf k).val) + (((s9).val) * ((cf (k + 1)).val))) % 32003) := ev6.trans (pk_rem (by first | exact fb_1 _ _ | exact fb_2 _ _ _ | exact fb_3 _ _ _ | exact fb_4 _ _ | exact fb_5 _ _ _ | omega) (by omega) (by omega))
    refine lv_topi (fun v7 ev7 => ?_)
    obtain rfl : v7 = nI (((cf k) + (s9 * (cf (k + 1))))).val := ev7.trans (congrArg nI (fv_mod (by simp only [fc_add, fc_mul, fc_of, fc_ng, fc_0, fc_1])))
    refine mp_iast hx hb hK.va hI 0 h_oa rfl (vp_in_nI (show k + 1 < 33 by omega) (by omega)) d_O_multiplyByShifted_67 (fun S8 H9 locs e_10 hI => ?_)
    have h_oa_o := h_oa
    have e_10 : S8 = va_up S oa (some ((TO + 1), .inl ((g 0), 33, .inl (upd (fun j => nI ((mbI s9 cf (k + 1)) j).val) (nI (k + 1)).toNatClampNeg (nI (((cf k) + (s9 * (cf (k + 1))))).val))))) := e_10
    have h_oo : S8 oo = some (TO, .inr (1, [.ref oa, .int (nI (d + 1))])) := by rw [e_10]; exact mp_keep h_oo h_oa (by omega)
    have h_oa : S8 oa = some ((TO + 1), .inl ((g 0), 33, .inl (upd (fun j => nI ((mbI s9 cf (k + 1)) j).val) (nI (k + 1)).toNatClampNeg (nI (((cf k) + (s9 * (cf (k + 1))))).val)))) := by rw [e_10]; exact mp_us _ _ _
    have hfr : ∀ b t e9, B b = some (t, e9) → (t ≠ TO) → (t ≠ TO + 1) → S8 b = some (t, e9) := fun b t e9 h9 k0 k1 => by rw [e_10]; exact mp_keep (hfr b t e9 h9 k0 k1) h_oa_o (by omega)
    rw [nI_clamp (by omega), nIv_up] at h_oa
    have e9h_oa : (fun j => nI (va_up (mbI s9 cf (k + 1)) (k + 1) ((cf k) + (s9 * (cf (k + 1)))) j).val) = (fun j => nI ((mbI s9 cf k) j).val) := by rw [mbI_up]
    rw [e9h_oa] at h_oa
    refine lv_iinc (v := (nI (k + 1) + (-1))) (lv' := [(2, .int (nI (k + 1) + (-1))), (1, .int (nI (s9).val)), (0, .ref oo)]) hx hb d_O_multiplyByShifted_68 hl (k := 0) rfl (rfl) (by decide) rfl (fun ls hl => ?_)
    refine lv_goto (tgt := 37) hx hb d_O_multiplyByShifted_71 (by decide) ?_
    rw [nI_dec] at hl
    exact ih S8 H9 locs ls (by omega) h_oo h_oa hfr hI (lv_sub hl [0, 1, 2] rfl) kx
set_option maxHeartbeats 4000000 in
set_option maxRecDepth 100000 in
/-- times the letter plus a number -/
theorem c_O_mul (l : Launch) (D : mp_G) (g : Nat → ClassId) (S : mp_M) (sz : Nat) (oo oa TO : Nat) (cf : Nat → fF) (d : Nat) (s9 : fF) (h_oo : S oo = some (TO, .inr (1, [.ref oa, .int (nI d)]))) (h_oa : S oa = some ((TO + 1), .inl ((g 0), 33, .inl (fun j => nI (cf j).val)))) (hd : d < 32) (hz : ∀ k, d < k → cf k = 0) : Met l y_O_multiplyByShifted w_O_multiplyByShifted ({ frames := 0, cells := 0, slots := 0, locals := 0 }) (va_Pc [.ref oo, .int (nI (s9).val)] (mp_B0 D classes (tys g) S sz)) (va_Qv (fun (S1 : mp_M) => S1 oo = some (TO, .inr (1, [.ref oa, .int (nI (d + 1))])) ∧ S1 oa = some ((TO + 1), .inl ((g 0), 33, .inl (fun j => nI ((mbs s9 cf) j).val))) ∧ (∀ b t e9, S b = some (t, e9) → (t ≠ TO) → (t ≠ TO + 1) → S1 b = some (t, e9))) (mp_B1 D classes S sz) (mp_A S sz)) 0 0 (mp_A S sz) := by
  refine Met.ofW (cc := b_O_multiplyByShifted) (maxL := 3) (ret := none) (by decide) rfl ?_
  intro p e s m args below meth c s₁ B hml hv
  obtain ⟨rfl, hsz, hH, hK⟩ := hv
  have hx := B.exec
  have hb := B.bytes
  have hr := B.returns
  have hts := atoms_spec (ws := w_O_multiplyByShifted) B.pre
  have hg : ∀ w ∈ gw, w.before _ s = true := fun w h => hts w (List.mem_cons_of_mem _ h)
  have hown : s.vm.findClass R_O = some m.cls := findClass_of_methodNamed B.named
  have hlocks := B.notSynchronized
  subst hsz
  have hI := mp_I.start hH
  have hl := lv_entry ([.ref oo, .int (nI (s9).val)]) (n := 3) (Nat.le_of_ble_eq_true rfl)
  rw [lg_entry_eq]
  generalize (lg_sl ([.ref oo, .int (nI (s9).val)]) ++ List.replicate (3 - (lg_sl ([.ref oo, .int (nI (s9).val)])).length) Slot.unset).toArray = ls at hl ⊢
  have hl : lv_has ls 3 [(0, .ref oo), (1, .int (nI (s9).val))] := hl
  have hfr : ∀ b t e9, S b = some (t, e9) → (t ≠ TO) → (t ≠ TO + 1) → S b = some (t, e9) := fun _ _ _ h9 _ _ => h9
  refine lv_aload_n hx hb d_O_multiplyByShifted_0 rfl (lv_at hl 0 rfl) ?_
  refine mp_get (C := R_O) (T := F_O) (N := 2) (v := .int (nI d)) hx hb hg i_O hown hK.va hI h_oo rfl 1 (by decide) (hg _ q_138) (fun _ h9 => h9) rfl d_O_multiplyByShifted_1 ?_
  refine lv_if_lt (tgt := 21) hx hb d_O_multiplyByShifted_4 (by decide) (fun h9 => absurd h9 (nI_pos (by omega))) (fun _ => ?_)
  refine lv_aload_n hx hb d_O_multiplyByShifted_7 rfl (lv_at hl 0 rfl) ?_
  refine mp_get (C := R_O) (T := F_O) (N := 2) (v := .int (nI d)) hx hb hg i_O hown hK.va hI h_oo rfl 1 (by decide) (hg _ q_138) (fun _ h9 => h9) rfl d_O_multiplyByShifted_8 ?_
  refine lv_iconst (v := nI 1) hx hb d_O_multiplyByShifted_11 (by decide) ?_
  refine lv_iadd hx hb d_O_multiplyByShifted_12 ?_
  refine lv_topi (fun v1 ev1 => ?_)
  obtain rfl : v1 = nI (d + 1) := ev1.trans (nI_add _ _)
  refine lv_aload_n hx hb d_O_multiplyByShifted_13 rfl (lv_at hl 0 rfl) ?_
  refine mp_get (C := R_O) (T := F_O) (N := 2) (v := .ref oa) hx hb hg i_O hown hK.va hI h_oo rfl 0 (by decide) (hg _ q_136) (fun _ h9 => h9) rfl d_O_multiplyByShifted_14 ?_
  refine mp_alen (v := nI 33) hx hb hK.va hI 0 h_oa rfl rfl d_O_multiplyByShifted_17 ?_
  refine lv_icmp_lt (tgt := 22) hx hb d_O_multiplyByShifted_18 (by decide) (fun _ => ?_) (fun h9 => absurd ((nI_ltI (by omega) (by omega)).mpr (by omega)) h9)
  refine lv_aload_n hx hb d_O_multiplyByShifted_22 rfl (lv_at hl 0 rfl) ?_
  refine lv_dup hx hb d_O_multiplyByShifted_23 rfl ?_
  refine mp_get (C := R_O) (T := F_O) (N := 2) (v := .int (nI d)) hx hb hg i_O hown hK.va hI h_oo rfl 1 (by decide) (hg _ q_138) (fun _ h9 => h9) rfl d_O_multiplyByShifted_24 ?_
  refine lv_iconst (v := nI 1) hx hb d_O_multiplyByShifted_27 (by decide) ?_
  refine lv_iadd hx hb d_O_multiplyByShifted_28 ?_
  refine lv_topi (fun v2 ev2 => ?_)
  obtain rfl : v2 = nI (d + 1) := ev2.trans (nI_add _ _)
  refine mp_put (C := R_O) (T := F_O) (N := 2) (v := .int (nI (d + 1))) (ty := .int) hx hb hg i_O t_O t_O_ok n_O hown hK.va hI h_oo rfl 1 (by decide) (hg _ q_138) (fun _ h9 => h9) rfl (by decide +kernel) (rfl) rfl (Nat.le_of_ble_eq_true rfl) d_O_multiplyByShifted_29 (fun S3 H4 locs e_5 hI => ?_)
  have h_oo_o := h_oo
  have e_5 : S3 = va_up S oo (some (TO, .inr (1, [.ref oa, .int (nI (d + 1))]))) := e_5
  have h_oa : S3 oa = some ((TO + 1), .inl ((g 0), 33, .inl (fun j => nI (cf j).val))) := by rw [e_5]; exact mp_keep h_oa h_oo (by omega)
  have h_oo : S3 oo = some (TO, .inr (1, [.ref oa, .int (nI (d + 1))])) := by rw [e_5]; exact mp_us _ _ _
  have hfr : ∀ b t e9, S b = some (t, e9) → (t ≠ TO) → (t ≠ TO + 1) → S3 b = some (t, e9) := fun b t e9 h9 k0 k1 => by rw [e_5]; exact mp_keep (hfr b t e9 h9 k0 k1) h_oo_o (by omega)
  refine lv_aload_n hx hb d_O_multiplyByShifted_32 rfl (lv_at hl 0 rfl) ?_
  refine mp_get (C := R_O) (T := F_O) (N := 2) (v := .int (nI (d + 1))) hx hb hg i_O hown hK.va hI h_oo rfl 1 (by decide) (hg _ q_138) (fun _ h9 => h9) rfl d_O_multiplyByShifted_33 ?_
  refine lv_istore_n (lv' := [(2, .int (nI (d + 1))), (0, .ref oo), (1, .int (nI (s9).val))]) hx hb d_O_multiplyByShifted_36 rfl hl (by decide) rfl (fun ls hl => ?_)
  rw [← mbI_d (s := s9) hz] at h_oa
  refine lp_O_mul (B := S) (oo := oo) (oa := oa) (TO := TO) (cf := cf) (d := d) (s9 := s9) hx hb hml hg hown hK (Nat.le_of_ble_eq_true rfl) (Nat.le_of_ble_eq_true rfl) (Nat.le_of_ble_eq_true rfl) (Nat.le_of_ble_eq_true rfl) hd (d + 1) S3 H4 _ ls (Nat.le_refl _) h_oo h_oa hfr hI (lv_sub hl [0, 2, 1] rfl) (fun S6 H7 locs ls j_oo j_oa hfr hI hl => ?_)
  refine lv_aload_n hx hb d_O_multiplyByShifted_74 rfl (lv_at hl 2 rfl) ?_
  refine mp_get (C := R_O) (T := F_O) (N := 2) (v := .ref oa) hx hb hg i_O hown hK.va hI j_oo rfl 0 (by decide) (hg _ q_136) (fun _ h9 => h9) rfl d_O_multiplyByShifted_75 ?_
  refine lv_iconst (v := nI 0) hx hb d_O_multiplyByShifted_78 (by decide) ?_
  refine lv_iload_n hx hb d_O_multiplyByShifted_79 rfl (lv_at hl 1 rfl) ?_
  refine lv_aload_n hx hb d_O_multiplyByShifted_80 rfl (lv_at hl 2 rfl) ?_
  refine mp_get (C := R_O) (T := F_O) (N := 2) (v := .ref oa) hx hb hg i_O hown hK.va hI j_oo rfl 0 (by decide) (hg _ q_136) (fun _ h9 => h9) rfl d_O_multiplyByShifted_81 ?_
  refine lv_iconst (v := nI 0) hx hb d_O_multiplyByShifted_84 (by decide) ?_
  refine mp_iald hx hb hK.va hI 0 j_oa rfl (vp_in_nI (show 0 < 33 by omega) (by omega)) d_O_multiplyByShifted_85 ?_
  refine lv_topi (fun v8 ev8 => ?_)
  obtain rfl : v8 = nI (cf 0).val := ev8.trans (by rw [nI_clamp (by omega), mbI_lo (Nat.le_refl 0)])
  refine lv_imul hx hb d_O_multiplyByShifted_86 ?_
  refine lv_topi (fun v9 ev9 => ?_)
  obtain rfl : v9 = nI (((s9).val) * ((cf 0).val)) := ev9.trans (pk_mul _ _)
  refine lv_sipush (v := nI 32003) hx hb d_O_multiplyByShifted_87 (by decide) ?_
  refine lv_irem hx hb d_O_multiplyByShifted_90 (by decide) ?_
  refine lv_topi (fun v10 ev10 => ?_)
  obtain rfl : v10 = nI ((((s9).val) * ((cf 0).val)) % 32003) := ev10.trans (pk_rem (by first | exact fb_1 _ _ | exact fb_2 _ _ _ | exact fb_3 _ _ _ | exact fb_4 _ _ | exact fb_5 _ _ _ | omega) (by omega) (by omega))
  refine lv_topi (fun v11 ev11 => ?_)
  obtain rfl : v11 = nI ((s9 * (cf 0))).val := ev11.trans (congrArg nI (fv_mod (by simp only [fc_add, fc_mul, fc_of, fc_ng, fc_0, fc_1])))
  refine mp_iast hx hb hK.va hI 0 j_oa rfl (vp_in_nI (show 0 < 33 by omega) (by omega)) d_O_multiplyByShifted_91 (fun S12 H13 locs e_14 hI => ?_)
  have j_oa_o := j_oa
  have e_14 : S12 = va_up S6 oa (some ((TO + 1), .inl ((g 0), 33, .inl (upd (fun j => nI ((mbI s9 cf 0) j).val) (nI 0).toNatClampNeg (nI ((s9 * (cf 0))).val))))) := e_14
  have j_oo : S12 oo = some (TO, .inr (1, [.ref oa, .int (nI (d + 1))])) := by rw [e_14]; exact mp_keep j_oo j_oa (by omega)
  have j_oa : S12 oa = some ((TO + 1), .inl ((g 0), 33, .inl (upd (fun j => nI ((mbI s9 cf 0) j).val) (nI 0).toNatClampNeg (nI ((s9 * (cf 0))).val)))) := by rw [e_14]; exact mp_us _ _ _
  have hfr : ∀ b t e9, S b = some (t, e9) → (t ≠ TO) → (t ≠ TO + 1) → S12 b = some (t, e9) := fun b t e9 h9 k0 k1 => by rw [e_14]; exact mp_keep (hfr b t e9 h9 k0 k1) j_oa_o (by omega)
  rw [nI_clamp (by omega), nIv_up] at j_oa
  have e9j_oa : (fun j => nI (va_up (mbI s9 cf 0) 0 (s9 * (cf 0)) j).val) = (fun j => nI ((mbs s9 cf) j).val) := by rw [mbI_0]
  rw [e9j_oa] at j_oa
  refine mp_vret hx hb hr hlocks hI (Nat.le_of_ble_eq_true rfl) (Nat.le_of_ble_eq_true rfl) ?_ d_O_multiplyByShifted_92
  exact ⟨j_oo, j_oa, hfr⟩
set_option maxHeartbeats 4000000 in
set_option maxRecDepth 100000 in
theorem lp_O_quo {p : Program} {l : Launch} {e : Env} {R : Room} {s : State} {m : MethodId} {args : Array Value} {below : List Frame} {meth : Method} {c : Code} {Q : State → Prop} {D : mp_G} {g : Nat → ClassId} {A : Nat → Prop} {cells slots : Nat} (hx : p.tables.exec = Jvm.exec) (hb : c.code = b_O_becomeQuotient) (hml : c.maxLocals = 4) (hg : ∀ w ∈ gw, w.before args s = true) (hown : s.vm.findClass R_O = some m.cls) (hK : mp_K D classes (tys g) s) (hRf : 0 ≤ R.frames) (hRl : 0 ≤ R.locals) (hRc : cells ≤ R.cells) (hRs : slots ≤ R.slots) {B : mp_M} {oo oa TO : Nat} {bo ba TB mm : Nat} {b : Nat → fF} {d : Nat} {D9 : Nat → fF} (hlab : TO + 1 < TB ∨ TB + 1 < TO) (hd : d < 33) (hm : mm ≤ d) : ∀ (k : Nat) (i : Nat) (S : mp_M) (H : Heap) (locs : List Loc) (ls : Array Slot), i + k = d + 1 → S oo = some (TO, .inr (1, [.ref oa, .int (nI d)])) → S oa = some ((TO + 1), .inl ((g 0), 33, .inl (fun j => nI ((qtI mm d D9 i) j).val))) → S bo = some (TB, .inr (1, [.ref ba, .int (nI mm)])) → S ba = some ((TB + 1), .inl ((g 0), 33, .inl (fun j => nI (b j).val))) → (∀ b t e9, B b = some (t, e9) → (t ≠ TO) → (t ≠ TO + 1) → S b = some (t, e9)) → mp_I D classes A s.heap S H locs → lv_has ls 4 [(3, .int (nI i)), (2, .int (nI (d - mm))), (1, .ref bo), (0, .ref oo)] → (∀ (S : mp_M) (H : Heap) (locs : List Loc) (ls : Array Slot), S oo = some (TO, .inr (1, [.ref oa, .int (nI d)])) → S oa = some ((TO + 1), .inl ((g 0), 33, .inl (fun j => nI ((qtI mm d D9 (d + 1)) j).val))) → S bo = some (TB, .inr (1, [.ref ba, .int (nI mm)])) → S ba = some ((TB + 1), .inl ((g 0), 33, .inl (fun j => nI (b j).val))) → (∀ b t e9, B b = some (t, e9) → (t ≠ TO) → (t ≠ TO + 1) → S b = some (t, e9)) → mp_I D classes A s.heap S H locs → lv_has ls 4 [(3, .int (nI (d + 1))), (2, .int (nI (d - mm))), (1, .ref bo), (0, .ref oo)] → W p l e R s m args below meth c H locs cells slots Q (F0 m 77 ls [])) → W p l e R s m args below meth c H locs cells slots Q (F0 m 37 ls []) := by
  intro k
  induction k with
  | zero =>
    intro i S H locs ls hi h_oo h_oa h_bo h_ba hfr hI hl kx
    refine lv_iload_n hx hb d_O_becomeQuotient_37 rfl (lv_at hl 0 rfl) ?_
    refine lv_aload_n hx hb d_O_becomeQuotient_38 rfl (lv_at hl 3 rfl) ?_
    refine mp_get (C := R_O) (T := F_O) (N := 2) (v := .int (nI d)) hx hb hg i_O hown hK.va hI h_oo rfl 1 (by decide) (hg _ q_138) (fun _ h9 => h9) rfl d_O_becomeQuotient_39 ?_
    refine lv_icmp_gt (tgt := 77) hx hb d_O_becomeQuotient_42 (by decide) (fun _ => ?_) (fun h9 => absurd ((nI_ltI (by omega) (by omega)).mpr (by omega)) h9)
    obtain rfl : i = d + 1 := by omega
    exact kx S H locs ls h_oo h_oa h_bo h_ba hfr hI (lv_sub hl [0, 1, 2, 3] rfl)
  | succ k ih =>
    intro i S H locs ls hi h_oo h_oa h_bo h_ba hfr hI hl kx
    refine lv_iload_n hx hb d_O_becomeQuotient_37 rfl (lv_at hl 0 rfl) ?_
    refine lv_aload_n hx hb d_O_becomeQuotient_38 rfl (lv_at hl 3 rfl) ?_
    refine mp_get (C := R_O) (T := F_O) (N := 2) (v := .int (nI d)) hx hb hg i_O hown hK.va hI h_oo rfl 1 (by decide) (hg _ q_138) (fun _ h9 => h9) rfl d_O_becomeQuotient_39 ?_
    refine lv_icmp_gt (tgt := 77) hx hb d_O_becomeQuotient_42 (by decide) (fun h9 => absurd h9 (by rw [nI_ltI (by omega) (by omega)]; omega)) (fun _ => ?_)
    refine lv_aload_n hx hb d_O_becomeQuotient_45 rfl (lv_at hl 3 rfl) ?_
    refine mp_get (C := R_O) (T := F_O) (N := 2) (v := .ref oa) hx hb hg i_O hown hK.va hI h_oo rfl 0 (by decide) (hg _ q_136) (fun _ h9 => h9) rfl d_O_becomeQuotient_46 ?_
    refine lv_iload_n hx hb d_O_becomeQuotient_49 rfl (lv_at hl 0 rfl) ?_
    refine lv_iload_n hx hb d_O_becomeQuotient_50 rfl (lv_at hl 0 rfl) ?_
    refine lv_iload_n hx hb d_O_becomeQuotient_51 rfl (lv_at hl 1 rfl) ?_
    refine lv_icmp_gt (tgt := 69) hx hb d_O_becomeQuotient_52 (by decide) (fun c1 => ?_) (fun c1 => ?_)
    · rw [nI_ltI (by omega) (by omega)] at c1
      refine lv_iconst (v := nI 0) hx hb d_O_becomeQuotient_69 (by decide) ?_
      refine mp_iast hx hb hK.va hI 0 h_oa rfl (vp_in_nI (show i < 33 by omega) (by omega)) d_O_becomeQuotient_70 (fun S1 H2 locs e_3 hI => ?_)
      have h_oa_o := h_oa
      have e_3 : S1 = va_up S oa (some ((TO + 1), .inl ((g 0), 33, .inl (upd (fun j => nI ((qtI mm d D9 i) j).val) (nI i).toNatClampNeg (nI 0))))) := e_3
      have h_oo : S1 oo = some (TO, .inr (1, [.ref oa, .int (nI d)])) := by rw [e_3]; exact mp_keep h_oo h_oa (by omega)
      have h_bo : S1 bo = some (TB, .inr (1, [.ref ba, .int (nI mm)])) := by rw [e_3]; exact mp_keep h_bo h_oa (by omega)
      have h_ba : S1 ba = some ((TB + 1), .inl ((g 0), 33, .inl (fun j => nI (b j).val))) := by rw [e_3]; exact mp_keep h_ba h_oa (by omega)
      have h_oa : S1 oa = some ((TO + 1), .inl ((g 0), 33, .inl (upd (fun j => nI ((qtI mm d D9 i) j).val) (nI i).toNatClampNeg (nI 0)))) := by rw [e_3]; exact mp_us _ _ _
      have hfr : ∀ b t e9, B b = some (t, e9) → (t ≠ TO) → (t ≠ TO + 1) → S1 b = some (t, e9) := fun b t e9 h9 k0 k1 => by rw [e_3]; exact mp_keep (hfr b t e9 h9 k0 k1) h_oa_o (by omega)
      have h_oa := h_oa
      rw [nI_clamp (by omega), nIv_up0] at h_oa
      have e9h_oa : (fun j => nI (va_up (qtI mm d D9 i) i 0 j).val) = (fun j => nI ((qtI mm d D9 (i + 1)) j).val) := by rw [qtI_n (by omega)]
      rw [e9h_oa] at h_oa
      refine lv_iinc (v := nI (i + 1)) (lv' := [(3, .int (nI (i + 1))), (2, .int (nI (d - mm))), (1, .ref bo), (0, .ref oo)]) hx hb d_O_becomeQuotient_71 hl (k := 0) rfl (nI_1 _) (by decide) rfl (fun ls hl => ?_)
      refine lv_goto (tgt := 37) hx hb d_O_becomeQuotient_74 (by decide) ?_
      exact ih (i + 1) S1 H2 locs ls (by omega) h_oo h_oa h_bo h_ba hfr hI (lv_sub hl [0, 1, 2, 3] rfl) kx
    · rw [nI_ltI (by omega) (by omega)] at c1
      refine lv_aload_n hx hb d_O_becomeQuotient_55 rfl (lv_at hl 3 rfl) ?_
      refine mp_get (C := R_O) (T := F_O) (N := 2) (v := .ref oa) hx hb hg i_O hown hK.va hI h_oo rfl 0 (by decide) (hg _ q_136) (fun _ h9 => h9) rfl d_O_becomeQuotient_56 ?_
      refine lv_iload_n hx hb d_O_becomeQuotient_59 rfl (lv_at hl 0 rfl) ?_
      refine lv_aload_n hx hb d_O_becomeQuotient_60 rfl (lv_at hl 2 rfl) ?_
      refine mp_get (C := R_O) (T := F_O) (N := 2) (v := .int (nI mm)) hx hb hg i_O hown hK.va hI h_bo rfl 1 (by decide) (hg _ q_138) (fun _ h9 => h9) rfl d_O_becomeQuotient_61 ?_
      refine lv_iadd hx hb d_O_becomeQuotient_64 ?_
      refine lv_topi (fun v4 ev4 => ?_)
      obtain rfl : v4 = nI (i + mm) := ev4.trans (nI_add _ _)
      refine mp_iald hx hb hK.va hI 0 h_oa rfl (vp_in_nI (show i + mm < 33 by omega) (by omega)) d_O_becomeQuotient_65 ?_
      refine lv_topi (fun v5 ev5 => ?_)
      obtain rfl : v5 = nI (D9 (i + mm)).val := ev5.trans (by rw [nI_clamp (by omega), qtI_g (by omega)])
      refine lv_goto (tgt := 70) hx hb d_O_becomeQuotient_66 (by decide) ?_
      refine mp_iast hx hb hK.va hI 0 h_oa rfl (vp_in_nI (show i < 33 by omega) (by omega)) d_O_becomeQuotient_70 (fun S6 H7 locs e_8 hI => ?_)
      have h_oa_o := h_oa
      have e_8 : S6 = va_up S oa (some ((TO + 1), .inl ((g 0), 33, .inl (upd (fun j => nI ((qtI mm d D9 i) j).val) (nI i).toNatClampNeg (nI (D9 (i + mm)).val))))) := e_8
      have h_oo : S6 oo = some (TO, .inr (1, [.ref oa, .int (nI d)])) := by rw [e_8]; exact mp_keep h_oo h_oa (by omega)
      have h_bo : S6 bo = some (TB, .inr (1, [.ref ba, .int (nI mm)])) := by rw [e_8]; exact mp_keep h_bo h_oa (by omega)
      have h_ba : S6 ba = some ((TB + 1), .inl ((g 0), 33, .inl (fun j => nI (b j).val))) := by rw [e_8]; exact mp_keep h_ba h_oa (by omega)
      have h_oa : S6 oa = some ((TO + 1), .inl ((g 0), 33, .inl (upd (fun j => nI ((qtI mm d D9 i) j).val) (nI i).toNatClampNeg (nI (D9 (i + mm)).val)))) := by rw [e_8]; exact mp_us _ _ _
      have hfr : ∀ b t e9, B b = some (t, e9) → (t ≠ TO) → (t ≠ TO + 1) → S6 b = some (t, e9) := fun b t e9 h9 k0 k1 => by rw [e_8]; exact mp_keep (hfr b t e9 h9 k0 k1) h_oa_o (by omega)
      rw [nI_clamp (by omega), nIv_up] at h_oa
      have e9h_oa : (fun j => nI (va_up (qtI mm d D9 i) i (D9 (i + mm)) j).val) = (fun j => nI ((qtI mm d D9 (i + 1)) j).val) := by rw [qtI_y (by omega)]
      rw [e9h_oa] at h_oa
      refine lv_iinc (v := nI (i + 1)) (lv' := [(3, .int (nI (i + 1))), (2, .int (nI (d - mm))), (1, .ref bo), (0, .ref oo)]) hx hb d_O_becomeQuotient_71 hl (k := 0) rfl (nI_1 _) (by decide) rfl (fun ls hl => ?_)
      refine lv_goto (tgt := 37) hx hb d_O_becomeQuotient_74 (by decide) ?_
      exact ih (i + 1) S6 H7 locs ls (by omega) h_oo h_oa h_bo h_ba hfr hI (lv_sub hl [0, 1, 2, 3] rfl) kx
set_option maxHeartbeats 4000000 in
set_option maxRecDepth 100000 in
/-- the quotient -/
theorem c_O_quo (l : Launch) (D : mp_G) (g : Nat → ClassId) (S : mp_M) (sz : Nat) (oo oa TO : Nat) (cf : Nat → fF) (bo ba TB mm : Nat) (b : Nat → fF) (d : Nat) (h_oo : S oo = some (TO, .inr (1, [.ref oa, .int (nI d)]))) (h_oa : S oa = some ((TO + 1), .inl ((g 0), 33, .inl (fun j => nI (cf j).val)))) (h_bo : S bo = some (TB, .inr (1, [.ref ba, .int (nI mm)]))) (h_ba : S ba = some ((TB + 1), .inl ((g 0), 33, .inl (fun j => nI (b j).val)))) (hlab : TO + 1 < TB ∨ TB + 1 < TO) (hd : d < 33) (hm : mm ≤ d) (hm1 : 1 ≤ mm) : Met l y_O_becomeQuotient w_O_becomeQuotient ({ frames := 1, cells := 0, slots := 0, locals := 24 }) (va_Pc [.ref oo, .ref bo] (mp_B0 D classes (tys g) S sz)) (va_Qv (fun (S1 : mp_M) => S1 oo = some (TO, .inr (1, [.ref oa, .int (nI (d - mm))])) ∧ S1 oa = some ((TO + 1), .inl ((g 0), 33, .inl (fun j => nI ((qtI mm d (dvA mm b (d + 1 - mm) cf) (d + 1)) j).val))) ∧ (∀ b t e9, S b = some (t, e9) → (t ≠ TO) → (t ≠ TO + 1) → S1 b = some (t, e9))) (mp_B1 D classes S sz) (mp_A S sz)) 0 0 (mp_A S sz) := by
  refine Met.ofW (cc := b_O_becomeQuotient) (maxL := 4) (ret := none) (by decide) rfl ?_
  intro p e s m args below meth c s₁ B hml hv
  obtain ⟨rfl, hsz, hH, hK⟩ := hv
  have hx := B.exec
  have hb := B.bytes
  have hr := B.returns
  have hts := atoms_spec (ws := w_O_becomeQuotient) B.pre
  have hg : ∀ w ∈ gw, w.before _ s = true := fun w h => hts w (List.mem_cons_of_mem _ h)
  have hown : s.vm.findClass R_O = some m.cls := findClass_of_methodNamed B.named
  have hlocks := B.notSynchronized
  subst hsz
  have hI := mp_I.start hH
  have hl := lv_entry ([.ref oo, .ref bo]) (n := 4) (Nat.le_of_ble_eq_true rfl)
  rw [lg_entry_eq]
  generalize (lg_sl ([.ref oo, .ref bo]) ++ List.replicate (4 - (lg_sl ([.ref oo, .ref bo])).length) Slot.unset).toArray = ls at hl ⊢
  have hl : lv_has ls 4 [(0, .ref oo), (1, .ref bo)] := hl
  have hfr : ∀ b t e9, S b = some (t, e9) → (t ≠ TO) → (t ≠ TO + 1) → S b = some (t, e9) := fun _ _ _ h9 _ _ => h9
  refine lv_aload_n hx hb d_O_becomeQuotient_0 rfl (lv_at hl 1 rfl) ?_
  refine mp_get (C := R_O) (T := F_O) (N := 2) (v := .int (nI mm)) hx hb hg i_O hown hK.va hI h_bo rfl 1 (by decide) (hg _ q_138) (fun _ h9 => h9) rfl d_O_becomeQuotient_1 ?_
  refine lv_iconst (v := nI 1) hx hb d_O_becomeQuotient_4 (by decide) ?_
  refine lv_icmp_lt (tgt := 19) hx hb d_O_becomeQuotient_5 (by decide) (fun h9 => absurd h9 (by rw [nI_ltI (by omega) (by omega)]; omega)) (fun _ => ?_)
  refine lv_aload_n hx hb d_O_becomeQuotient_8 rfl (lv_at hl 1 rfl) ?_
  refine mp_get (C := R_O) (T := F_O) (N := 2) (v := .int (nI mm)) hx hb hg i_O hown hK.va hI h_bo rfl 1 (by decide) (hg _ q_138) (fun _ h9 => h9) rfl d_O_becomeQuotient_9 ?_
  refine lv_aload_n hx hb d_O_becomeQuotient_12 rfl (lv_at hl 0 rfl) ?_
  refine mp_get (C := R_O) (T := F_O) (N := 2) (v := .int (nI d)) hx hb hg i_O hown hK.va hI h_oo rfl 1 (by decide) (hg _ q_138) (fun _ h9 => h9) rfl d_O_becomeQuotient_13 ?_
  refine lv_icmp_le (tgt := 20) hx hb d_O_becomeQuotient_16 (by decide) (fun _ => ?_) (fun h9 => absurd ((nI_leI (by omega) (by omega)).mpr (by omega)) h9)
  refine lv_aload_n hx hb d_O_becomeQuotient_20 rfl (lv_at hl 0 rfl) ?_
  refine lv_aload_n hx hb d_O_becomeQuotient_21 rfl (lv_at hl 1 rfl) ?_
  refine mp_callv hI (va_runV (As := [.ref bo]) (rest := []) ⟨hx, hb, hml, hown, hg⟩ (c_O_divide l D g S _ oo oa TO cf bo ba TB mm b d h_oo h_oa h_bo h_ba hlab hd hm) ⟨(callB_of 1 hg (wd_goodG q_451) rfl rfl rfl (hg _ q_18) (hg _ q_448) (by decide +kernel) ⟨Nat.le_of_ble_eq_true rfl, Nat.le_of_ble_eq_true rfl⟩), hg _ q_450, hg _ qs_12⟩ (mp_preV (C := R_O) (T := F_O) hI hK h_oo rfl [.ref bo]) rfl rfl hl.1 rfl (lv_room (Nat.le_of_ble_eq_true rfl)) d_O_becomeQuotient_22 ⟨Nat.le_of_ble_eq_true rfl, Nat.le_of_ble_eq_true rfl⟩) (fun S1 H2 locs p_3 hI => ?_)
  obtain ⟨q_oa, fq⟩ := p_3
  have h_oo : S1 oo = some (TO, .inr (1, [.ref oa, .int (nI d)])) := fq oo _ _ h_oo (by omega)
  have h_bo : S1 bo = some (TB, .inr (1, [.ref ba, .int (nI mm)])) := fq bo _ _ h_bo (by omega)
  have h_ba : S1 ba = some ((TB + 1), .inl ((g 0), 33, .inl (fun j => nI (b j).val))) := fq ba _ _ h_ba (by omega)
  have hfr : ∀ b t e9, S b = some (t, e9) → (t ≠ TO) → (t ≠ TO + 1) → S1 b = some (t, e9) := fun b t e9 h9 k0 k1 => by have h8 := hfr b t e9 h9 k0 k1; exact fq b _ _ h8 (by omega)
  have h_oa := q_oa
  refine lv_aload_n hx hb d_O_becomeQuotient_25 rfl (lv_at hl 0 rfl) ?_
  refine mp_get (C := R_O) (T := F_O) (N := 2) (v := .int (nI d)) hx hb hg i_O hown hK.va hI h_oo rfl 1 (by decide) (hg _ q_138) (fun _ h9 => h9) rfl d_O_becomeQuotient_26 ?_
  refine lv_aload_n hx hb d_O_becomeQuotient_29 rfl (lv_at hl 1 rfl) ?_
  refine mp_get (C := R_O) (T := F_O) (N := 2) (v := .int (nI mm)) hx hb hg i_O hown hK.va hI h_bo rfl 1 (by decide) (hg _ q_138) (fun _ h9 => h9) rfl d_O_becomeQuotient_30 ?_
  refine lv_isub hx hb d_O_becomeQuotient_33 ?_
  refine lv_topi (fun v5 ev5 => ?_)
  obtain rfl : v5 = nI (d - mm) := ev5.trans (pk_sub (by omega))
  refine lv_istore_n (lv' := [(2, .int (nI (d - mm))), (0, .ref oo), (1, .ref bo)]) hx hb d_O_becomeQuotient_34 rfl hl (by decide) rfl (fun ls hl => ?_)
  refine lv_iconst (v := nI 0) hx hb d_O_becomeQuotient_35 (by decide) ?_
  refine lv_istore_n (lv' := [(3, .int (nI 0)), (2, .int (nI (d - mm))), (0, .ref oo), (1, .ref bo)]) hx hb d_O_becomeQuotient_36 rfl hl (by decide) rfl (fun ls hl => ?_)
  rw [← qtI_0 mm d (dvA mm b (d + 1 - mm) cf)] at h_oa
  refine lp_O_quo (B := S) (oo := oo) (oa := oa) (TO := TO) (bo := bo) (ba := ba) (TB := TB) (mm := mm) (b := b) (d := d) (D9 := (dvA mm b (d + 1 - mm) cf)) hx hb hml hg hown hK (Nat.le_of_ble_eq_true rfl) (Nat.le_of_ble_eq_true rfl) (Nat.le_of_ble_eq_true rfl) (Nat.le_of_ble_eq_true rfl) hlab hd hm (d + 1) 0 S1 H2 _ ls (by omega) h_oo h_oa h_bo h_ba hfr hI (lv_sub hl [0, 1, 3, 2] rfl) (fun S6 H7 locs ls j_oo j_oa j_bo j_ba hfr hI hl => ?_)
  refine lv_aload_n hx hb d_O_becomeQuotient_77 rfl (lv_at hl 3 rfl) ?_
  refine lv_iload_n hx hb d_O_becomeQuotient_78 rfl (lv_at hl 1 rfl) ?_
  refine mp_put (C := R_O) (T := F_O) (N := 2) (v := .int (nI (d - mm))) (ty := .int) hx hb hg i_O t_O t_O_ok n_O hown hK.va hI j_oo rfl 1 (by decide) (hg _ q_138) (fun _ h9 => h9) rfl (by decide +kernel) (rfl) rfl (Nat.le_of_ble_eq_true rfl) d_O_becomeQuotient_79 (fun S8 H9 locs e_10 hI => ?_)
  have j_oo_o := j_oo
  have e_10 : S8 = va_up S6 oo (some (TO, .inr (1, [.ref oa, .int (nI (d - mm))]))) := e_10
  have j_oa : S8 oa = some ((TO + 1), .inl ((g 0), 33, .inl (fun j => nI ((qtI mm d (dvA mm b (d + 1 - mm) cf) (d + 1)) j).val))) := by rw [e_10]; exact mp_keep j_oa j_oo (by omega)
  have j_bo : S8 bo = some (TB, .inr (1, [.ref ba, .int (nI mm)])) := by rw [e_10]; exact mp_keep j_bo j_oo (by omega)
  have j_ba : S8 ba = some ((TB + 1), .inl ((g 0), 33, .inl (fun j => nI (b j).val))) := by rw [e_10]; exact mp_keep j_ba j_oo (by omega)
  have j_oo : S8 oo = some (TO, .inr (1, [.ref oa, .int (nI (d - mm))])) := by rw [e_10]; exact mp_us _ _ _
  have hfr : ∀ b t e9, S b = some (t, e9) → (t ≠ TO) → (t ≠ TO + 1) → S8 b = some (t, e9) := fun b t e9 h9 k0 k1 => by rw [e_10]; exact mp_keep (hfr b t e9 h9 k0 k1) j_oo_o (by omega)
  refine mp_vret hx hb hr hlocks hI (Nat.le_of_ble_eq_true rfl) (Nat.le_of_ble_eq_true rfl) ?_ d_O_becomeQuotient_82
  exact ⟨j_oo, j_oa, hfr⟩
