theorem cpyF (a b : Nat → fF) (n : Nat) : va_cpy (fun j => nI (a j).val) (fun j => nI (b j).val) 0 0 n = fun j => nI (mgF n a b j).val := by
  funext j
  by_cases e : j < n
  · rw [mgF_lt e]; unfold va_cpy; rw [if_pos (by omega)]; congr 3; omega
  · rw [mgF_ge e]; unfold va_cpy; rw [if_neg (by omega)]
theorem zR_t (n : Nat) : trn n zR := fun _ _ => rfl
def asg (nd : Nat) (f : Nat → fF) : Nat → fF := fun k => if k ≤ nd then f (16 + k) else 0
theorem asg_t {nd : Nat} {f : Nat → fF} (h : nd ≤ 16) : trn 33 (asg nd f) := fun k hk => by unfold asg; rw [if_neg (by omega)]
theorem dmax {n e : Nat} (hn : n ≤ 33) (he : e ≤ 1) : (if nI n + -1 < nI e then nI e else nI n + -1) = nI (max n (e + 1)) + -1 := by
  cases n with
  | zero =>
    rw [show max 0 (e + 1) = e + 1 by omega, nI_dec]
    rcases (show e = 0 ∨ e = 1 by omega) with rfl | rfl <;> decide
  | succ k =>
    rw [nI_dec, show max (k + 1) (e + 1) = max k e + 1 by omega, nI_dec]
    by_cases q : k < e
    · rw [if_pos ((nI_ltI (by omega) (by omega)).mpr q), Nat.max_eq_right (by omega)]
    · rw [if_neg (fun h => q ((nI_ltI (by omega) (by omega)).mp h)), Nat.max_eq_left (by omega)]
def sqF (d : Nat) (c : Nat → fF) (t : Nat) : Nat → fF := fun q => if t ≤ q ∧ q ≤ 2 * d then sqN d c q else c q
theorem sqF_top {d : Nat} {c : Nat → fF} : sqF d c (2 * d + 1) = c := by funext q; unfold sqF; rw [if_neg (by omega)]
theorem sqF_lo {d : Nat} {c : Nat → fF} {t q : Nat} (h : q < t) : sqF d c t q = c q := by unfold sqF; rw [if_neg (by omega)]
theorem sqF_up {d : Nat} {c : Nat → fF} {t : Nat} (h : t ≤ 2 * d) : va_up (sqF d c (t + 1)) t (sqN d c t) = sqF d c t := by
  funext q
  by_cases e : q = t
  · rw [e, mp_us]; unfold sqF; rw [if_pos (by omega)]
  · rw [mp_un e]; unfold sqF
    by_cases w : t ≤ q ∧ q ≤ 2 * d
    · rw [if_pos w, if_pos (by omega)]
    · rw [if_neg w, if_neg (by omega)]
theorem sqN_hi {d q : Nat} {c : Nat → fF} (h : 2 * d < q) : sqN d c q = 0 := by unfold sqN; exact sm_z (fun k _ => by rw [if_neg (by omega)])
theorem sqF_0 {d : Nat} {c : Nat → fF} (h : ∀ k, d < k → c k = 0) : sqF d c 0 = sqN d c := by
  funext q; unfold sqF
  by_cases w : 0 ≤ q ∧ q ≤ 2 * d
  · rw [if_pos w]
  · rw [if_neg w, sqN_hi (by omega), h q (by omega)]
theorem dsubmax {k d : Nat} (hk : k < 100) (hd : d < 100) : (if nI 0 < nI k - nI d then nI k - nI d else nI 0) = nI (k - d) := by
  by_cases q : d ≤ k
  · have e : nI k - nI d = nI (k - d) := pk_sub q
    rw [e]
    by_cases w : 0 < k - d
    · rw [if_pos ((nI_ltI (by omega) (by omega)).mpr w)]
    · rw [if_neg (fun h => w ((nI_ltI (by omega) (by omega)).mp h)), show k - d = 0 by omega]
  · rw [show k - d = 0 by omega, if_neg]
    have e : nI k - nI d = - nI (d - k) := by
      have h1 : nI d - nI k = nI (d - k) := pk_sub (by omega)
      rw [← h1, Int32.neg_sub]
    rw [e]
    have : ∀ j : Nat, j < 100 → ¬ nI 0 < - nI j := by decide +kernel
    exact this _ (by omega)
theorem sq_b {x i a b : Nat} (h : x ≤ i * 1024128004) (ha : a ≤ 32002) (hb : b ≤ 32002) : x + a * b ≤ (i + 1) * 1024128004 := by
  have := Nat.mul_le_mul ha hb
  rw [Nat.succ_mul]; omega
theorem sqN_end {d e : Nat} {c : Nat → fF} : sm (min d e + 1) (fun k => if k < d + 1 ∧ e - k < d + 1 then c k * c (e - k) else 0) = sqN d c e := by
  unfold sqN
  exact (sm_le (by omega) (fun k h1 h2 => by rw [if_neg (by omega)])).symm

theorem d_A_fill_0 : decode b_A_fill 0 = .ok (.iconst 0, 1) := by decide +kernel
theorem d_A_fill_1 : decode b_A_fill 1 = .ok (.istore_n 2, 1) := by decide +kernel
theorem d_A_fill_2 : decode b_A_fill 2 = .ok (.aload_n 0, 1) := by decide +kernel
theorem d_A_fill_3 : decode b_A_fill 3 = .ok (.arraylength, 1) := by decide +kernel
theorem d_A_fill_4 : decode b_A_fill 4 = .ok (.istore_n 3, 1) := by decide +kernel
theorem d_A_fill_5 : decode b_A_fill 5 = .ok (.iload_n 2, 1) := by decide +kernel
theorem d_A_fill_6 : decode b_A_fill 6 = .ok (.iload_n 3, 1) := by decide +kernel
theorem d_A_fill_7 : decode b_A_fill 7 = .ok (.if_icmp .ge 13, 3) := by decide +kernel
theorem d_A_fill_10 : decode b_A_fill 10 = .ok (.aload_n 0, 1) := by decide +kernel
theorem d_A_fill_11 : decode b_A_fill 11 = .ok (.iload_n 2, 1) := by decide +kernel
theorem d_A_fill_12 : decode b_A_fill 12 = .ok (.iload_n 1, 1) := by decide +kernel
theorem d_A_fill_13 : decode b_A_fill 13 = .ok (.iastore, 1) := by decide +kernel
theorem d_A_fill_14 : decode b_A_fill 14 = .ok (.iinc 2 1, 3) := by decide +kernel
theorem d_A_fill_17 : decode b_A_fill 17 = .ok (.goto (-12), 3) := by decide +kernel
theorem d_A_fill_20 : decode b_A_fill 20 = .ok (.return_, 1) := by decide +kernel
theorem d_O_addTo_0 : decode b_O_addTo 0 = .ok (.iload_n 1, 1) := by decide +kernel
theorem d_O_addTo_1 : decode b_O_addTo 1 = .ok (.ifCond .lt 12, 3) := by decide +kernel
theorem d_O_addTo_4 : decode b_O_addTo 4 = .ok (.iload_n 1, 1) := by decide +kernel
theorem d_O_addTo_5 : decode b_O_addTo 5 = .ok (.aload_n 0, 1) := by decide +kernel
theorem d_O_addTo_6 : decode b_O_addTo 6 = .ok (.getfield 9, 3) := by decide +kernel
theorem d_O_addTo_9 : decode b_O_addTo 9 = .ok (.arraylength, 1) := by decide +kernel
theorem d_O_addTo_10 : decode b_O_addTo 10 = .ok (.if_icmp .lt 4, 3) := by decide +kernel
theorem d_O_addTo_14 : decode b_O_addTo 14 = .ok (.aload_n 0, 1) := by decide +kernel
theorem d_O_addTo_15 : decode b_O_addTo 15 = .ok (.getfield 9, 3) := by decide +kernel
theorem d_O_addTo_18 : decode b_O_addTo 18 = .ok (.iload_n 1, 1) := by decide +kernel
theorem d_O_addTo_19 : decode b_O_addTo 19 = .ok (.aload_n 0, 1) := by decide +kernel
theorem d_O_addTo_20 : decode b_O_addTo 20 = .ok (.getfield 9, 3) := by decide +kernel
theorem d_O_addTo_23 : decode b_O_addTo 23 = .ok (.iload_n 1, 1) := by decide +kernel
theorem d_O_addTo_24 : decode b_O_addTo 24 = .ok (.iaload, 1) := by decide +kernel
theorem d_O_addTo_25 : decode b_O_addTo 25 = .ok (.iload_n 2, 1) := by decide +kernel
theorem d_O_addTo_26 : decode b_O_addTo 26 = .ok (.iadd, 1) := by decide +kernel
theorem d_O_addTo_27 : decode b_O_addTo 27 = .ok (.sipush 32003, 3) := by decide +kernel
theorem d_O_addTo_30 : decode b_O_addTo 30 = .ok (.irem, 1) := by decide +kernel
theorem d_O_addTo_31 : decode b_O_addTo 31 = .ok (.iastore, 1) := by decide +kernel
theorem d_O_addTo_32 : decode b_O_addTo 32 = .ok (.aload_n 0, 1) := by decide +kernel
theorem d_O_addTo_33 : decode b_O_addTo 33 = .ok (.aload_n 0, 1) := by decide +kernel
theorem d_O_addTo_34 : decode b_O_addTo 34 = .ok (.getfield 15, 3) := by decide +kernel
theorem d_O_addTo_37 : decode b_O_addTo 37 = .ok (.iload_n 1, 1) := by decide +kernel
theorem d_O_addTo_38 : decode b_O_addTo 38 = .ok (.invokestatic 35, 3) := by decide +kernel
theorem d_O_addTo_41 : decode b_O_addTo 41 = .ok (.invokevirtual 19, 3) := by decide +kernel
theorem d_O_addTo_44 : decode b_O_addTo 44 = .ok (.return_, 1) := by decide +kernel
theorem d_O_assign_0 : decode b_O_assign 0 = .ok (.iconst 0, 1) := by decide +kernel
theorem d_O_assign_1 : decode b_O_assign 1 = .ok (.istore 4, 2) := by decide +kernel
theorem d_O_assign_3 : decode b_O_assign 3 = .ok (.iload 4, 2) := by decide +kernel
theorem d_O_assign_5 : decode b_O_assign 5 = .ok (.aload_n 0, 1) := by decide +kernel
theorem d_O_assign_6 : decode b_O_assign 6 = .ok (.getfield 9, 3) := by decide +kernel
theorem d_O_assign_9 : decode b_O_assign 9 = .ok (.arraylength, 1) := by decide +kernel
theorem d_O_assign_10 : decode b_O_assign 10 = .ok (.if_icmp .ge 41, 3) := by decide +kernel
theorem d_O_assign_13 : decode b_O_assign 13 = .ok (.aload_n 0, 1) := by decide +kernel
theorem d_O_assign_14 : decode b_O_assign 14 = .ok (.getfield 9, 3) := by decide +kernel
theorem d_O_assign_17 : decode b_O_assign 17 = .ok (.iload 4, 2) := by decide +kernel
theorem d_O_assign_19 : decode b_O_assign 19 = .ok (.iload 4, 2) := by decide +kernel
theorem d_O_assign_21 : decode b_O_assign 21 = .ok (.iload_n 3, 1) := by decide +kernel
theorem d_O_assign_22 : decode b_O_assign 22 = .ok (.if_icmp .gt 21, 3) := by decide +kernel
theorem d_O_assign_25 : decode b_O_assign 25 = .ok (.iload_n 2, 1) := by decide +kernel
theorem d_O_assign_26 : decode b_O_assign 26 = .ok (.iload 4, 2) := by decide +kernel
theorem d_O_assign_28 : decode b_O_assign 28 = .ok (.iadd, 1) := by decide +kernel
theorem d_O_assign_29 : decode b_O_assign 29 = .ok (.aload_n 1, 1) := by decide +kernel
theorem d_O_assign_30 : decode b_O_assign 30 = .ok (.arraylength, 1) := by decide +kernel
theorem d_O_assign_31 : decode b_O_assign 31 = .ok (.if_icmp .ge 12, 3) := by decide +kernel
theorem d_O_assign_34 : decode b_O_assign 34 = .ok (.aload_n 1, 1) := by decide +kernel
theorem d_O_assign_35 : decode b_O_assign 35 = .ok (.iload_n 2, 1) := by decide +kernel
theorem d_O_assign_36 : decode b_O_assign 36 = .ok (.iload 4, 2) := by decide +kernel
theorem d_O_assign_38 : decode b_O_assign 38 = .ok (.iadd, 1) := by decide +kernel
theorem d_O_assign_39 : decode b_O_assign 39 = .ok (.iaload, 1) := by decide +kernel
theorem d_O_assign_40 : decode b_O_assign 40 = .ok (.goto 4, 3) := by decide +kernel
theorem d_O_assign_43 : decode b_O_assign 43 = .ok (.iconst 0, 1) := by decide +kernel
theorem d_O_assign_44 : decode b_O_assign 44 = .ok (.iastore, 1) := by decide +kernel
theorem d_O_assign_45 : decode b_O_assign 45 = .ok (.iinc 4 1, 3) := by decide +kernel
theorem d_O_assign_48 : decode b_O_assign 48 = .ok (.goto (-45), 3) := by decide +kernel
theorem d_O_assign_51 : decode b_O_assign 51 = .ok (.aload_n 0, 1) := by decide +kernel
theorem d_O_assign_52 : decode b_O_assign 52 = .ok (.aload_n 0, 1) := by decide +kernel
theorem d_O_assign_53 : decode b_O_assign 53 = .ok (.getfield 9, 3) := by decide +kernel
theorem d_O_assign_56 : decode b_O_assign 56 = .ok (.arraylength, 1) := by decide +kernel
theorem d_O_assign_57 : decode b_O_assign 57 = .ok (.iconst 1, 1) := by decide +kernel
theorem d_O_assign_58 : decode b_O_assign 58 = .ok (.isub, 1) := by decide +kernel
theorem d_O_assign_59 : decode b_O_assign 59 = .ok (.invokevirtual 19, 3) := by decide +kernel
theorem d_O_assign_62 : decode b_O_assign 62 = .ok (.return_, 1) := by decide +kernel
theorem d_O_copy_0 : decode b_O_copy 0 = .ok (.aload_n 1, 1) := by decide +kernel
theorem d_O_copy_1 : decode b_O_copy 1 = .ok (.getfield 9, 3) := by decide +kernel
theorem d_O_copy_4 : decode b_O_copy 4 = .ok (.iconst 0, 1) := by decide +kernel
theorem d_O_copy_5 : decode b_O_copy 5 = .ok (.aload_n 0, 1) := by decide +kernel
theorem d_O_copy_6 : decode b_O_copy 6 = .ok (.getfield 9, 3) := by decide +kernel
theorem d_O_copy_9 : decode b_O_copy 9 = .ok (.iconst 0, 1) := by decide +kernel
theorem d_O_copy_10 : decode b_O_copy 10 = .ok (.aload_n 0, 1) := by decide +kernel
theorem d_O_copy_11 : decode b_O_copy 11 = .ok (.getfield 9, 3) := by decide +kernel
theorem d_O_copy_14 : decode b_O_copy 14 = .ok (.arraylength, 1) := by decide +kernel
theorem d_O_copy_15 : decode b_O_copy 15 = .ok (.invokestatic 23, 3) := by decide +kernel
theorem d_O_copy_18 : decode b_O_copy 18 = .ok (.aload_n 0, 1) := by decide +kernel
theorem d_O_copy_19 : decode b_O_copy 19 = .ok (.aload_n 1, 1) := by decide +kernel
theorem d_O_copy_20 : decode b_O_copy 20 = .ok (.getfield 15, 3) := by decide +kernel
theorem d_O_copy_23 : decode b_O_copy 23 = .ok (.putfield 15, 3) := by decide +kernel
theorem d_O_copy_26 : decode b_O_copy 26 = .ok (.return_, 1) := by decide +kernel
theorem d_O_square_0 : decode b_O_square 0 = .ok (.aload_n 0, 1) := by decide +kernel
theorem d_O_square_1 : decode b_O_square 1 = .ok (.getfield 15, 3) := by decide +kernel
theorem d_O_square_4 : decode b_O_square 4 = .ok (.ifCond .lt 17, 3) := by decide +kernel
theorem d_O_square_7 : decode b_O_square 7 = .ok (.iconst 2, 1) := by decide +kernel
theorem d_O_square_8 : decode b_O_square 8 = .ok (.aload_n 0, 1) := by decide +kernel
theorem d_O_square_9 : decode b_O_square 9 = .ok (.getfield 15, 3) := by decide +kernel
theorem d_O_square_12 : decode b_O_square 12 = .ok (.imul, 1) := by decide +kernel
theorem d_O_square_13 : decode b_O_square 13 = .ok (.aload_n 0, 1) := by decide +kernel
theorem d_O_square_14 : decode b_O_square 14 = .ok (.getfield 9, 3) := by decide +kernel
theorem d_O_square_17 : decode b_O_square 17 = .ok (.arraylength, 1) := by decide +kernel
theorem d_O_square_18 : decode b_O_square 18 = .ok (.if_icmp .lt 4, 3) := by decide +kernel
theorem d_O_square_22 : decode b_O_square 22 = .ok (.iconst 2, 1) := by decide +kernel
theorem d_O_square_23 : decode b_O_square 23 = .ok (.aload_n 0, 1) := by decide +kernel
theorem d_O_square_24 : decode b_O_square 24 = .ok (.getfield 15, 3) := by decide +kernel
theorem d_O_square_27 : decode b_O_square 27 = .ok (.imul, 1) := by decide +kernel
theorem d_O_square_28 : decode b_O_square 28 = .ok (.istore_n 1, 1) := by decide +kernel
theorem d_O_square_29 : decode b_O_square 29 = .ok (.iload_n 1, 1) := by decide +kernel
theorem d_O_square_30 : decode b_O_square 30 = .ok (.ifCond .lt 78, 3) := by decide +kernel
theorem d_O_square_33 : decode b_O_square 33 = .ok (.lconst 0, 1) := by decide +kernel
theorem d_O_square_34 : decode b_O_square 34 = .ok (.lstore_n 2, 1) := by decide +kernel
theorem d_O_square_35 : decode b_O_square 35 = .ok (.iconst 0, 1) := by decide +kernel
theorem d_O_square_36 : decode b_O_square 36 = .ok (.iload_n 1, 1) := by decide +kernel
theorem d_O_square_37 : decode b_O_square 37 = .ok (.aload_n 0, 1) := by decide +kernel
theorem d_O_square_38 : decode b_O_square 38 = .ok (.getfield 15, 3) := by decide +kernel
theorem d_O_square_41 : decode b_O_square 41 = .ok (.isub, 1) := by decide +kernel
theorem d_O_square_42 : decode b_O_square 42 = .ok (.invokestatic 35, 3) := by decide +kernel
theorem d_O_square_45 : decode b_O_square 45 = .ok (.istore 4, 2) := by decide +kernel
theorem d_O_square_47 : decode b_O_square 47 = .ok (.iload 4, 2) := by decide +kernel
theorem d_O_square_49 : decode b_O_square 49 = .ok (.aload_n 0, 1) := by decide +kernel
theorem d_O_square_50 : decode b_O_square 50 = .ok (.getfield 15, 3) := by decide +kernel
theorem d_O_square_53 : decode b_O_square 53 = .ok (.if_icmp .gt 37, 3) := by decide +kernel
theorem d_O_square_56 : decode b_O_square 56 = .ok (.iload 4, 2) := by decide +kernel
theorem d_O_square_58 : decode b_O_square 58 = .ok (.iload_n 1, 1) := by decide +kernel
theorem d_O_square_59 : decode b_O_square 59 = .ok (.if_icmp .gt 31, 3) := by decide +kernel
theorem d_O_square_62 : decode b_O_square 62 = .ok (.lload_n 2, 1) := by decide +kernel
theorem d_O_square_63 : decode b_O_square 63 = .ok (.aload_n 0, 1) := by decide +kernel
theorem d_O_square_64 : decode b_O_square 64 = .ok (.getfield 9, 3) := by decide +kernel
theorem d_O_square_67 : decode b_O_square 67 = .ok (.iload 4, 2) := by decide +kernel
theorem d_O_square_69 : decode b_O_square 69 = .ok (.iaload, 1) := by decide +kernel
theorem d_O_square_70 : decode b_O_square 70 = .ok (.i2l, 1) := by decide +kernel
theorem d_O_square_71 : decode b_O_square 71 = .ok (.aload_n 0, 1) := by decide +kernel
theorem d_O_square_72 : decode b_O_square 72 = .ok (.getfield 9, 3) := by decide +kernel
theorem d_O_square_75 : decode b_O_square 75 = .ok (.iload_n 1, 1) := by decide +kernel
theorem d_O_square_76 : decode b_O_square 76 = .ok (.iload 4, 2) := by decide +kernel
theorem d_O_square_78 : decode b_O_square 78 = .ok (.isub, 1) := by decide +kernel
theorem d_O_square_79 : decode b_O_square 79 = .ok (.iaload, 1) := by decide +kernel
theorem d_O_square_80 : decode b_O_square 80 = .ok (.i2l, 1) := by decide +kernel
theorem d_O_square_81 : decode b_O_square 81 = .ok (.lmul, 1) := by decide +kernel
theorem d_O_square_82 : decode b_O_square 82 = .ok (.ladd, 1) := by decide +kernel
theorem d_O_square_83 : decode b_O_square 83 = .ok (.lstore_n 2, 1) := by decide +kernel
theorem d_O_square_84 : decode b_O_square 84 = .ok (.iinc 4 1, 3) := by decide +kernel
theorem d_O_square_87 : decode b_O_square 87 = .ok (.goto (-40), 3) := by decide +kernel
theorem d_O_square_90 : decode b_O_square 90 = .ok (.aload_n 0, 1) := by decide +kernel
theorem d_O_square_91 : decode b_O_square 91 = .ok (.getfield 9, 3) := by decide +kernel
theorem d_O_square_94 : decode b_O_square 94 = .ok (.iload_n 1, 1) := by decide +kernel
theorem d_O_square_95 : decode b_O_square 95 = .ok (.lload_n 2, 1) := by decide +kernel
theorem d_O_square_96 : decode b_O_square 96 = .ok (.ldc2_w 61, 3) := by decide +kernel
theorem d_O_square_99 : decode b_O_square 99 = .ok (.lrem, 1) := by decide +kernel
theorem d_O_square_100 : decode b_O_square 100 = .ok (.l2i, 1) := by decide +kernel
theorem d_O_square_101 : decode b_O_square 101 = .ok (.iastore, 1) := by decide +kernel
theorem d_O_square_102 : decode b_O_square 102 = .ok (.iinc 1 (-1), 3) := by decide +kernel
theorem d_O_square_105 : decode b_O_square 105 = .ok (.goto (-76), 3) := by decide +kernel
theorem d_O_square_108 : decode b_O_square 108 = .ok (.aload_n 0, 1) := by decide +kernel
theorem d_O_square_109 : decode b_O_square 109 = .ok (.iconst 2, 1) := by decide +kernel
theorem d_O_square_110 : decode b_O_square 110 = .ok (.aload_n 0, 1) := by decide +kernel
theorem d_O_square_111 : decode b_O_square 111 = .ok (.getfield 15, 3) := by decide +kernel
theorem d_O_square_114 : decode b_O_square 114 = .ok (.imul, 1) := by decide +kernel
theorem d_O_square_115 : decode b_O_square 115 = .ok (.putfield 15, 3) := by decide +kernel
theorem d_O_square_118 : decode b_O_square 118 = .ok (.return_, 1) := by decide +kernel
set_option maxHeartbeats 4000000 in
set_option maxRecDepth 100000 in
theorem lp_A_fill {p : Program} {l : Launch} {e : Env} {R : Room} {s : State} {m : MethodId} {args : Array Value} {below : List Frame} {meth : Method} {c : Code} {Q : State → Prop} {D : mp_G} {g : Nat → ClassId} {A : Nat → Prop} {cells slots : Nat} (hx : p.tables.exec = Jvm.exec) (hb : c.code = b_A_fill) (hml : c.maxLocals = 4) (hg : ∀ w ∈ gw, w.before args s = true) (hown : s.vm.findClass R_A = some m.cls) (hK : mp_K D classes (tys g) s) (hRf : 0 ≤ R.frames) (hRl : 0 ≤ R.locals) (hRc : cells ≤ R.cells) (hRs : slots ≤ R.slots) {B : mp_M} {a TA n : Nat} {v : Nat → fF} (hn : n ≤ 4096) : ∀ (k : Nat) (i : Nat) (S : mp_M) (H : Heap) (locs : List Loc) (ls : Array Slot), i + k = n → S a = some (TA, .inl ((g 0), n, .inl (fun j => nI ((mgF i zR v) j).val))) → (∀ b t e9, B b = some (t, e9) → (t ≠ TA) → S b = some (t, e9)) → mp_I D classes A s.heap S H locs → lv_has ls 4 [(3, .int (nI n)), (2, .int (nI i)), (1, .int (nI 0)), (0, .ref a)] → (∀ (S : mp_M) (H : Heap) (locs : List Loc) (ls : Array Slot), S a = some (TA, .inl ((g 0), n, .inl (fun j => nI ((mgF n zR v) j).val))) → (∀ b t e9, B b = some (t, e9) → (t ≠ TA) → S b = some (t, e9)) → mp_I D classes A s.heap S H locs → lv_has ls 4 [(3, .int (nI n)), (2, .int (nI n)), (1, .int (nI 0)), (0, .ref a)] → W p l e R s m args below meth c H locs cells slots Q (F0 m 20 ls [])) → W p l e R s m args below meth c H locs cells slots Q (F0 m 5 ls []) := by
  intro k
  induction k with
  | zero =>
    intro i S H locs ls hi h_a hfr hI hl kx
    refine lv_iload_n hx hb d_A_fill_5 rfl (lv_at hl 1 rfl) ?_
    refine lv_iload_n hx hb d_A_fill_6 rfl (lv_at hl 0 rfl) ?_
    refine lv_icmp_ge (tgt := 20) hx hb d_A_fill_7 (by decide) (fun _ => ?_) (fun h9 => absurd ((nI_leI (by omega) (by omega)).mpr (by omega)) h9)
    obtain rfl : i = n := by omega
    exact kx S H locs ls h_a hfr hI (lv_sub hl [0, 1, 2, 3] rfl)
  | succ k ih =>
    intro i S H locs ls hi h_a hfr hI hl kx
    refine lv_iload_n hx hb d_A_fill_5 rfl (lv_at hl 1 rfl) ?_
    refine lv_iload_n hx hb d_A_fill_6 rfl (lv_at hl 0 rfl) ?_
    refine lv_icmp_ge (tgt := 20) hx hb d_A_fill_7 (by decide) (fun h9 => absurd h9 (by rw [nI_leI (by omega) (by omega)]; omega)) (fun _ => ?_)
    refine lv_aload_n hx hb d_A_fill_10 rfl (lv_at hl 3 rfl) ?_
    refine lv_iload_n hx hb d_A_fill_11 rfl (lv_at hl 1 rfl) ?_
    refine lv_iload_n hx hb d_A_fill_12 rfl (lv_at hl 2 rfl) ?_
    refine mp_iast hx hb hK.va hI 0 h_a rfl (vp_in_nI (show i < n by omega) (by omega)) d_A_fill_13 (fun S1 H2 locs e_3 hI => ?_)
    have h_a_o := h_a
    have e_3 : S1 = va_up S a (some (TA, .inl ((g 0), n, .inl (upd (fun j => nI ((mgF i zR v) j).val) (nI i).toNatClampNeg (nI 0))))) := e_3
    have h_a : S1 a = some (TA, .inl ((g 0), n, .inl (upd (fun j => nI ((mgF i zR v) j).val) (nI i).toNatClampNeg (nI 0)))) := by rw [e_3]; exact mp_us _ _ _
    have hfr : ∀ b t e9, B b = some (t, e9) → (t ≠ TA) → S1 b = some (t, e9) := fun b t e9 h9 k0 => by rw [e_3]; exact mp_keep (hfr b t e9 h9 k0) h_a_o (by omega)
    have h_a := h_a
    rw [nI_clamp (by omega), nIv_up0] at h_a
    have e9h_a : (fun j => nI (va_up (mgF i zR v) i 0 j).val) = (fun j => nI ((mgF (i + 1) zR v) j).val) := by rw [← mgF_up]; rfl
    rw [e9h_a] at h_a
    refine lv_iinc (v := nI (i + 1)) (lv' := [(2, .int (nI (i + 1))), (3, .int (nI n)), (1, .int (nI 0)), (0, .ref a)]) hx hb d_A_fill_14 hl (k := 1) rfl (nI_1 _) (by decide) rfl (fun ls hl => ?_)
    refine lv_goto (tgt := 5) hx hb d_A_fill_17 (by decide) ?_
    exact ih (i + 1) S1 H2 locs ls (by omega) h_a hfr hI (lv_sub hl [1, 0, 2, 3] rfl) kx
set_option maxHeartbeats 4000000 in
set_option maxRecDepth 100000 in
/-- an array filled with 0 -/
theorem c_A_fill (l : Launch) (D : mp_G) (g : Nat → ClassId) (S : mp_M) (sz : Nat) (a TA n : Nat) (v : Nat → fF) (h_a : S a = some (TA, .inl ((g 0), n, .inl (fun j => nI (v j).val)))) (hn : n ≤ 4096) : Met l y_A_fill w_A_fill ({ frames := 0, cells := 0, slots := 0, locals := 0 }) (va_Pc [.ref a, .int (nI 0)] (mp_B0 D classes (tys g) S sz)) (va_Qv (fun (S1 : mp_M) => S1 a = some (TA, .inl ((g 0), n, .inl (fun j => nI ((mgF n zR v) j).val))) ∧ (∀ b t e9, S b = some (t, e9) → (t ≠ TA) → S1 b = some (t, e9))) (mp_B1 D classes S sz) (mp_A S sz)) 0 0 (mp_A S sz) := by
  refine Met.ofW (cc := b_A_fill) (maxL := 4) (ret := none) (by decide) rfl ?_
  intro p e s m args below meth c s₁ B hml hv
  obtain ⟨rfl, hsz, hH, hK⟩ := hv
  have hx := B.exec
  have hb := B.bytes
  have hr := B.returns
  have hts := atoms_spec (ws := w_A_fill) B.pre
  have hg : ∀ w ∈ gw, w.before _ s = true := fun w h => hts w (List.mem_cons_of_mem _ h)
  have hown : s.vm.findClass R_A = some m.cls := findClass_of_methodNamed B.named
  have hlocks := B.notSynchronized
  subst hsz
  have hI := mp_I.start hH
  have hl := lv_entry ([.ref a, .int (nI 0)]) (n := 4) (Nat.le_of_ble_eq_true rfl)
  rw [lg_entry_eq]
  generalize (lg_sl ([.ref a, .int (nI 0)]) ++ List.replicate (4 - (lg_sl ([.ref a, .int (nI 0)])).length) Slot.unset).toArray = ls at hl ⊢
  have hl : lv_has ls 4 [(0, .ref a), (1, .int (nI 0))] := hl
  have hfr : ∀ b t e9, S b = some (t, e9) → (t ≠ TA) → S b = some (t, e9) := fun _ _ _ h9 _ => h9
  refine lv_iconst (v := nI 0) hx hb d_A_fill_0 (by decide) ?_
  refine lv_istore_n (lv' := [(2, .int (nI 0)), (0, .ref a), (1, .int (nI 0))]) hx hb d_A_fill_1 rfl hl (by decide) rfl (fun ls hl => ?_)
  refine lv_aload_n hx hb d_A_fill_2 rfl (lv_at hl 1 rfl) ?_
  refine mp_alen (v := nI n) hx hb hK.va hI 0 h_a rfl rfl d_A_fill_3 ?_
  refine lv_istore_n (lv' := [(3, .int (nI n)), (2, .int (nI 0)), (0, .ref a), (1, .int (nI 0))]) hx hb d_A_fill_4 rfl hl (by decide) rfl (fun ls hl => ?_)
  rw [← mgF_0 zR v] at h_a
  refine lp_A_fill (B := S) (a := a) (TA := TA) (n := n) (v := v) hx hb hml hg hown hK (Nat.le_of_ble_eq_true rfl) (Nat.le_of_ble_eq_true rfl) (Nat.le_of_ble_eq_true rfl) (Nat.le_of_ble_eq_true rfl) hn n 0 S s.heap _ ls (by omega) h_a hfr hI (lv_sub hl [0, 1, 3, 2] rfl) (fun S1 H2 locs ls j_a hfr hI hl => ?_)
  refine mp_vret hx hb hr hlocks hI (Nat.le_of_ble_eq_true rfl) (Nat.le_of_ble_eq_true rfl) ?_ d_A_fill_20
  exact ⟨j_a, hfr⟩
set_option maxHeartbeats 4000000 in
set_option maxRecDepth 100000 in
/-- a copy -/
theorem c_O_copy (l : Launch) (D : mp_G) (g : Nat → ClassId) (S : mp_M) (sz : Nat) (oo oa TO : Nat) (cf : Nat → fF) (bo ba TB : Nat) (b : Nat → fF) (d0 db : Int32) (h_oo : S oo = some (TO, .inr (1, [.ref oa, .int d0]))) (h_oa : S oa = some ((TO + 1), .inl ((g 0), 33, .inl (fun j => nI (cf j).val)))) (h_bo : S bo = some (TB, .inr (1, [.ref ba, .int db]))) (h_ba : S ba = some ((TB + 1), .inl ((g 0), 33, .inl (fun j => nI (b j).val)))) (hlab : TO + 1 < TB ∨ TB + 1 < TO) (hc : trn 33 cf) (hb9 : trn 33 b) : Met l y_O_copy w_O_copy ({ frames := 1, cells := 0, slots := 0, locals := 60 }) (va_Pc [.ref oo, .ref bo] (mp_B0 D classes (tys g) S sz)) (va_Qv (fun (S1 : mp_M) => S1 oo = some (TO, .inr (1, [.ref oa, .int db])) ∧ S1 oa = some ((TO + 1), .inl ((g 0), 33, .inl (fun j => nI (b j).val))) ∧ (∀ b t e9, S b = some (t, e9) → (t ≠ TO) → (t ≠ TO + 1) → S1 b = some (t, e9))) (mp_B1 D classes S sz) (mp_A S sz)) 0 0 (mp_A S sz) := by
  refine Met.ofW (cc := b_O_copy) (maxL := 2) (ret := none) (by decide) rfl ?_
  intro p e s m args below meth c s₁ B hml hv
  obtain ⟨rfl, hsz, hH, hK⟩ := hv
  have hx := B.exec
  have hb := B.bytes
  have hr := B.returns
  have hts := atoms_spec (ws := w_O_copy) B.pre
  have hg : ∀ w ∈ gw, w.before _ s = true := fun w h => hts w (List.mem_cons_of_mem _ h)
  have hown : s.vm.findClass R_O = some m.cls := findClass_of_methodNamed B.named
  have hlocks := B.notSynchronized
  subst hsz
  have hI := mp_I.start hH
  have hl := lv_entry ([.ref oo, .ref bo]) (n := 2) (Nat.le_of_ble_eq_true rfl)
  rw [lg_entry_eq]
  generalize (lg_sl ([.ref oo, .ref bo]) ++ List.replicate (2 - (lg_sl ([.ref oo, .ref bo])).length) Slot.unset).toArray = ls at hl ⊢
  have hl : lv_has ls 2 [(0, .ref oo), (1, .ref bo)] := hl
  have hfr : ∀ b t e9, S b = some (t, e9) → (t ≠ TO) → (t ≠ TO + 1) → S b = some (t, e9) := fun _ _ _ h9 _ _ => h9
  refine lv_aload_n hx hb d_O_copy_0 rfl (lv_at hl 1 rfl) ?_
  refine mp_get (C := R_O) (T := F_O) (N := 2) (v := .ref ba) hx hb hg i_O hown hK.va hI h_bo rfl 0 (by decide) (hg _ q_136) (fun _ h9 => h9) rfl d_O_copy_1 ?_
  refine lv_iconst (v := nI 0) hx hb d_O_copy_4 (by decide) ?_
  refine lv_aload_n hx hb d_O_copy_5 rfl (lv_at hl 0 rfl) ?_
  refine mp_get (C := R_O) (T := F_O) (N := 2) (v := .ref oa) hx hb hg i_O hown hK.va hI h_oo rfl 0 (by decide) (hg _ q_136) (fun _ h9 => h9) rfl d_O_copy_6 ?_
  refine lv_iconst (v := nI 0) hx hb d_O_copy_9 (by decide) ?_
  refine lv_aload_n hx hb d_O_copy_10 rfl (lv_at hl 0 rfl) ?_
  refine mp_get (C := R_O) (T := F_O) (N := 2) (v := .ref oa) hx hb hg i_O hown hK.va hI h_oo rfl 0 (by decide) (hg _ q_136) (fun _ h9 => h9) rfl d_O_copy_11 ?_
  refine mp_alen (v := nI 33) hx hb hK.va hI 0 h_oa rfl rfl d_O_copy_14 ?_
  refine mp_copyi hx hb (hml.trans hl.1.symm) hown (hg _ q_464) (nat_copy hK) (hg _ q_398) (hg _ q_15) hK.va hI 0 h_ba h_oa rfl (sp := 0) (dp := 0) (n := 33) (by omega) (by omega) (by omega) (by omega) (Nat.le_of_ble_eq_true rfl) (Nat.le_of_ble_eq_true rfl) d_O_copy_15 (fun S1 H2 locs e_3 hI => ?_)
  have h_oa_o := h_oa
  have e_3 : S1 = va_up S oa (some ((TO + 1), .inl ((g 0), 33, .inl (va_cpy (fun j => nI (b j).val) (fun j => nI (cf j).val) 0 0 33)))) := e_3
  have h_oo : S1 oo = some (TO, .inr (1, [.ref oa, .int d0])) := by rw [e_3]; exact mp_keep h_oo h_oa (by omega)
  have h_bo : S1 bo = some (TB, .inr (1, [.ref ba, .int db])) := by rw [e_3]; exact mp_keep h_bo h_oa (by omega)
  have h_ba : S1 ba = some ((TB + 1), .inl ((g 0), 33, .inl (fun j => nI (b j).val))) := by rw [e_3]; exact mp_keep h_ba h_oa (by omega)
  have h_oa : S1 oa = some ((TO + 1), .inl ((g 0), 33, .inl (va_cpy (fun j => nI (b j).val) (fun j => nI (cf j).val) 0 0 33))) := by rw [e_3]; exact mp_us _ _ _
  have hfr : ∀ b t e9, S b = some (t, e9) → (t ≠ TO) → (t ≠ TO + 1) → S1 b = some (t, e9) := fun b t e9 h9 k0 k1 => by rw [e_3]; exact mp_keep (hfr b t e9 h9 k0 k1) h_oa_o (by omega)
  rw [cpyF] at h_oa
  rw [mgF_t hb9 hc] at h_oa
  refine lv_aload_n hx hb d_O_copy_18 rfl (lv_at hl 0 rfl) ?_
  refine lv_aload_n hx hb d_O_copy_19 rfl (lv_at hl 1 rfl) ?_
  refine mp_get (C := R_O) (T := F_O) (N := 2) (v := .int db) hx hb hg i_O hown hK.va hI h_bo rfl 1 (by decide) (hg _ q_138) (fun _ h9 => h9) rfl d_O_copy_20 ?_
  refine mp_put (C := R_O) (T := F_O) (N := 2) (v := .int db) (ty := .int) hx hb hg i_O t_O t_O_ok n_O hown hK.va hI h_oo rfl 1 (by decide) (hg _ q_138) (fun _ h9 => h9) rfl (by decide +kernel) (rfl) rfl (Nat.le_of_ble_eq_true rfl) d_O_copy_23 (fun S4 H5 locs e_6 hI => ?_)
  have h_oo_o := h_oo
  have e_6 : S4 = va_up S1 oo (some (TO, .inr (1, [.ref oa, .int db]))) := e_6
  have h_oa : S4 oa = some ((TO + 1), .inl ((g 0), 33, .inl (fun j => nI (b j).val))) := by rw [e_6]; exact mp_keep h_oa h_oo (by omega)
  have h_bo : S4 bo = some (TB, .inr (1, [.ref ba, .int db])) := by rw [e_6]; exact mp_keep h_bo h_oo (by omega)
  have h_ba : S4 ba = some ((TB + 1), .inl ((g 0), 33, .inl (fun j => nI (b j).val))) := by rw [e_6]; exact mp_keep h_ba h_oo (by omega)
  have h_oo : S4 oo = some (TO, .inr (1, [.ref oa, .int db])) := by rw [e_6]; exact mp_us _ _ _
  have hfr : ∀ b t e9, S b = some (t, e9) → (t ≠ TO) → (t ≠ TO + 1) → S4 b = some (t, e9) := fun b t e9 h9 k0 k1 => by rw [e_6]; exact mp_keep (hfr b t e9 h9 k0 k1) h_oo_o (by omega)
  refine mp_vret hx hb hr hlocks hI (Nat.le_of_ble_eq_true rfl) (Nat.le_of_ble_eq_true rfl) ?_ d_O_copy_26
  exact ⟨h_oo, h_oa, hfr⟩
set_option maxHeartbeats 4000000 in
set_option maxRecDepth 100000 in
theorem lp_O_assign {p : Program} {l : Launch} {e : Env} {R : Room} {s : State} {m : MethodId} {args : Array Value} {below : List Frame} {meth : Method} {c : Code} {Q : State → Prop} {D : mp_G} {g : Nat → ClassId} {A : Nat → Prop} {cells slots : Nat} (hx : p.tables.exec = Jvm.exec) (hb : c.code = b_O_assign) (hml : c.maxLocals = 5) (hg : ∀ w ∈ gw, w.before args s = true) (hown : s.vm.findClass R_O = some m.cls) (hK : mp_K D classes (tys g) s) (hRf : 0 ≤ R.frames) (hRl : 0 ≤ R.locals) (hRc : cells ≤ R.cells) (hRs : slots ≤ R.slots) {B : mp_M} {oo oa TO : Nat} {cf : Nat → fF} {fr TF nd : Nat} {f : Nat → fF} {d0 : Int32} (hlab : TF ≠ TO ∧ TF ≠ TO + 1) (hnd : nd ≤ 16) : ∀ (k : Nat) (i : Nat) (S : mp_M) (H : Heap) (locs : List Loc) (ls : Array Slot), i + k = 33 → S oo = some (TO, .inr (1, [.ref oa, .int d0])) → S oa = some ((TO + 1), .inl ((g 0), 33, .inl (fun j => nI ((mgF i (asg nd f) cf) j).val))) → S fr = some (TF, .inl ((g 0), 33, .inl (fun j => nI (f j).val))) → (∀ b t e9, B b = some (t, e9) → (t ≠ TO) → (t ≠ TO + 1) → S b = some (t, e9)) → mp_I D classes A s.heap S H locs → lv_has ls 5 [(4, .int (nI i)), (3, .int (nI nd)), (2, .int (nI 16)), (1, .ref fr), (0, .ref oo)] → (∀ (S : mp_M) (H : Heap) (locs : List Loc) (ls : Array Slot), S oo = some (TO, .inr (1, [.ref oa, .int d0])) → S oa = some ((TO + 1), .inl ((g 0), 33, .inl (fun j => nI ((mgF 33 (asg nd f) cf) j).val))) → S fr = some (TF, .inl ((g 0), 33, .inl (fun j => nI (f j).val))) → (∀ b t e9, B b = some (t, e9) → (t ≠ TO) → (t ≠ TO + 1) → S b = some (t, e9)) → mp_I D classes A s.heap S H locs → lv_has ls 5 [(4, .int (nI 33)), (3, .int (nI nd)), (2, .int (nI 16)), (1, .ref fr), (0, .ref oo)] → W p l e R s m args below meth c H locs cells slots Q (F0 m 51 ls [])) → W p l e R s m args below meth c H locs cells slots Q (F0 m 3 ls []) := by
  intro k
  induction k with
  | zero =>
    intro i S H locs ls hi h_oo h_oa h_fr hfr hI hl kx
    refine lv_iload hx hb d_O_assign_3 (lv_at hl 0 rfl) ?_
    refine lv_aload_n hx hb d_O_assign_5 rfl (lv_at hl 4 rfl) ?_
    refine mp_get (C := R_O) (T := F_O) (N := 2) (v := .ref oa) hx hb hg i_O hown hK.va hI h_oo rfl 0 (by decide) (hg _ q_136) (fun _ h9 => h9) rfl d_O_assign_6 ?_
    refine mp_alen (v := nI 33) hx hb hK.va hI 0 h_oa rfl rfl d_O_assign_9 ?_
    refine lv_icmp_ge (tgt := 51) hx hb d_O_assign_10 (by decide) (fun _ => ?_) (fun h9 => absurd ((nI_leI (by omega) (by omega)).mpr (by omega)) h9)
    obtain rfl : i = 33 := by omega
    exact kx S H locs ls h_oo h_oa h_fr hfr hI (lv_sub hl [0, 1, 2, 3, 4] rfl)
  | succ k ih =>
    intro i S H locs ls hi h_oo h_oa h_fr hfr hI hl kx
    refine lv_iload hx hb d_O_assign_3 (lv_at hl 0 rfl) ?_
    refine lv_aload_n hx hb d_O_assign_5 rfl (lv_at hl 4 rfl) ?_
    refine mp_get (C := R_O) (T := F_O) (N := 2) (v := .ref oa) hx hb hg i_O hown hK.va hI h_oo rfl 0 (by decide) (hg _ q_136) (fun _ h9 => h9) rfl d_O_assign_6 ?_
    refine mp_alen (v := nI 33) hx hb hK.va hI 0 h_oa rfl rfl d_O_assign_9 ?_
    refine lv_icmp_ge (tgt := 51) hx hb d_O_assign_10 (by decide) (fun h9 => absurd h9 (by rw [nI_leI (by omega) (by omega)]; omega)) (fun _ => ?_)
    refine lv_aload_n hx hb d_O_assign_13 rfl (lv_at hl 4 rfl) ?_
    refine mp_get (C := R_O) (T := F_O) (N := 2) (v := .ref oa) hx hb hg i_O hown hK.va hI h_oo rfl 0 (by decide) (hg _ q_136) (fun _ h9 => h9) rfl d_O_assign_14 ?_
    refine lv_iload hx hb d_O_assign_17 (lv_at hl 0 rfl) ?_
    refine lv_iload hx hb d_O_assign_19 (lv_at hl 0 rfl) ?_
    refine lv_iload_n hx hb d_O_assign_21 rfl (lv_at hl 1 rfl) ?_
    refine lv_icmp_gt (tgt := 43) hx hb d_O_assign_22 (by decide) (fun c1 => ?_) (fun c1 => ?_)
    · rw [nI_ltI (by omega) (by omega)] at c1
      refine lv_iconst (v := nI 0) hx hb d_O_assign_43 (by decide) ?_
      refine lv_topi (fun v1 ev1 => ?_)
      obtain rfl : v1 = nI (asg nd f i).val := ev1.trans (by unfold asg; rw [if_neg (by omega)]; rfl)
      refine mp_iast hx hb hK.va hI 0 h_oa rfl (vp_in_nI (show i < 33 by omega) (by omega)) d_O_assign_44 (fun S2 H3 locs e_4 hI => ?_)
      have h_oa_o := h_oa
      have e_4 : S2 = va_up S oa (some ((TO + 1), .inl ((g 0), 33, .inl (upd (fun j => nI ((mgF i (asg nd f) cf) j).val) (nI i).toNatClampNeg (nI (asg nd f i).val))))) := e_4
      have h_oo : S2 oo = some (TO, .inr (1, [.ref oa, .int d0])) := by rw [e_4]; exact mp_keep h_oo h_oa (by omega)
      have h_fr : S2 fr = some (TF, .inl ((g 0), 33, .inl (fun j => nI (f j).val))) := by rw [e_4]; exact mp_keep h_fr h_oa (by omega)
      have h_oa : S2 oa = some ((TO + 1), .inl ((g 0), 33, .inl (upd (fun j => nI ((mgF i (asg nd f) cf) j).val) (nI i).toNatClampNeg (nI (asg nd f i).val)))) := by rw [e_4]; exact mp_us _ _ _
      have hfr : ∀ b t e9, B b = some (t, e9) → (t ≠ TO) → (t ≠ TO + 1) → S2 b = some (t, e9) := fun b t e9 h9 k0 k1 => by rw [e_4]; exact mp_keep (hfr b t e9 h9 k0 k1) h_oa_o (by omega)
      rw [nI_clamp (by omega), nIv_up] at h_oa
      have e9h_oa : (fun j => nI (va_up (mgF i (asg nd f) cf) i (asg nd f i) j).val) = (fun j => nI ((mgF (i + 1) (asg nd f) cf) j).val) := by rw [mgF_up]
      rw [e9h_oa] at h_oa
      refine lv_iinc (v := nI (i + 1)) (lv' := [(4, .int (nI (i + 1))), (3, .int (nI nd)), (2, .int (nI 16)), (1, .ref fr), (0, .ref oo)]) hx hb d_O_assign_45 hl (k := 0) rfl (nI_1 _) (by decide) rfl (fun ls hl => ?_)
      refine lv_goto (tgt := 3) hx hb d_O_assign_48 (by decide) ?_
      exact ih (i + 1) S2 H3 locs ls (by omega) h_oo h_oa h_fr hfr hI (lv_sub hl [0, 1, 2, 3, 4] rfl) kx
    · rw [nI_ltI (by omega) (by omega)] at c1
      refine lv_iload_n hx hb d_O_assign_25 rfl (lv_at hl 2 rfl) ?_
      refine lv_iload hx hb d_O_assign_26 (lv_at hl 0 rfl) ?_
      refine lv_iadd hx hb d_O_assign_28 ?_
      refine lv_topi (fun v5 ev5 => ?_)
      obtain rfl : v5 = nI (16 + i) := ev5.trans (nI_add _ _)
      refine lv_aload_n hx hb d_O_assign_29 rfl (lv_at hl 3 rfl) ?_
      refine mp_alen (v := nI 33) hx hb hK.va hI 0 h_fr rfl rfl d_O_assign_30 ?_
      refine lv_icmp_ge (tgt := 43) hx hb d_O_assign_31 (by decide) (fun h9 => absurd h9 (by rw [nI_leI (by omega) (by omega)]; omega)) (fun _ => ?_)
      refine lv_aload_n hx hb d_O_assign_34 rfl (lv_at hl 3 rfl) ?_
      refine lv_iload_n hx hb d_O_assign_35 rfl (lv_at hl 2 rfl) ?_
      refine lv_iload hx hb d_O_assign_36 (lv_at hl 0 rfl) ?_
      refine lv_iadd hx hb d_O_assign_38 ?_
      refine lv_topi (fun v6 ev6 => ?_)
      obtain rfl : v6 = nI (16 + i) := ev6.trans (nI_add _ _)
      refine mp_iald hx hb hK.va hI 0 h_fr rfl (vp_in_nI (show 16 + i < 33 by omega) (by omega)) d_O_assign_39 ?_
      refine lv_topi (fun v7 ev7 => ?_)
      obtain rfl : v7 = nI (f (16 + i)).val := ev7.trans (by rw [nI_clamp (by omega)])
      refine lv_goto (tgt := 44) hx hb d_O_assign_40 (by decide) ?_
      refine lv_topi (fun v8 ev8 => ?_)
      obtain rfl : v8 = nI (asg nd f i).val := ev8.trans (by unfold asg; rw [if_pos (by omega)])
      refine mp_iast hx hb hK.va hI 0 h_oa rfl (vp_in_nI (show i < 33 by omega) (by omega)) d_O_assign_44 (fun S9 H10 locs e_11 hI => ?_)
      have h_oa_o := h_oa
      have e_11 : S9 = va_up S oa (some ((TO + 1), .inl ((g 0), 33, .inl (upd (fun j => nI ((mgF i (asg nd f) cf) j).val) (nI i).toNatClampNeg (nI (asg nd f i).val))))) := e_11
      have h_oo : S9 oo = some (TO, .inr (1, [.ref oa, .int d0])) := by rw [e_11]; exact mp_keep h_oo h_oa (by omega)
      have h_fr : S9 fr = some (TF, .inl ((g 0), 33, .inl (fun j => nI (f j).val))) := by rw [e_11]; exact mp_keep h_fr h_oa (by omega)
      have h_oa : S9 oa = some ((TO + 1), .inl ((g 0), 33, .inl (upd (fun j => nI ((mgF i (asg nd f) cf) j).val) (nI i).toNatClampNeg (nI (asg nd f i).val)))) := by rw [e_11]; exact mp_us _ _ _
      have hfr : ∀ b t e9, B b = some (t, e9) → (t ≠ TO) → (t ≠ TO + 1) → S9 b = some (t, e9) := fun b t e9 h9 k0 k1 => by rw [e_11]; exact mp_keep (hfr b t e9 h9 k0 k1) h_oa_o (by omega)
      rw [nI_clamp (by omega), nIv_up] at h_oa
      have e9h_oa : (fun j => nI (va_up (mgF i (asg nd f) cf) i (asg nd f i) j).val) = (fun j => nI ((mgF (i + 1) (asg nd f) cf) j).val) := by rw [mgF_up]
      rw [e9h_oa] at h_oa
      refine lv_iinc (v := nI (i + 1)) (lv' := [(4, .int (nI (i + 1))), (3, .int (nI nd)), (2, .int (nI 16)), (1, .ref fr), (0, .ref oo)]) hx hb d_O_assign_45 hl (k := 0) rfl (nI_1 _) (by decide) rfl (fun ls hl => ?_)
      refine lv_goto (tgt := 3) hx hb d_O_assign_48 (by decide) ?_
      exact ih (i + 1) S9 H10 locs ls (by omega) h_oo h_oa h_fr hfr hI (lv_sub hl [0, 1, 2, 3, 4] rfl) kx
set_option maxHeartbeats 4000000 in
set_option maxRecDepth 100000 in
/-- becomes what stands in a row -/
theorem c_O_assign (l : Launch) (D : mp_G) (g : Nat → ClassId) (S : mp_M) (sz : Nat) (oo oa TO : Nat) (cf : Nat → fF) (fr TF nd : Nat) (f : Nat → fF) (d0 : Int32) (h_oo : S oo = some (TO, .inr (1, [.ref oa, .int d0]))) (h_oa : S oa = some ((TO + 1), .inl ((g 0), 33, .inl (fun j => nI (cf j).val)))) (h_fr : S fr = some (TF, .inl ((g 0), 33, .inl (fun j => nI (f j).val)))) (hlab : TF ≠ TO ∧ TF ≠ TO + 1) (hnd : nd ≤ 16) (hc : trn 33 cf) (hf : f (16 + nd) ≠ 0) : Met l y_O_assign w_O_assign ({ frames := 2, cells := 0, slots := 0, locals := 42 }) (va_Pc [.ref oo, .ref fr, .int (nI 16), .int (nI nd)] (mp_B0 D classes (tys g) S sz)) (va_Qv (fun (S1 : mp_M) => S1 oo = some (TO, .inr (1, [.ref oa, .int (nI nd)])) ∧ S1 oa = some ((TO + 1), .inl ((g 0), 33, .inl (fun j => nI ((asg nd f) j).val))) ∧ (∀ b t e9, S b = some (t, e9) → (t ≠ TO) → (t ≠ TO + 1) → S1 b = some (t, e9))) (mp_B1 D classes S sz) (mp_A S sz)) 0 0 (mp_A S sz) := by
  refine Met.ofW (cc := b_O_assign) (maxL := 5) (ret := none) (by decide) rfl ?_
  intro p e s m args below meth c s₁ B hml hv
  obtain ⟨rfl, hsz, hH, hK⟩ := hv
  have hx := B.exec
  have hb := B.bytes
  have hr := B.returns
  have hts := atoms_spec (ws := w_O_assign) B.pre
  have hg : ∀ w ∈ gw, w.before _ s = true := fun w h => hts w (List.mem_cons_of_mem _ h)
  have hown : s.vm.findClass R_O = some m.cls := findClass_of_methodNamed B.named
  have hlocks := B.notSynchronized
  subst hsz
  have hI := mp_I.start hH
  have hl := lv_entry ([.ref oo, .ref fr, .int (nI 16), .int (nI nd)]) (n := 5) (Nat.le_of_ble_eq_true rfl)
  rw [lg_entry_eq]
  generalize (lg_sl ([.ref oo, .ref fr, .int (nI 16), .int (nI nd)]) ++ List.replicate (5 - (lg_sl ([.ref oo, .ref fr, .int (nI 16), .int (nI nd)])).length) Slot.unset).toArray = ls at hl ⊢
  have hl : lv_has ls 5 [(0, .ref oo), (1, .ref fr), (2, .int (nI 16)), (3, .int (nI nd))] := hl
  have hfr : ∀ b t e9, S b = some (t, e9) → (t ≠ TO) → (t ≠ TO + 1) → S b = some (t, e9) := fun _ _ _ h9 _ _ => h9
  refine lv_iconst (v := nI 0) hx hb d_O_assign_0 (by decide) ?_
  refine lv_istore (lv' := [(4, .int (nI 0)), (0, .ref oo), (1, .ref fr), (2, .int (nI 16)), (3, .int (nI nd))]) hx hb d_O_assign_1 hl (by decide) rfl (fun ls hl => ?_)
  rw [← mgF_0 (asg nd f) cf] at h_oa
  refine lp_O_assign (B := S) (oo := oo) (oa := oa) (TO := TO) (cf := cf) (fr := fr) (TF := TF) (nd := nd) (f := f) (d0 := d0) hx hb hml hg hown hK (Nat.le_of_ble_eq_true rfl) (Nat.le_of_ble_eq_true rfl) (Nat.le_of_ble_eq_true rfl) (Nat.le_of_ble_eq_true rfl) hlab hnd 33 0 S s.heap _ ls (by omega) h_oo h_oa h_fr hfr hI (lv_sub hl [0, 4, 3, 2, 1] rfl) (fun S1 H2 locs ls j_oo j_oa j_fr hfr hI hl => ?_)
  rw [mgF_t (asg_t hnd) hc] at j_oa
  refine lv_aload_n hx hb d_O_assign_51 rfl (lv_at hl 4 rfl) ?_
  refine lv_aload_n hx hb d_O_assign_52 rfl (lv_at hl 4 rfl) ?_
  refine mp_get (C := R_O) (T := F_O) (N := 2) (v := .ref oa) hx hb hg i_O hown hK.va hI j_oo rfl 0 (by decide) (hg _ q_136) (fun _ h9 => h9) rfl d_O_assign_53 ?_
  refine mp_alen (v := nI 33) hx hb hK.va hI 0 j_oa rfl rfl d_O_assign_56 ?_
  refine lv_iconst (v := nI 1) hx hb d_O_assign_57 (by decide) ?_
  refine lv_isub hx hb d_O_assign_58 ?_
  refine lv_topi (fun v3 ev3 => ?_)
  obtain rfl : v3 = nI (33 - 1) := ev3.trans (pk_sub (by omega))
  refine lv_topi (fun v4 ev4 => ?_)
  obtain rfl : v4 = (nI 33 + -1) := ev4.trans (by decide)
  refine mp_callv hI (va_runV (As := [.int (nI 33 + -1)]) (rest := []) ⟨hx, hb, hml, hown, hg⟩ (c_O_settle l D g S1 _ oo oa TO (asg nd f) 33 d0 j_oo j_oa (by omega)) ⟨(callB_of 1 hg (wd_goodG q_422) rfl rfl rfl (hg _ q_18) (hg _ q_419) (by decide +kernel) ⟨Nat.le_of_ble_eq_true rfl, Nat.le_of_ble_eq_true rfl⟩), hg _ q_421, hg _ qs_9⟩ (mp_preV (C := R_O) (T := F_O) hI hK j_oo rfl [.int (nI 33 + -1)]) rfl rfl hl.1 rfl (lv_room (Nat.le_of_ble_eq_true rfl)) d_O_assign_59 ⟨Nat.le_of_ble_eq_true rfl, Nat.le_of_ble_eq_true rfl⟩) (fun S5 H6 locs p_7 hI => ?_)
  obtain ⟨n9, hn9, hz9, ht9, q_oo, fq⟩ := p_7
  have j_oa : S5 oa = some ((TO + 1), .inl ((g 0), 33, .inl (fun j => nI ((asg nd f) j).val))) := fq oa _ _ j_oa (by omega)
  have j_fr : S5 fr = some (TF, .inl ((g 0), 33, .inl (fun j => nI (f j).val))) := fq fr _ _ j_fr (by omega)
  have hfr : ∀ b t e9, S b = some (t, e9) → (t ≠ TO) → (t ≠ TO + 1) → S5 b = some (t, e9) := fun b t e9 h9 k0 k1 => by have h8 := hfr b t e9 h9 k0 k1; exact fq b _ _ h8 (by omega)
  have hn : n9 = nd + 1 := by
    rcases Nat.lt_trichotomy n9 (nd + 1) with q | q | q
    · exact absurd (by have := hz9 nd (by omega) (by omega); unfold asg at this; rw [if_pos (Nat.le_refl nd)] at this; exact this) hf
    · exact q
    · exact absurd (by unfold asg; rw [if_neg (by omega)]) (ht9 (by omega))
  rw [hn, nI_dec] at q_oo
  refine mp_vret hx hb hr hlocks hI (Nat.le_of_ble_eq_true rfl) (Nat.le_of_ble_eq_true rfl) ?_ d_O_assign_62
  exact ⟨q_oo, j_oa, hfr⟩
set_option maxHeartbeats 4000000 in
set_option maxRecDepth 100000 in
/-- 1 is taken off at an exponent -/
theorem c_O_addTo (l : Launch) (D : mp_G) (g : Nat → ClassId) (S : mp_M) (sz : Nat) (oo oa TO : Nat) (cf : Nat → fF) (n ee : Nat) (h_oo : S oo = some (TO, .inr (1, [.ref oa, .int (nI n + -1)]))) (h_oa : S oa = some ((TO + 1), .inl ((g 0), 33, .inl (fun j => nI (cf j).val)))) (hc : olP n cf) (he : ee ≤ 1) : Met l y_O_addTo w_O_addTo ({ frames := 2, cells := 0, slots := 0, locals := 42 }) (va_Pc [.ref oo, .int (nI ee), .int (nI 32002)] (mp_B0 D classes (tys g) S sz)) (va_Qv (fun (S1 : mp_M) => ∃ n9, n9 ≤ max n (ee + 1) ∧ olP n9 (va_up cf ee (cf ee + -1)) ∧ S1 oo = some (TO, .inr (1, [.ref oa, .int (nI n9 + -1)])) ∧ S1 oa = some ((TO + 1), .inl ((g 0), 33, .inl (fun j => nI ((va_up cf ee (cf ee + -1)) j).val))) ∧ (∀ b t e9, S b = some (t, e9) → (t ≠ TO) → (t ≠ TO + 1) → S1 b = some (t, e9))) (mp_B1 D classes S sz) (mp_A S sz)) 0 0 (mp_A S sz) := by
  refine Met.ofW (cc := b_O_addTo) (maxL := 3) (ret := none) (by decide) rfl ?_
  intro p e s m args below meth c s₁ B hml hv
  obtain ⟨rfl, hsz, hH, hK⟩ := hv
  have hx := B.exec
  have hb := B.bytes
  have hr := B.returns
  have hts := atoms_spec (ws := w_O_addTo) B.pre
  have hg : ∀ w ∈ gw, w.before _ s = true := fun w h => hts w (List.mem_cons_of_mem _ h)
  have hown : s.vm.findClass R_O = some m.cls := findClass_of_methodNamed B.named
  have hlocks := B.notSynchronized
  subst hsz
  have hI := mp_I.start hH
  have hl := lv_entry ([.ref oo, .int (nI ee), .int (nI 32002)]) (n := 3) (Nat.le_of_ble_eq_true rfl)
  rw [lg_entry_eq]
  generalize (lg_sl ([.ref oo, .int (nI ee), .int (nI 32002)]) ++ List.replicate (3 - (lg_sl ([.ref oo, .int (nI ee), .int (nI 32002)])).length) Slot.unset).toArray = ls at hl ⊢
  have hl : lv_has ls 3 [(0, .ref oo), (1, .int (nI ee)), (2, .int (nI 32002))] := hl
  have hfr : ∀ b t e9, S b = some (t, e9) → (t ≠ TO) → (t ≠ TO + 1) → S b = some (t, e9) := fun _ _ _ h9 _ _ => h9
  have hn := hc.1
  refine lv_iload_n hx hb d_O_addTo_0 rfl (lv_at hl 1 rfl) ?_
  refine lv_if_lt (tgt := 13) hx hb d_O_addTo_1 (by decide) (fun h9 => absurd h9 (nI_pos (by omega))) (fun _ => ?_)
  refine lv_iload_n hx hb d_O_addTo_4 rfl (lv_at hl 1 rfl) ?_
  refine lv_aload_n hx hb d_O_addTo_5 rfl (lv_at hl 0 rfl) ?_
  refine mp_get (C := R_O) (T := F_O) (N := 2) (v := .ref oa) hx hb hg i_O hown hK.va hI h_oo rfl 0 (by decide) (hg _ q_136) (fun _ h9 => h9) rfl d_O_addTo_6 ?_
  refine mp_alen (v := nI 33) hx hb hK.va hI 0 h_oa rfl rfl d_O_addTo_9 ?_
  refine lv_icmp_lt (tgt := 14) hx hb d_O_addTo_10 (by decide) (fun _ => ?_) (fun h9 => absurd ((nI_ltI (by omega) (by omega)).mpr (by omega)) h9)
  refine lv_aload_n hx hb d_O_addTo_14 rfl (lv_at hl 0 rfl) ?_
  refine mp_get (C := R_O) (T := F_O) (N := 2) (v := .ref oa) hx hb hg i_O hown hK.va hI h_oo rfl 0 (by decide) (hg _ q_136) (fun _ h9 => h9) rfl d_O_addTo_15 ?_
  refine lv_iload_n hx hb d_O_addTo_18 rfl (lv_at hl 1 rfl) ?_
  refine lv_aload_n hx hb d_O_addTo_19 rfl (lv_at hl 0 rfl) ?_
  refine mp_get (C := R_O) (T := F_O) (N := 2) (v := .ref oa) hx hb hg i_O hown hK.va hI h_oo rfl 0 (by decide) (hg _ q_136) (fun _ h9 => h9) rfl d_O_addTo_20 ?_
  refine lv_iload_n hx hb d_O_addTo_23 rfl (lv_at hl 1 rfl) ?_
  refine mp_iald hx hb hK.va hI 0 h_oa rfl (vp_in_nI (show ee < 33 by omega) (by omega)) d_O_addTo_24 ?_
  refine lv_topi (fun v1 ev1 => ?_)
  obtain rfl : v1 = nI (cf ee).val := ev1.trans (by rw [nI_clamp (by omega)])
  refine lv_iload_n hx hb d_O_addTo_25 rfl (lv_at hl 2 rfl) ?_
  refine lv_iadd hx hb d_O_addTo_26 ?_
  refine lv_topi (fun v2 ev2 => ?_)
  obtain rfl : v2 = nI (((cf ee).val) + 32002) := ev2.trans (nI_add _ _)
  refine lv_sipush (v := nI 32003) hx hb d_O_addTo_27 (by decide) ?_
  refine lv_irem hx hb d_O_addTo_30 (by decide) ?_
  refine lv_topi (fun v3 ev3 => ?_)
  obtain rfl : v3 = nI ((((cf ee).val) + 32002) % 32003) := ev3.trans (pk_rem (by first | exact fb_1 _ _ | exact fb_2 _ _ _ | exact fb_3 _ _ _ | exact fb_4 _ _ | exact fb_5 _ _ _ | omega) (by omega) (by omega))
  refine lv_topi (fun v4 ev4 => ?_)
  obtain rfl : v4 = nI (((cf ee) + (fc 32002))).val := ev4.trans (congrArg nI (fv_mod (by simp only [fc_add, fc_mul, fc_of, fc_ng, fc_0, fc_1])))
  refine lv_topi (fun v5 ev5 => ?_)
  obtain rfl : v5 = nI (cf ee + -1).val := ev5.trans (by rw [fc_m1])
  refine mp_iast hx hb hK.va hI 0 h_oa rfl (vp_in_nI (show ee < 33 by omega) (by omega)) d_O_addTo_31 (fun S6 H7 locs e_8 hI => ?_)
  have h_oa_o := h_oa
  have e_8 : S6 = va_up S oa (some ((TO + 1), .inl ((g 0), 33, .inl (upd (fun j => nI (cf j).val) (nI ee).toNatClampNeg (nI (cf ee + -1).val))))) := e_8
  have h_oo : S6 oo = some (TO, .inr (1, [.ref oa, .int (nI n + -1)])) := by rw [e_8]; exact mp_keep h_oo h_oa (by omega)
  have h_oa : S6 oa = some ((TO + 1), .inl ((g 0), 33, .inl (upd (fun j => nI (cf j).val) (nI ee).toNatClampNeg (nI (cf ee + -1).val)))) := by rw [e_8]; exact mp_us _ _ _
  have hfr : ∀ b t e9, S b = some (t, e9) → (t ≠ TO) → (t ≠ TO + 1) → S6 b = some (t, e9) := fun b t e9 h9 k0 k1 => by rw [e_8]; exact mp_keep (hfr b t e9 h9 k0 k1) h_oa_o (by omega)
  rw [nI_clamp (by omega), nIv_up] at h_oa
  refine lv_aload_n hx hb d_O_addTo_32 rfl (lv_at hl 0 rfl) ?_
  refine lv_aload_n hx hb d_O_addTo_33 rfl (lv_at hl 0 rfl) ?_
  refine mp_get (C := R_O) (T := F_O) (N := 2) (v := .int (nI n + -1)) hx hb hg i_O hown hK.va hI h_oo rfl 1 (by decide) (hg _ q_138) (fun _ h9 => h9) rfl d_O_addTo_34 ?_
  refine lv_iload_n hx hb d_O_addTo_37 rfl (lv_at hl 1 rfl) ?_
  refine va_mmax hx hb (hml.trans hl.1.symm) hown (hg _ q_442) (hg _ q_79) (hg _ q_4) (hg _ q_80) (Nat.le_of_ble_eq_true rfl) (Nat.le_of_ble_eq_true rfl) (Nat.le_of_ble_eq_true rfl) (Nat.le_of_ble_eq_true rfl) d_O_addTo_38 ?_
  refine lv_topi (fun v9 ev9 => ?_)
  obtain rfl : v9 = (nI (max n (ee + 1)) + -1) := ev9.trans (dmax hn he)
  refine mp_callv hI (va_runV (As := [.int (nI (max n (ee + 1)) + -1)]) (rest := []) ⟨hx, hb, hml, hown, hg⟩ (c_O_settle l D g S6 _ oo oa TO (va_up cf ee (cf ee + -1)) (max n (ee + 1)) (nI n + -1) h_oo h_oa (by omega)) ⟨(callB_of 1 hg (wd_goodG q_422) rfl rfl rfl (hg _ q_18) (hg _ q_419) (by decide +kernel) ⟨Nat.le_of_ble_eq_true rfl, Nat.le_of_ble_eq_true rfl⟩), hg _ q_421, hg _ qs_9⟩ (mp_preV (C := R_O) (T := F_O) hI hK h_oo rfl [.int (nI (max n (ee + 1)) + -1)]) rfl rfl hl.1 rfl (lv_room (Nat.le_of_ble_eq_true rfl)) d_O_addTo_41 ⟨Nat.le_of_ble_eq_true rfl, Nat.le_of_ble_eq_true rfl⟩) (fun S10 H11 locs p_12 hI => ?_)
  obtain ⟨n9, hn9, hz9, ht9, q_oo, fq⟩ := p_12
  have h_oa : S10 oa = some ((TO + 1), .inl ((g 0), 33, .inl (fun j => nI (va_up cf ee (cf ee + -1) j).val))) := fq oa _ _ h_oa (by omega)
  have hfr : ∀ b t e9, S b = some (t, e9) → (t ≠ TO) → (t ≠ TO + 1) → S10 b = some (t, e9) := fun b t e9 h9 k0 k1 => by have h8 := hfr b t e9 h9 k0 k1; exact fq b _ _ h8 (by omega)
  refine mp_vret hx hb hr hlocks hI (Nat.le_of_ble_eq_true rfl) (Nat.le_of_ble_eq_true rfl) ?_ d_O_addTo_44
  exact ⟨n9, hn9, ⟨by omega, fun k hk => by by_cases q : k < max n (ee + 1); exact hz9 k hk q; exact (by rw [mp_un (by omega)]; exact hc.2.1 k (by omega)), ht9⟩, q_oo, h_oa, hfr⟩
set_option maxHeartbeats 4000000 in
set_option maxRecDepth 100000 in
theorem lp_O_sqI {p : Program} {l : Launch} {e : Env} {R : Room} {s : State} {m : MethodId} {args : Array Value} {below : List Frame} {meth : Method} {c : Code} {Q : State → Prop} {D : mp_G} {g : Nat → ClassId} {A : Nat → Prop} {cells slots : Nat} (hx : p.tables.exec = Jvm.exec) (hb : c.code = b_O_square) (hml : c.maxLocals = 5) (hg : ∀ w ∈ gw, w.before args s = true) (hown : s.vm.findClass R_O = some m.cls) (hK : mp_K D classes (tys g) s) (hRf : 1 ≤ R.frames) (hRl : 21 ≤ R.locals) (hRc : cells ≤ R.cells) (hRs : slots ≤ R.slots) {B : mp_M} {oo oa TO : Nat} {cf : Nat → fF} {d ee : Nat} (hd : d ≤ 16) (he : ee ≤ 2 * d) : ∀ (k : Nat) (i : Nat) (x : Nat) (S : mp_M) (H : Heap) (locs : List Loc) (ls : Array Slot), i + k = min d ee + 1 → (fc x = sm i (fun k => (if k < d + 1 ∧ ee - k < d + 1 then cf k * cf (ee - k) else 0))) → (x ≤ i * 1024128004) → (ee ≤ i + d) → S oo = some (TO, .inr (1, [.ref oa, .int (nI d)])) → S oa = some ((TO + 1), .inl ((g 0), 33, .inl (fun j => nI ((sqF d cf (ee + 1)) j).val))) → (∀ b t e9, B b = some (t, e9) → (t ≠ TO) → (t ≠ TO + 1) → S b = some (t, e9)) → mp_I D classes A s.heap S H locs → lv_has ls 5 [(4, .int (nI i)), (2, .long (lN x)), (1, .int (nI ee)), (0, .ref oo)] → (∀ (x : Nat) (S : mp_M) (H : Heap) (locs : List Loc) (ls : Array Slot), (fc x = sm (min d ee + 1) (fun k => (if k < d + 1 ∧ ee - k < d + 1 then cf k * cf (ee - k) else 0))) → (x ≤ (min d ee + 1) * 1024128004) → (ee ≤ (min d ee + 1) + d) → S oo = some (TO, .inr (1, [.ref oa, .int (nI d)])) → S oa = some ((TO + 1), .inl ((g 0), 33, .inl (fun j => nI ((sqF d cf (ee + 1)) j).val))) → (∀ b t e9, B b = some (t, e9) → (t ≠ TO) → (t ≠ TO + 1) → S b = some (t, e9)) → mp_I D classes A s.heap S H locs → lv_has ls 5 [(4, .int (nI (min d ee + 1))), (2, .long (lN x)), (1, .int (nI ee)), (0, .ref oo)] → W p l e R s m args below meth c H locs cells slots Q (F0 m 90 ls [])) → W p l e R s m args below meth c H locs cells slots Q (F0 m 47 ls []) := by
  intro k
  induction k with
  | zero =>
    intro i x S H locs ls hi hsx hbx hid h_oo h_oa hfr hI hl kx
    refine lv_iload hx hb d_O_square_47 (lv_at hl 0 rfl) ?_
    refine lv_aload_n hx hb d_O_square_49 rfl (lv_at hl 3 rfl) ?_
    refine mp_get (C := R_O) (T := F_O) (N := 2) (v := .int (nI d)) hx hb hg i_O hown hK.va hI h_oo rfl 1 (by decide) (hg _ q_138) (fun _ h9 => h9) rfl d_O_square_50 ?_
    rcases Nat.lt_or_ge d i with q | q
    · refine lv_icmp_gt (tgt := 90) hx hb d_O_square_53 (by decide) (fun _ => ?_) (fun h9 => absurd ((nI_ltI (by omega) (by omega)).mpr (by omega)) h9)
      obtain rfl : i = min d ee + 1 := by omega
      exact kx x S H locs ls hsx hbx hid h_oo h_oa hfr hI (lv_sub hl [0, 1, 2, 3] rfl)
    · refine lv_icmp_gt (tgt := 90) hx hb d_O_square_53 (by decide) (fun h9 => absurd h9 (by rw [nI_ltI (by omega) (by omega)]; omega)) (fun _ => ?_)
      refine lv_iload hx hb d_O_square_56 (lv_at hl 0 rfl) ?_
      refine lv_iload_n hx hb d_O_square_58 rfl (lv_at hl 2 rfl) ?_
      refine lv_icmp_gt (tgt := 90) hx hb d_O_square_59 (by decide) (fun _ => ?_) (fun h9 => absurd ((nI_ltI (by omega) (by omega)).mpr (by omega)) h9)
      obtain rfl : i = min d ee + 1 := by omega
      exact kx x S H locs ls hsx hbx hid h_oo h_oa hfr hI (lv_sub hl [0, 1, 2, 3] rfl)
  | succ k ih =>
    intro i x S H locs ls hi hsx hbx hid h_oo h_oa hfr hI hl kx
    refine lv_iload hx hb d_O_square_47 (lv_at hl 0 rfl) ?_
    refine lv_aload_n hx hb d_O_square_49 rfl (lv_at hl 3 rfl) ?_
    refine mp_get (C := R_O) (T := F_O) (N := 2) (v := .int (nI d)) hx hb hg i_O hown hK.va hI h_oo rfl 1 (by decide) (hg _ q_138) (fun _ h9 => h9) rfl d_O_square_50 ?_
    refine lv_icmp_gt (tgt := 90) hx hb d_O_square_53 (by decide) (fun h9 => absurd h9 (by rw [nI_ltI (by omega) (by omega)]; omega)) (fun _ => ?_)
    refine lv_iload hx hb d_O_square_56 (lv_at hl 0 rfl) ?_
    refine lv_iload_n hx hb d_O_square_58 rfl (lv_at hl 2 rfl) ?_
    refine lv_icmp_gt (tgt := 90) hx hb d_O_square_59 (by decide) (fun h9 => absurd h9 (by rw [nI_ltI (by omega) (by omega)]; omega)) (fun _ => ?_)
    refine lv_lload_n hx hb d_O_square_62 rfl (lv_at hl 1 rfl) ?_
    refine lv_aload_n hx hb d_O_square_63 rfl (lv_at hl 3 rfl) ?_
    refine mp_get (C := R_O) (T := F_O) (N := 2) (v := .ref oa) hx hb hg i_O hown hK.va hI h_oo rfl 0 (by decide) (hg _ q_136) (fun _ h9 => h9) rfl d_O_square_64 ?_
    refine lv_iload hx hb d_O_square_67 (lv_at hl 0 rfl) ?_
    refine mp_iald hx hb hK.va hI 0 h_oa rfl (vp_in_nI (show i < 33 by omega) (by omega)) d_O_square_69 ?_
    refine lv_topi (fun v1 ev1 => ?_)
    obtain rfl : v1 = nI (cf i).val := ev1.trans (by rw [nI_clamp (by omega), sqF_lo (by omega)])
    refine lv_i2l (v := lN ((cf i).val)) hx hb d_O_square_70 (nI_l (by omega)) ?_
    refine lv_aload_n hx hb d_O_square_71 rfl (lv_at hl 3 rfl) ?_
    refine mp_get (C := R_O) (T := F_O) (N := 2) (v := .ref oa) hx hb hg i_O hown hK.va hI h_oo rfl 0 (by decide) (hg _ q_136) (fun _ h9 => h9) rfl d_O_square_72 ?_
    refine lv_iload_n hx hb d_O_square_75 rfl (lv_at hl 2 rfl) ?_
    refine lv_iload hx hb d_O_square_76 (lv_at hl 0 rfl) ?_
    refine lv_isub hx hb d_O_square_78 ?_
    refine lv_topi (fun v2 ev2 => ?_)
    obtain rfl : v2 = nI (ee - i) := ev2.trans (pk_sub (by omega))
    refine mp_iald hx hb hK.va hI 0 h_oa rfl (vp_in_nI (show ee - i < 33 by omega) (by omega)) d_O_square_79 ?_
    refine lv_topi (fun v3 ev3 => ?_)
    obtain rfl : v3 = nI (cf (ee - i)).val := ev3.trans (by rw [nI_clamp (by omega), sqF_lo (by omega)])
    refine lv_i2l (v := lN ((cf (ee - i)).val)) hx hb d_O_square_80 (nI_l (by omega)) ?_
    refine lv_lmul hx hb d_O_square_81 ?_
    refine lv_topl (fun v4 ev4 => ?_)
    obtain rfl : v4 = lN (((cf i).val) * ((cf (ee - i)).val)) := ev4.trans (lN_mul _ _)
    refine lv_ladd hx hb d_O_square_82 ?_
    refine lv_topl (fun v5 ev5 => ?_)
    obtain rfl : v5 = lN (x + (((cf i).val) * ((cf (ee - i)).val))) := ev5.trans (lN_add _ _)
    refine lv_lstore_n (lv' := [(2, .long (lN (x + (((cf i).val) * ((cf (ee - i)).val))))), (4, .int (nI i)), (1, .int (nI ee)), (0, .ref oo)]) hx hb d_O_square_83 rfl hl (by decide) rfl (fun ls hl => ?_)
    refine lv_iinc (v := nI (i + 1)) (lv' := [(4, .int (nI (i + 1))), (2, .long (lN (x + (((cf i).val) * ((cf (ee - i)).val))))), (1, .int (nI ee)), (0, .ref oo)]) hx hb d_O_square_84 hl (k := 1) rfl (nI_1 _) (by decide) rfl (fun ls hl => ?_)
    refine lv_goto (tgt := 47) hx hb d_O_square_87 (by decide) ?_
    exact ih (i + 1) (x + (cf i).val * (cf (ee - i)).val) S H locs ls (by omega) (by rw [fc_add, fc_mul, fc_of, fc_of, hsx, sm_s, if_pos (by omega)]) (sq_b hbx (by omega) (by omega)) (by omega) h_oo h_oa hfr hI (lv_sub hl [0, 1, 2, 3] rfl) kx
set_option maxHeartbeats 4000000 in
set_option maxRecDepth 100000 in
theorem lp_O_sqO {p : Program} {l : Launch} {e : Env} {R : Room} {s : State} {m : MethodId} {args : Array Value} {below : List Frame} {meth : Method} {c : Code} {Q : State → Prop} {D : mp_G} {g : Nat → ClassId} {A : Nat → Prop} {cells slots : Nat} (hx : p.tables.exec = Jvm.exec) (hb : c.code = b_O_square) (hml : c.maxLocals = 5) (hg : ∀ w ∈ gw, w.before args s = true) (hown : s.vm.findClass R_O = some m.cls) (hK : mp_K D classes (tys g) s) (hRf : 1 ≤ R.frames) (hRl : 21 ≤ R.locals) (hRc : cells ≤ R.cells) (hRs : slots ≤ R.slots) {B : mp_M} {oo oa TO : Nat} {cf : Nat → fF} {d : Nat} (hd : d ≤ 16) : ∀ (k : Nat) (S : mp_M) (H : Heap) (locs : List Loc) (ls : Array Slot), k ≤ 2 * d + 1 → S oo = some (TO, .inr (1, [.ref oa, .int (nI d)])) → S oa = some ((TO + 1), .inl ((g 0), 33, .inl (fun j => nI ((sqF d cf k) j).val))) → (∀ b t e9, B b = some (t, e9) → (t ≠ TO) → (t ≠ TO + 1) → S b = some (t, e9)) → mp_I D classes A s.heap S H locs → lv_has ls 5 [(1, .int (nI k + -1)), (0, .ref oo)] → (∀ (S : mp_M) (H : Heap) (locs : List Loc) (ls : Array Slot), S oo = some (TO, .inr (1, [.ref oa, .int (nI d)])) → S oa = some ((TO + 1), .inl ((g 0), 33, .inl (fun j => nI ((sqF d cf 0) j).val))) → (∀ b t e9, B b = some (t, e9) → (t ≠ TO) → (t ≠ TO + 1) → S b = some (t, e9)) → mp_I D classes A s.heap S H locs → lv_has ls 5 [(1, .int (nI 0 + -1)), (0, .ref oo)] → W p l e R s m args below meth c H locs cells slots Q (F0 m 108 ls [])) → W p l e R s m args below meth c H locs cells slots Q (F0 m 29 ls []) := by
  intro k
  induction k with
  | zero =>
    intro S H locs ls hi h_oo h_oa hfr hI hl kx
    refine lv_iload_n hx hb d_O_square_29 rfl (lv_at hl 0 rfl) ?_
    refine lv_if_lt (tgt := 108) hx hb d_O_square_30 (by decide) (fun _ => ?_) (fun h9 => absurd (by decide) h9)
    exact kx S H locs ls h_oo h_oa hfr hI (lv_sub hl [0, 1] rfl)
  | succ k ih =>
    intro S H locs ls hi h_oo h_oa hfr hI hl kx
    rw [nI_dec] at hl
    refine lv_iload_n hx hb d_O_square_29 rfl (lv_at hl 0 rfl) ?_
    refine lv_if_lt (tgt := 108) hx hb d_O_square_30 (by decide) (fun h9 => absurd h9 (nI_pos (by omega))) (fun _ => ?_)
    refine lv_lconst (v := lN 0) hx hb d_O_square_33 (by decide) ?_
    refine lv_lstore_n (lv' := [(2, .long (lN 0)), (1, .int (nI k)), (0, .ref oo)]) hx hb d_O_square_34 rfl hl (by decide) rfl (fun ls hl => ?_)
    refine lv_iconst (v := nI 0) hx hb d_O_square_35 (by decide) ?_
    refine lv_iload_n hx hb d_O_square_36 rfl (lv_at hl 1 rfl) ?_
    refine lv_aload_n hx hb d_O_square_37 rfl (lv_at hl 2 rfl) ?_
    refine mp_get (C := R_O) (T := F_O) (N := 2) (v := .int (nI d)) hx hb hg i_O hown hK.va hI h_oo rfl 1 (by decide) (hg _ q_138) (fun _ h9 => h9) rfl d_O_square_38 ?_
    refine lv_isub hx hb d_O_square_41 ?_
    refine va_mmax hx hb (hml.trans hl.1.symm) hown (hg _ q_442) (hg _ q_79) (hg _ q_4) (hg _ q_80) (Nat.le_trans (Nat.le_of_ble_eq_true rfl) hRf) (Nat.le_trans (Nat.le_of_ble_eq_true rfl) hRl) (by omega) (by omega) d_O_square_42 ?_
    refine lv_topi (fun v1 ev1 => ?_)
    obtain rfl : v1 = nI (k - d) := ev1.trans (dsubmax (by omega) (by omega))
    refine lv_istore (lv' := [(4, .int (nI (k - d))), (2, .long (lN 0)), (1, .int (nI k)), (0, .ref oo)]) hx hb d_O_square_45 hl (by decide) rfl (fun ls hl => ?_)
    refine lp_O_sqI (B := B) (oo := oo) (oa := oa) (TO := TO) (cf := cf) (d := d) (ee := k) hx hb hml hg hown hK (Nat.le_trans (Nat.le_of_ble_eq_true rfl) hRf) (Nat.le_trans (Nat.le_of_ble_eq_true rfl) hRl) (by omega) (by omega) hd (by omega) (min d k + 1 - (k - d)) (k - d) 0 S H _ ls (by omega) (by rw [sm_z (fun j hj => if_neg (by omega))]; rfl) (Nat.zero_le _) (by omega) h_oo h_oa hfr hI (lv_sub hl [0, 1, 2, 3] rfl) (fun x S2 H3 locs ls hsx hbx hid j_oo j_oa hfr hI hl => ?_)
    refine lv_aload_n hx hb d_O_square_90 rfl (lv_at hl 3 rfl) ?_
    refine mp_get (C := R_O) (T := F_O) (N := 2) (v := .ref oa) hx hb hg i_O hown hK.va hI j_oo rfl 0 (by decide) (hg _ q_136) (fun _ h9 => h9) rfl d_O_square_91 ?_
    refine lv_iload_n hx hb d_O_square_94 rfl (lv_at hl 2 rfl) ?_
    refine lv_lload_n hx hb d_O_square_95 rfl (lv_at hl 1 rfl) ?_
    refine lv_ldc2 (v := lN 32003) hx hb hown (hg _ q_443) d_O_square_96 ?_
    refine lv_lrem hx hb d_O_square_99 (by decide) ?_
    refine lv_topl (fun v4 ev4 => ?_)
    obtain rfl : v4 = lN (x % 32003) := ev4.trans (pk_lRem (by have := hbx; omega) (by decide) (by decide))
    refine lv_l2i (v := nI (x % 32003)) hx hb d_O_square_100 (lN_i _) ?_
    refine lv_topi (fun v5 ev5 => ?_)
    obtain rfl : v5 = nI (sqN d cf k).val := ev5.trans (congrArg nI (fv_mod (by rw [hsx, sqN_end])))
    refine mp_iast hx hb hK.va hI 0 j_oa rfl (vp_in_nI (show k < 33 by omega) (by omega)) d_O_square_101 (fun S6 H7 locs e_8 hI => ?_)
    have j_oa_o := j_oa
    have e_8 : S6 = va_up S2 oa (some ((TO + 1), .inl ((g 0), 33, .inl (upd (fun j => nI ((sqF d cf (k + 1)) j).val) (nI k).toNatClampNeg (nI (sqN d cf k).val))))) := e_8
    have j_oo : S6 oo = some (TO, .inr (1, [.ref oa, .int (nI d)])) := by rw [e_8]; exact mp_keep j_oo j_oa (by omega)
    have j_oa : S6 oa = some ((TO + 1), .inl ((g 0), 33, .inl (upd (fun j => nI ((sqF d cf (k + 1)) j).val) (nI k).toNatClampNeg (nI (sqN d cf k).val)))) := by rw [e_8]; exact mp_us _ _ _
    have hfr : ∀ b t e9, B b = some (t, e9) → (t ≠ TO) → (t ≠ TO + 1) → S6 b = some (t, e9) := fun b t e9 h9 k0 k1 => by rw [e_8]; exact mp_keep (hfr b t e9 h9 k0 k1) j_oa_o (by omega)
    rw [nI_clamp (by omega), nIv_up] at j_oa
    have e9j_oa : (fun j => nI (va_up (sqF d cf (k + 1)) k (sqN d cf k) j).val) = (fun j => nI ((sqF d cf k) j).val) := by rw [sqF_up (by omega)]
    rw [e9j_oa] at j_oa
    refine lv_iinc (v := (nI k + (-1))) (lv' := [(1, .int (nI k + (-1))), (4, .int (nI (min d k + 1))), (2, .long (lN x)), (0, .ref oo)]) hx hb d_O_square_102 hl (k := 2) rfl (rfl) (by decide) rfl (fun ls hl => ?_)
    refine lv_goto (tgt := 29) hx hb d_O_square_105 (by decide) ?_
    exact ih S6 H7 locs ls (by omega) j_oo j_oa hfr hI (lv_sub hl [0, 3] rfl) kx
set_option maxHeartbeats 4000000 in
set_option maxRecDepth 100000 in
/-- the square -/
theorem c_O_square (l : Launch) (D : mp_G) (g : Nat → ClassId) (S : mp_M) (sz : Nat) (oo oa TO : Nat) (cf : Nat → fF) (d : Nat) (h_oo : S oo = some (TO, .inr (1, [.ref oa, .int (nI d)]))) (h_oa : S oa = some ((TO + 1), .inl ((g 0), 33, .inl (fun j => nI (cf j).val)))) (hd : d ≤ 16) (hz : ∀ k, d < k → cf k = 0) : Met l y_O_square w_O_square ({ frames := 1, cells := 0, slots := 0, locals := 21 }) (va_Pc [.ref oo] (mp_B0 D classes (tys g) S sz)) (va_Qv (fun (S1 : mp_M) => S1 oo = some (TO, .inr (1, [.ref oa, .int (nI (2 * d))])) ∧ S1 oa = some ((TO + 1), .inl ((g 0), 33, .inl (fun j => nI ((sqN d cf) j).val))) ∧ (∀ b t e9, S b = some (t, e9) → (t ≠ TO) → (t ≠ TO + 1) → S1 b = some (t, e9))) (mp_B1 D classes S sz) (mp_A S sz)) 0 0 (mp_A S sz) := by
  refine Met.ofW (cc := b_O_square) (maxL := 5) (ret := none) (by decide) rfl ?_
  intro p e s m args below meth c s₁ B hml hv
  obtain ⟨rfl, hsz, hH, hK⟩ := hv
  have hx := B.exec
  have hb := B.bytes
  have hr := B.returns
  have hts := atoms_spec (ws := w_O_square) B.pre
  have hg : ∀ w ∈ gw, w.before _ s = true := fun w h => hts w (List.mem_cons_of_mem _ h)
  have hown : s.vm.findClass R_O = some m.cls := findClass_of_methodNamed B.named
  have hlocks := B.notSynchronized
  subst hsz
  have hI := mp_I.start hH
  have hl := lv_entry ([.ref oo]) (n := 5) (Nat.le_of_ble_eq_true rfl)
  rw [lg_entry_eq]
  generalize (lg_sl ([.ref oo]) ++ List.replicate (5 - (lg_sl ([.ref oo])).length) Slot.unset).toArray = ls at hl ⊢
  have hl : lv_has ls 5 [(0, .ref oo)] := hl
  have hfr : ∀ b t e9, S b = some (t, e9) → (t ≠ TO) → (t ≠ TO + 1) → S b = some (t, e9) := fun _ _ _ h9 _ _ => h9
  refine lv_aload_n hx hb d_O_square_0 rfl (lv_at hl 0 rfl) ?_
  refine mp_get (C := R_O) (T := F_O) (N := 2) (v := .int (nI d)) hx hb hg i_O hown hK.va hI h_oo rfl 1 (by decide) (hg _ q_138) (fun _ h9 => h9) rfl d_O_square_1 ?_
  refine lv_if_lt (tgt := 21) hx hb d_O_square_4 (by decide) (fun h9 => absurd h9 (nI_pos (by omega))) (fun _ => ?_)
  refine lv_iconst (v := nI 2) hx hb d_O_square_7 (by decide) ?_
  refine lv_aload_n hx hb d_O_square_8 rfl (lv_at hl 0 rfl) ?_
  refine mp_get (C := R_O) (T := F_O) (N := 2) (v := .int (nI d)) hx hb hg i_O hown hK.va hI h_oo rfl 1 (by decide) (hg _ q_138) (fun _ h9 => h9) rfl d_O_square_9 ?_
  refine lv_imul hx hb d_O_square_12 ?_
  refine lv_topi (fun v1 ev1 => ?_)
  obtain rfl : v1 = nI (2 * d) := ev1.trans (pk_mul _ _)
  refine lv_aload_n hx hb d_O_square_13 rfl (lv_at hl 0 rfl) ?_
  refine mp_get (C := R_O) (T := F_O) (N := 2) (v := .ref oa) hx hb hg i_O hown hK.va hI h_oo rfl 0 (by decide) (hg _ q_136) (fun _ h9 => h9) rfl d_O_square_14 ?_
  refine mp_alen (v := nI 33) hx hb hK.va hI 0 h_oa rfl rfl d_O_square_17 ?_
  refine lv_icmp_lt (tgt := 22) hx hb d_O_square_18 (by decide) (fun _ => ?_) (fun h9 => absurd ((nI_ltI (by omega) (by omega)).mpr (by omega)) h9)
  refine lv_iconst (v := nI 2) hx hb d_O_square_22 (by decide) ?_
  refine lv_aload_n hx hb d_O_square_23 rfl (lv_at hl 0 rfl) ?_
  refine mp_get (C := R_O) (T := F_O) (N := 2) (v := .int (nI d)) hx hb hg i_O hown hK.va hI h_oo rfl 1 (by decide) (hg _ q_138) (fun _ h9 => h9) rfl d_O_square_24 ?_
  refine lv_imul hx hb d_O_square_27 ?_
  refine lv_topi (fun v2 ev2 => ?_)
  obtain rfl : v2 = nI (2 * d) := ev2.trans (pk_mul _ _)
  refine lv_topi (fun v3 ev3 => ?_)
  obtain rfl : v3 = (nI (2 * d + 1) + -1) := ev3.trans ((nI_dec _).symm)
  refine lv_istore_n (lv' := [(1, .int (nI (2 * d + 1) + -1)), (0, .ref oo)]) hx hb d_O_square_28 rfl hl (by decide) rfl (fun ls hl => ?_)
  rw [← sqF_top (d := d) (c := cf)] at h_oa
  refine lp_O_sqO (B := S) (oo := oo) (oa := oa) (TO := TO) (cf := cf) (d := d) hx hb hml hg hown hK (Nat.le_of_ble_eq_true rfl) (Nat.le_of_ble_eq_true rfl) (Nat.le_of_ble_eq_true rfl) (Nat.le_of_ble_eq_true rfl) hd (2 * d + 1) S s.heap _ ls (Nat.le_refl _) h_oo h_oa hfr hI (lv_sub hl [0, 1] rfl) (fun S4 H5 locs ls j_oo j_oa hfr hI hl => ?_)
  rw [sqF_0 hz] at j_oa
  refine lv_aload_n hx hb d_O_square_108 rfl (lv_at hl 1 rfl) ?_
  refine lv_iconst (v := nI 2) hx hb d_O_square_109 (by decide) ?_
  refine lv_aload_n hx hb d_O_square_110 rfl (lv_at hl 1 rfl) ?_
  refine mp_get (C := R_O) (T := F_O) (N := 2) (v := .int (nI d)) hx hb hg i_O hown hK.va hI j_oo rfl 1 (by decide) (hg _ q_138) (fun _ h9 => h9) rfl d_O_square_111 ?_
  refine lv_imul hx hb d_O_square_114 ?_
  refine lv_topi (fun v6 ev6 => ?_)
  obtain rfl : v6 = nI (2 * d) := ev6.trans (pk_mul _ _)
  refine mp_put (C := R_O) (T := F_O) (N := 2) (v := .int (nI (2 * d))) (ty := .int) hx hb hg i_O t_O t_O_ok n_O hown hK.va hI j_oo rfl 1 (by decide) (hg _ q_138) (fun _ h9 => h9) rfl (by decide +kernel) (rfl) rfl (Nat.le_of_ble_eq_true rfl) d_O_square_115 (fun S7 H8 locs e_9 hI => ?_)
  have j_oo_o := j_oo
  have e_9 : S7 = va_up S4 oo (some (TO, .inr (1, [.ref oa, .int (nI (2 * d))]))) := e_9
  have j_oa : S7 oa = some ((TO + 1), .inl ((g 0), 33, .inl (fun j => nI ((sqN d cf) j).val))) := by rw [e_9]; exact mp_keep j_oa j_oo (by omega)
  have j_oo : S7 oo = some (TO, .inr (1, [.ref oa, .int (nI (2 * d))])) := by rw [e_9]; exact mp_us _ _ _
  have hfr : ∀ b t e9, S b = some (t, e9) → (t ≠ TO) → (t ≠ TO + 1) → S7 b = some (t, e9) := fun b t e9 h9 k0 k1 => by rw [e_9]; exact mp_keep (hfr b t e9 h9 k0 k1) j_oo_o (by omega)
  refine mp_vret hx hb hr hlocks hI (Nat.le_of_ble_eq_true rfl) (Nat.le_of_ble_eq_true rfl) ?_ d_O_square_118
  exact ⟨j_oo, j_oa, hfr⟩
