/-- a long modulo 32003 -/
def rsN (x : Int64) : Nat := (x.toInt % 32003).toNat
theorem rsN_lt (x : Int64) : rsN x < 32003 := by unfold rsN; omega
theorem rsN_int (x : Int64) : (rsN x : Int) = x.toInt % 32003 := by unfold rsN; omega
theorem tm_em (a : Int) : (0 ≤ a.tmod 32003 → a % 32003 = a.tmod 32003) ∧ (a.tmod 32003 < 0 → a % 32003 = a.tmod 32003 + 32003) := by
  have h1 := tmod_bounds (a := a) (M := 32003) (by decide)
  have h2 : a % 32003 = (a.tmod 32003) % 32003 := by
    have := Int.tmod_add_mul_tdiv a 32003
    calc a % 32003 = (a.tmod 32003 + 32003 * a.tdiv 32003) % 32003 := by rw [this]
      _ = (a.tmod 32003) % 32003 := by rw [Int.add_mul_emod_self_left]
  omega
theorem lN_of {r : Int64} {n : Nat} (h : r.toInt = (n : Int)) (hn : n < 2 ^ 31) : r = lN n := by
  apply Int64.toInt_inj.mp
  rw [h, lN_toInt hn]
theorem rem_l (x : Int64) : (x - x / lN 32003 * lN 32003).toInt = x.toInt.tmod 32003 := by
  rw [Jvm.Kit.i64_rem, lN_toInt (by decide)]; rfl
theorem l2i_small {t : Int64} (h1 : -2147483648 ≤ t.toInt) (h2 : t.toInt < 2147483648) : t.toInt32.toInt = t.toInt := by
  rw [Int64.toInt_toInt32]
  exact Int.bmod_eq_of_le (by omega) (by omega)
theorem res_pos {x : Int64} (h : 0 ≤ (x - x / lN 32003 * lN 32003).toInt32) : (x - x / lN 32003 * lN 32003).toInt32 = nI (rsN x) := by
  have hb := tmod_bounds (a := x.toInt) (M := 32003) (by decide)
  have h2 := l2i_small (t := x - x / lN 32003 * lN 32003) (by rw [rem_l]; omega) (by rw [rem_l]; omega)
  rw [rem_l] at h2
  have h3 := Int32.le_iff_toInt_le.mp h
  apply Int32.toInt_inj.mp
  rw [h2, nI_toInt (Nat.lt_trans (rsN_lt x) (by decide)), rsN_int]
  rw [h2] at h3
  exact ((tm_em x.toInt).1 h3).symm
theorem res_neg {x : Int64} (h : ¬ 0 ≤ (x - x / lN 32003 * lN 32003).toInt32) : (x - x / lN 32003 * lN 32003).toInt32 + nI 32003 = nI (rsN x) := by
  have hb := tmod_bounds (a := x.toInt) (M := 32003) (by decide)
  have h2 := l2i_small (t := x - x / lN 32003 * lN 32003) (by rw [rem_l]; omega) (by rw [rem_l]; omega)
  rw [rem_l] at h2
  have h3 : (x - x / lN 32003 * lN 32003).toInt32.toInt < 0 := by
    rcases Int.lt_or_le (x - x / lN 32003 * lN 32003).toInt32.toInt 0 with q | q
    · exact q
    · exact absurd (show (0 : Int32) ≤ _ from Int32.le_iff_toInt_le.mpr q) h
  apply Int32.toInt_inj.mp
  rw [h2] at h3
  rw [Int32.toInt_add, h2, nI_toInt (by decide), nI_toInt (Nat.lt_trans (rsN_lt x) (by decide)), rsN_int, (tm_em x.toInt).2 h3]
  exact Int.bmod_eq_of_le (by omega) (by omega)
theorem xs_neg (x : Int64) : (x ^^^ lN 32003) < lN 0 ↔ x < 0 := by
  have h1 := BitVec.msb_eq_toInt (x := (x ^^^ lN 32003).toBitVec)
  have h2 := BitVec.msb_eq_toInt (x := x.toBitVec)
  have h3 : (x ^^^ lN 32003).toBitVec.msb = x.toBitVec.msb := by
    rw [Int64.toBitVec_xor, BitVec.msb_xor, show (lN 32003).toBitVec.msb = false by decide, Bool.xor_false]
  rw [h1, h2] at h3
  have h4 := decide_eq_decide.mp h3
  exact ⟨fun h => Int64.lt_iff_toInt_lt.mpr (h4.mp (Int64.lt_iff_toInt_lt.mp h)), fun h => Int64.lt_iff_toInt_lt.mpr (h4.mpr (Int64.lt_iff_toInt_lt.mp h))⟩
theorem fm_a {x : Int64} (h : ¬ x < 0) : (x - x / lN 32003 * lN 32003) = lN (rsN x) := by
  refine lN_of ?_ (Nat.lt_trans (rsN_lt x) (by decide))
  rw [rem_l, rsN_int]
  have h0 : 0 ≤ x.toInt := by
    rcases Int.lt_or_le x.toInt 0 with q | q
    · exact absurd (Int64.lt_iff_toInt_lt.mpr q) h
    · exact q
  exact Int.tmod_eq_emod_of_nonneg h0
theorem fm_z {x : Int64} (h : (x - x / lN 32003 * lN 32003) = lN 0) : (x - x / lN 32003 * lN 32003) = lN (rsN x) := by
  refine lN_of ?_ (Nat.lt_trans (rsN_lt x) (by decide))
  have h1 := congrArg Int64.toInt h
  rw [rem_l, lN_toInt (by decide)] at h1
  rw [rem_l, rsN_int]
  have := (tm_em x.toInt).1 (by omega)
  omega
theorem fm_b {x : Int64} (h : x < 0) (hz : ¬ (x - x / lN 32003 * lN 32003) = lN 0) : (x - x / lN 32003 * lN 32003) + lN 32003 = lN (rsN x) := by
  refine lN_of ?_ (Nat.lt_trans (rsN_lt x) (by decide))
  have hb := tmod_bounds (a := x.toInt) (M := 32003) (by decide)
  have h0 : x.toInt < 0 := by
    have := Int64.lt_iff_toInt_lt.mp h
    exact this
  have hn : x.toInt.tmod 32003 ≤ 0 := by
    have e : x.toInt.tmod 32003 = -((-x.toInt).tmod 32003) := by rw [Int.neg_tmod, Int.neg_neg]
    rw [e, Int.tmod_eq_emod_of_nonneg (by omega)]
    have := Int.emod_nonneg (-x.toInt) (by decide : (32003 : Int) ≠ 0)
    omega
  have hne : x.toInt.tmod 32003 ≠ 0 := fun q => hz (lN_of (by rw [rem_l, q]; rfl) (by decide))
  rw [Int64.toInt_add, rem_l, lN_toInt (by decide), rsN_int, (tm_em x.toInt).2 (by omega)]
  exact Int.bmod_eq_of_le (by omega) (by omega)
theorem add_sub_ge {a b : Nat} (h : 32003 ≤ a + b) : a + b - 32003 + 32003 = a + b := by omega
theorem d_B_numberOf_0 : decode b_B_numberOf 0 = .ok (.lload_n 0, 1) := by decide +kernel
theorem d_B_numberOf_1 : decode b_B_numberOf 1 = .ok (.ldc2_w 192, 3) := by decide +kernel
theorem d_B_numberOf_4 : decode b_B_numberOf 4 = .ok (.invokestatic 194, 3) := by decide +kernel
theorem d_B_numberOf_7 : decode b_B_numberOf 7 = .ok (.l2i, 1) := by decide +kernel
theorem d_B_numberOf_8 : decode b_B_numberOf 8 = .ok (.ireturn, 1) := by decide +kernel
theorem d_M_less_0 : decode b_M_less 0 = .ok (.iload_n 0, 1) := by decide +kernel
theorem d_M_less_1 : decode b_M_less 1 = .ok (.iload_n 1, 1) := by decide +kernel
theorem d_M_less_2 : decode b_M_less 2 = .ok (.if_icmp .lt 9, 3) := by decide +kernel
theorem d_M_less_5 : decode b_M_less 5 = .ok (.iload_n 0, 1) := by decide +kernel
theorem d_M_less_6 : decode b_M_less 6 = .ok (.iload_n 1, 1) := by decide +kernel
theorem d_M_less_7 : decode b_M_less 7 = .ok (.isub, 1) := by decide +kernel
theorem d_M_less_8 : decode b_M_less 8 = .ok (.goto 10, 3) := by decide +kernel
theorem d_M_less_11 : decode b_M_less 11 = .ok (.iload_n 0, 1) := by decide +kernel
theorem d_M_less_12 : decode b_M_less 12 = .ok (.iload_n 1, 1) := by decide +kernel
theorem d_M_less_13 : decode b_M_less 13 = .ok (.isub, 1) := by decide +kernel
theorem d_M_less_14 : decode b_M_less 14 = .ok (.sipush 32003, 3) := by decide +kernel
theorem d_M_less_17 : decode b_M_less 17 = .ok (.iadd, 1) := by decide +kernel
theorem d_M_less_18 : decode b_M_less 18 = .ok (.ireturn, 1) := by decide +kernel
theorem d_M_plus_0 : decode b_M_plus 0 = .ok (.iload_n 0, 1) := by decide +kernel
theorem d_M_plus_1 : decode b_M_plus 1 = .ok (.iload_n 1, 1) := by decide +kernel
theorem d_M_plus_2 : decode b_M_plus 2 = .ok (.iadd, 1) := by decide +kernel
theorem d_M_plus_3 : decode b_M_plus 3 = .ok (.sipush 32003, 3) := by decide +kernel
theorem d_M_plus_6 : decode b_M_plus 6 = .ok (.if_icmp .lt 13, 3) := by decide +kernel
theorem d_M_plus_9 : decode b_M_plus 9 = .ok (.iload_n 0, 1) := by decide +kernel
theorem d_M_plus_10 : decode b_M_plus 10 = .ok (.iload_n 1, 1) := by decide +kernel
theorem d_M_plus_11 : decode b_M_plus 11 = .ok (.iadd, 1) := by decide +kernel
theorem d_M_plus_12 : decode b_M_plus 12 = .ok (.sipush 32003, 3) := by decide +kernel
theorem d_M_plus_15 : decode b_M_plus 15 = .ok (.isub, 1) := by decide +kernel
theorem d_M_plus_16 : decode b_M_plus 16 = .ok (.goto 6, 3) := by decide +kernel
theorem d_M_plus_19 : decode b_M_plus 19 = .ok (.iload_n 0, 1) := by decide +kernel
theorem d_M_plus_20 : decode b_M_plus 20 = .ok (.iload_n 1, 1) := by decide +kernel
theorem d_M_plus_21 : decode b_M_plus 21 = .ok (.iadd, 1) := by decide +kernel
theorem d_M_plus_22 : decode b_M_plus 22 = .ok (.ireturn, 1) := by decide +kernel
theorem d_M_residue_0 : decode b_M_residue 0 = .ok (.lload_n 0, 1) := by decide +kernel
theorem d_M_residue_1 : decode b_M_residue 1 = .ok (.ldc2_w 85, 3) := by decide +kernel
theorem d_M_residue_4 : decode b_M_residue 4 = .ok (.lrem, 1) := by decide +kernel
theorem d_M_residue_5 : decode b_M_residue 5 = .ok (.l2i, 1) := by decide +kernel
theorem d_M_residue_6 : decode b_M_residue 6 = .ok (.istore_n 2, 1) := by decide +kernel
theorem d_M_residue_7 : decode b_M_residue 7 = .ok (.iload_n 2, 1) := by decide +kernel
theorem d_M_residue_8 : decode b_M_residue 8 = .ok (.ifCond .ge 11, 3) := by decide +kernel
theorem d_M_residue_11 : decode b_M_residue 11 = .ok (.iload_n 2, 1) := by decide +kernel
theorem d_M_residue_12 : decode b_M_residue 12 = .ok (.sipush 32003, 3) := by decide +kernel
theorem d_M_residue_15 : decode b_M_residue 15 = .ok (.iadd, 1) := by decide +kernel
theorem d_M_residue_16 : decode b_M_residue 16 = .ok (.goto 4, 3) := by decide +kernel
theorem d_M_residue_19 : decode b_M_residue 19 = .ok (.iload_n 2, 1) := by decide +kernel
theorem d_M_residue_20 : decode b_M_residue 20 = .ok (.ireturn, 1) := by decide +kernel
theorem d_M_times_0 : decode b_M_times 0 = .ok (.iload_n 0, 1) := by decide +kernel
theorem d_M_times_1 : decode b_M_times 1 = .ok (.i2l, 1) := by decide +kernel
theorem d_M_times_2 : decode b_M_times 2 = .ok (.iload_n 1, 1) := by decide +kernel
theorem d_M_times_3 : decode b_M_times 3 = .ok (.i2l, 1) := by decide +kernel
theorem d_M_times_4 : decode b_M_times 4 = .ok (.lmul, 1) := by decide +kernel
theorem d_M_times_5 : decode b_M_times 5 = .ok (.ldc2_w 85, 3) := by decide +kernel
theorem d_M_times_8 : decode b_M_times 8 = .ok (.lrem, 1) := by decide +kernel
theorem d_M_times_9 : decode b_M_times 9 = .ok (.l2i, 1) := by decide +kernel
theorem d_M_times_10 : decode b_M_times 10 = .ok (.ireturn, 1) := by decide +kernel
theorem d_X_floorMod_0 : decode b_X_floorMod 0 = .ok (.lload_n 0, 1) := by decide +kernel
theorem d_X_floorMod_1 : decode b_X_floorMod 1 = .ok (.lload_n 2, 1) := by decide +kernel
theorem d_X_floorMod_2 : decode b_X_floorMod 2 = .ok (.lrem, 1) := by decide +kernel
theorem d_X_floorMod_3 : decode b_X_floorMod 3 = .ok (.lstore 4, 2) := by decide +kernel
theorem d_X_floorMod_5 : decode b_X_floorMod 5 = .ok (.lload_n 0, 1) := by decide +kernel
theorem d_X_floorMod_6 : decode b_X_floorMod 6 = .ok (.lload_n 2, 1) := by decide +kernel
theorem d_X_floorMod_7 : decode b_X_floorMod 7 = .ok (.lxor, 1) := by decide +kernel
theorem d_X_floorMod_8 : decode b_X_floorMod 8 = .ok (.lconst 0, 1) := by decide +kernel
theorem d_X_floorMod_9 : decode b_X_floorMod 9 = .ok (.lcmp, 1) := by decide +kernel
theorem d_X_floorMod_10 : decode b_X_floorMod 10 = .ok (.ifCond .ge 15, 3) := by decide +kernel
theorem d_X_floorMod_13 : decode b_X_floorMod 13 = .ok (.lload 4, 2) := by decide +kernel
theorem d_X_floorMod_15 : decode b_X_floorMod 15 = .ok (.lconst 0, 1) := by decide +kernel
theorem d_X_floorMod_16 : decode b_X_floorMod 16 = .ok (.lcmp, 1) := by decide +kernel
theorem d_X_floorMod_17 : decode b_X_floorMod 17 = .ok (.ifCond .eq 8, 3) := by decide +kernel
theorem d_X_floorMod_20 : decode b_X_floorMod 20 = .ok (.lload 4, 2) := by decide +kernel
theorem d_X_floorMod_22 : decode b_X_floorMod 22 = .ok (.lload_n 2, 1) := by decide +kernel
theorem d_X_floorMod_23 : decode b_X_floorMod 23 = .ok (.ladd, 1) := by decide +kernel
theorem d_X_floorMod_24 : decode b_X_floorMod 24 = .ok (.lreturn, 1) := by decide +kernel
theorem d_X_floorMod_25 : decode b_X_floorMod 25 = .ok (.lload 4, 2) := by decide +kernel
theorem d_X_floorMod_27 : decode b_X_floorMod 27 = .ok (.lreturn, 1) := by decide +kernel
set_option maxHeartbeats 4000000 in
set_option maxRecDepth 100000 in
/-- Math.floorMod by 32003 -/
theorem c_X_floorMod (l : Launch) (D : mp_G) (g : Nat → ClassId) (S : mp_M) (sz : Nat) (x : Int64)   : Met l y_X_floorMod w_X_floorMod ({ frames := 0, cells := 0, slots := 0, locals := 0 }) (va_Pc [.long x, .long (lN 32003)] (mp_B0 D classes (tys g) S sz)) (va_Ql (fun (r : Int64) (S1 : mp_M) => r = lN (rsN x) ∧ S1 = S) (mp_B1 D classes S sz) (mp_A S sz)) 0 0 (mp_A S sz) := by
  refine va_MetF (cc := b_X_floorMod) (maxL := 6) (ret := (some .long)) (by decide +kernel) rfl ?_
  intro p e s m args below meth c s₁ B hml hv
  obtain ⟨rfl, hsz, hH, hK⟩ := hv
  have hx := B.exec
  have hb := B.bytes
  have hr := B.returns
  have hts := atoms_spec (ws := w_X_floorMod) B.pre
  have hg : ∀ w ∈ gw, w.before _ s = true := fun w h => hts w (List.mem_cons_of_mem _ h)
  have hown : s.vm.findClass R_X = some m.cls := findClass_of_methodNamed B.named
  have hlocks := B.notSynchronized
  subst hsz
  have hI := mp_I.start hH
  have hl := lv_entry ([.long x, .long (lN 32003)]) (n := 6) (Nat.le_of_ble_eq_true rfl)
  rw [lg_entry_eq]
  generalize (lg_sl ([.long x, .long (lN 32003)]) ++ List.replicate (6 - (lg_sl ([.long x, .long (lN 32003)])).length) Slot.unset).toArray = ls at hl ⊢
  have hl : lv_has ls 6 [(0, .long x), (2, .long (lN 32003))] := hl
  refine lv_lload_n hx hb d_X_floorMod_0 rfl (lv_at hl 0 rfl) ?_
  refine lv_lload_n hx hb d_X_floorMod_1 rfl (lv_at hl 1 rfl) ?_
  refine lv_lrem hx hb d_X_floorMod_2 (by decide) ?_
  refine lv_lstore (lv' := [(4, .long (x - x / lN 32003 * lN 32003)), (0, .long x), (2, .long (lN 32003))]) hx hb d_X_floorMod_3 hl (by decide) rfl (fun ls hl => ?_)
  refine lv_lload_n hx hb d_X_floorMod_5 rfl (lv_at hl 1 rfl) ?_
  refine lv_lload_n hx hb d_X_floorMod_6 rfl (lv_at hl 2 rfl) ?_
  refine lv_lxor hx hb d_X_floorMod_7 ?_
  refine lv_lconst (v := lN 0) hx hb d_X_floorMod_8 (by decide) ?_
  refine W.lcmp hx hb d_X_floorMod_9 ?_
  refine lv_if_ge (tgt := 25) hx hb d_X_floorMod_10 (by decide) (fun c1 => ?_) (fun c1 => ?_)
  · rw [lg_cmp_ge] at c1
    refine lv_lload hx hb d_X_floorMod_25 (lv_at hl 0 rfl) ?_
    exact mp_lret hx hb hr hlocks hI (by decide) (by decide) (⟨fm_a (fun q => Int64.not_le.mpr ((xs_neg x).mpr q) c1), rfl⟩) d_X_floorMod_27
  · rw [lg_cmp_ge] at c1
    refine lv_lload hx hb d_X_floorMod_13 (lv_at hl 0 rfl) ?_
    refine lv_lconst (v := lN 0) hx hb d_X_floorMod_15 (by decide) ?_
    refine W.lcmp hx hb d_X_floorMod_16 ?_
    refine lv_if_eq (tgt := 25) hx hb d_X_floorMod_17 (by decide) (fun c2 => ?_) (fun c2 => ?_)
    · rw [lg_cmp_eq] at c2
      refine lv_lload hx hb d_X_floorMod_25 (lv_at hl 0 rfl) ?_
      exact mp_lret hx hb hr hlocks hI (by decide) (by decide) (⟨fm_z c2, rfl⟩) d_X_floorMod_27
    · rw [lg_cmp_eq] at c2
      refine lv_lload hx hb d_X_floorMod_20 (lv_at hl 0 rfl) ?_
      refine lv_lload_n hx hb d_X_floorMod_22 rfl (lv_at hl 2 rfl) ?_
      refine lv_ladd hx hb d_X_floorMod_23 ?_
      exact mp_lret hx hb hr hlocks hI (by decide) (by decide) (⟨fm_b ((xs_neg x).mp (Int64.not_le.mp c1)) c2, rfl⟩) d_X_floorMod_24
set_option maxHeartbeats 4000000 in
set_option maxRecDepth 100000 in
/-- a number of the field -/
theorem c_B_numberOf (l : Launch) (D : mp_G) (g : Nat → ClassId) (S : mp_M) (sz : Nat) (x : Int64)   : Met l y_B_numberOf w_B_numberOf ({ frames := 1, cells := 0, slots := 0, locals := 25 }) (va_Pc [.long x] (mp_B0 D classes (tys g) S sz)) (va_Qi (fun (r : Int32) (S1 : mp_M) => r = nI (rsN x) ∧ S1 = S) (mp_B1 D classes S sz) (mp_A S sz)) 0 0 (mp_A S sz) := by
  refine Met.ofW (cc := b_B_numberOf) (maxL := 2) (ret := (some .int)) (by decide) rfl ?_
  intro p e s m args below meth c s₁ B hml hv
  obtain ⟨rfl, hsz, hH, hK⟩ := hv
  have hx := B.exec
  have hb := B.bytes
  have hr := B.returns
  have hts := atoms_spec (ws := w_B_numberOf) B.pre
  have hg : ∀ w ∈ gw, w.before _ s = true := fun w h => hts w (List.mem_cons_of_mem _ h)
  have hown : s.vm.findClass R_B = some m.cls := findClass_of_methodNamed B.named
  have hlocks := B.notSynchronized
  subst hsz
  have hI := mp_I.start hH
  have hl := lv_entry ([.long x]) (n := 2) (Nat.le_of_ble_eq_true rfl)
  rw [lg_entry_eq]
  generalize (lg_sl ([.long x]) ++ List.replicate (2 - (lg_sl ([.long x])).length) Slot.unset).toArray = ls at hl ⊢
  have hl : lv_has ls 2 [(0, .long x)] := hl
  refine lv_lload_n hx hb d_B_numberOf_0 rfl (lv_at hl 0 rfl) ?_
  refine lv_ldc2 (v := lN 32003) hx hb hown (hg _ q_671) d_B_numberOf_1 ?_
  refine mp_calll hI (va_runS (As := [.long x, .long (lN 32003)]) (rest := []) ⟨hx, hb, hml, hown, hg⟩ (c_X_floorMod l D g S _ x) ⟨(callB_of 2 hg (wd_goodG q_674) rfl rfl rfl (hg _ q_4) (hg _ q_672) (by decide +kernel) ⟨Nat.le_of_ble_eq_true rfl, Nat.le_of_ble_eq_true rfl⟩), hg _ q_673⟩ (mp_pre hI hK [.long x, .long (lN 32003)]) rfl rfl hl.1 rfl (lv_room (Nat.le_of_ble_eq_true rfl)) d_B_numberOf_4 ⟨Nat.le_of_ble_eq_true rfl, Nat.le_of_ble_eq_true rfl⟩) (fun r4 S1 H2 locs p_3 hI => ?_)
  obtain ⟨er4, eS5⟩ := p_3
  rw [eS5] at hI
  have er4 : r4 = lN (rsN x) := er4
  subst er4
  refine lv_l2i (v := nI (rsN x)) hx hb d_B_numberOf_7 (lN_i _) ?_
  exact mp_iret hx hb hr hlocks hI (by decide) (by decide) (⟨rfl, rfl⟩) d_B_numberOf_8
set_option maxHeartbeats 4000000 in
set_option maxRecDepth 100000 in
/-- the product of two numbers -/
theorem c_M_times (l : Launch) (D : mp_G) (g : Nat → ClassId) (S : mp_M) (sz : Nat) (a b : Nat)  (ha : a < 2 ^ 31) (hb9 : b < 2 ^ 31) : Met l y_M_times w_M_times ({ frames := 0, cells := 0, slots := 0, locals := 0 }) (va_Pc [.int (nI a), .int (nI b)] (mp_B0 D classes (tys g) S sz)) (va_Qi (fun (r : Int32) (S1 : mp_M) => r = nI (a * b % 32003) ∧ S1 = S) (mp_B1 D classes S sz) (mp_A S sz)) 0 0 (mp_A S sz) := by
  refine Met.ofW (cc := b_M_times) (maxL := 2) (ret := (some .int)) (by decide) rfl ?_
  intro p e s m args below meth c s₁ B hml hv
  obtain ⟨rfl, hsz, hH, hK⟩ := hv
  have hx := B.exec
  have hb := B.bytes
  have hr := B.returns
  have hts := atoms_spec (ws := w_M_times) B.pre
  have hg : ∀ w ∈ gw, w.before _ s = true := fun w h => hts w (List.mem_cons_of_mem _ h)
  have hown : s.vm.findClass R_M = some m.cls := findClass_of_methodNamed B.named
  have hlocks := B.notSynchronized
  subst hsz
  have hI := mp_I.start hH
  have hl := lv_entry ([.int (nI a), .int (nI b)]) (n := 2) (Nat.le_of_ble_eq_true rfl)
  rw [lg_entry_eq]
  generalize (lg_sl ([.int (nI a), .int (nI b)]) ++ List.replicate (2 - (lg_sl ([.int (nI a), .int (nI b)])).length) Slot.unset).toArray = ls at hl ⊢
  have hl : lv_has ls 2 [(0, .int (nI a)), (1, .int (nI b))] := hl
  refine lv_iload_n hx hb d_M_times_0 rfl (lv_at hl 0 rfl) ?_
  refine lv_i2l (v := lN a) hx hb d_M_times_1 (nI_l (by omega)) ?_
  refine lv_iload_n hx hb d_M_times_2 rfl (lv_at hl 1 rfl) ?_
  refine lv_i2l (v := lN b) hx hb d_M_times_3 (nI_l (by omega)) ?_
  refine lv_lmul hx hb d_M_times_4 ?_
  refine lv_topl (fun v1 ev1 => ?_)
  obtain rfl : v1 = lN (a * b) := ev1.trans (lN_mul _ _)
  refine lv_ldc2 (v := lN 32003) hx hb hown (hg _ q_921) d_M_times_5 ?_
  refine lv_lrem hx hb d_M_times_8 (by decide) ?_
  refine lv_topl (fun v2 ev2 => ?_)
  obtain rfl : v2 = lN ((a * b) % 32003) := ev2.trans (pk_lRem (Nat.lt_trans (Nat.mul_lt_mul_of_lt_of_lt ha hb9) (by decide)) (by decide) (by decide))
  refine lv_l2i (v := nI ((a * b) % 32003)) hx hb d_M_times_9 (lN_i _) ?_
  exact mp_iret hx hb hr hlocks hI (by decide) (by decide) (⟨rfl, rfl⟩) d_M_times_10
set_option maxHeartbeats 4000000 in
set_option maxRecDepth 100000 in
/-- a long modulo 32003 -/
theorem c_M_residue (l : Launch) (D : mp_G) (g : Nat → ClassId) (S : mp_M) (sz : Nat) (x : Int64)   : Met l y_M_residue w_M_residue ({ frames := 0, cells := 0, slots := 0, locals := 0 }) (va_Pc [.long x] (mp_B0 D classes (tys g) S sz)) (va_Qi (fun (r : Int32) (S1 : mp_M) => r = nI (rsN x) ∧ S1 = S) (mp_B1 D classes S sz) (mp_A S sz)) 0 0 (mp_A S sz) := by
  refine Met.ofW (cc := b_M_residue) (maxL := 3) (ret := (some .int)) (by decide) rfl ?_
  intro p e s m args below meth c s₁ B hml hv
  obtain ⟨rfl, hsz, hH, hK⟩ := hv
  have hx := B.exec
  have hb := B.bytes
  have hr := B.returns
  have hts := atoms_spec (ws := w_M_residue) B.pre
  have hg : ∀ w ∈ gw, w.before _ s = true := fun w h => hts w (List.mem_cons_of_mem _ h)
  have hown : s.vm.findClass R_M = some m.cls := findClass_of_methodNamed B.named
  have hlocks := B.notSynchronized
  subst hsz
  have hI := mp_I.start hH
  have hl := lv_entry ([.long x]) (n := 3) (Nat.le_of_ble_eq_true rfl)
  rw [lg_entry_eq]
  generalize (lg_sl ([.long x]) ++ List.replicate (3 - (lg_sl ([.long x])).length) Slot.unset).toArray = ls at hl ⊢
  have hl : lv_has ls 3 [(0, .long x)] := hl
  refine lv_lload_n hx hb d_M_residue_0 rfl (lv_at hl 0 rfl) ?_
  refine lv_ldc2 (v := lN 32003) hx hb hown (hg _ q_921) d_M_residue_1 ?_
  refine lv_lrem hx hb d_M_residue_4 (by decide) ?_
  refine lv_l2i (v := ((x - x / lN 32003 * lN 32003)).toInt32) hx hb d_M_residue_5 rfl ?_
  refine lv_istore_n (lv' := [(2, .int (((x - x / lN 32003 * lN 32003)).toInt32)), (0, .long x)]) hx hb d_M_residue_6 rfl hl (by decide) rfl (fun ls hl => ?_)
  refine lv_iload_n hx hb d_M_residue_7 rfl (lv_at hl 0 rfl) ?_
  refine lv_if_ge (tgt := 19) hx hb d_M_residue_8 (by decide) (fun c1 => ?_) (fun c1 => ?_)
  · refine lv_iload_n hx hb d_M_residue_19 rfl (lv_at hl 0 rfl) ?_
    exact mp_iret hx hb hr hlocks hI (by decide) (by decide) (⟨res_pos c1, rfl⟩) d_M_residue_20
  · refine lv_iload_n hx hb d_M_residue_11 rfl (lv_at hl 0 rfl) ?_
    refine lv_sipush (v := nI 32003) hx hb d_M_residue_12 (by decide) ?_
    refine lv_iadd hx hb d_M_residue_15 ?_
    refine lv_goto (tgt := 20) hx hb d_M_residue_16 (by decide) ?_
    exact mp_iret hx hb hr hlocks hI (by decide) (by decide) (⟨res_neg c1, rfl⟩) d_M_residue_20
set_option maxHeartbeats 4000000 in
set_option maxRecDepth 100000 in
/-- one number less another -/
theorem c_M_less (l : Launch) (D : mp_G) (g : Nat → ClassId) (S : mp_M) (sz : Nat) (a b : Nat)  (ha : a < 32003) (hb9 : b < 32003) : Met l y_M_less w_M_less ({ frames := 0, cells := 0, slots := 0, locals := 0 }) (va_Pc [.int (nI a), .int (nI b)] (mp_B0 D classes (tys g) S sz)) (va_Qi (fun (r : Int32) (S1 : mp_M) => r = nI ((a + (32003 - b)) % 32003) ∧ S1 = S) (mp_B1 D classes S sz) (mp_A S sz)) 0 0 (mp_A S sz) := by
  refine Met.ofW (cc := b_M_less) (maxL := 2) (ret := (some .int)) (by decide) rfl ?_
  intro p e s m args below meth c s₁ B hml hv
  obtain ⟨rfl, hsz, hH, hK⟩ := hv
  have hx := B.exec
  have hb := B.bytes
  have hr := B.returns
  have hts := atoms_spec (ws := w_M_less) B.pre
  have hg : ∀ w ∈ gw, w.before _ s = true := fun w h => hts w (List.mem_cons_of_mem _ h)
  have hown : s.vm.findClass R_M = some m.cls := findClass_of_methodNamed B.named
  have hlocks := B.notSynchronized
  subst hsz
  have hI := mp_I.start hH
  have hl := lv_entry ([.int (nI a), .int (nI b)]) (n := 2) (Nat.le_of_ble_eq_true rfl)
  rw [lg_entry_eq]
  generalize (lg_sl ([.int (nI a), .int (nI b)]) ++ List.replicate (2 - (lg_sl ([.int (nI a), .int (nI b)])).length) Slot.unset).toArray = ls at hl ⊢
  have hl : lv_has ls 2 [(0, .int (nI a)), (1, .int (nI b))] := hl
  refine lv_iload_n hx hb d_M_less_0 rfl (lv_at hl 0 rfl) ?_
  refine lv_iload_n hx hb d_M_less_1 rfl (lv_at hl 1 rfl) ?_
  refine lv_icmp_lt (tgt := 11) hx hb d_M_less_2 (by decide) (fun c1 => ?_) (fun c1 => ?_)
  · rw [nI_ltI (by omega) (by omega)] at c1
    refine lv_iload_n hx hb d_M_less_11 rfl (lv_at hl 0 rfl) ?_
    refine lv_iload_n hx hb d_M_less_12 rfl (lv_at hl 1 rfl) ?_
    refine lv_isub hx hb d_M_less_13 ?_
    refine lv_sipush (v := nI 32003) hx hb d_M_less_14 (by decide) ?_
    refine lv_iadd hx hb d_M_less_17 ?_
    refine lv_topi (fun v1 ev1 => ?_)
    obtain rfl : v1 = nI (a + (32003 - b)) := ev1.trans (by rw [show a + (32003 - b) = a + 32003 - b by omega, ← pk_sub (by omega), ← nI_add]; grind)
    exact mp_iret hx hb hr hlocks hI (by decide) (by decide) (⟨congrArg nI (by omega), rfl⟩) d_M_less_18
  · rw [nI_ltI (by omega) (by omega)] at c1
    refine lv_iload_n hx hb d_M_less_5 rfl (lv_at hl 0 rfl) ?_
    refine lv_iload_n hx hb d_M_less_6 rfl (lv_at hl 1 rfl) ?_
    refine lv_isub hx hb d_M_less_7 ?_
    refine lv_topi (fun v2 ev2 => ?_)
    obtain rfl : v2 = nI (a - b) := ev2.trans (pk_sub (by omega))
    refine lv_goto (tgt := 18) hx hb d_M_less_8 (by decide) ?_
    exact mp_iret hx hb hr hlocks hI (by decide) (by decide) (⟨congrArg nI (by omega), rfl⟩) d_M_less_18
set_option maxHeartbeats 4000000 in
set_option maxRecDepth 100000 in
/-- the sum of two numbers -/
theorem c_M_plus (l : Launch) (D : mp_G) (g : Nat → ClassId) (S : mp_M) (sz : Nat) (a b : Nat)  (ha : a < 32003) (hb9 : b < 32003) : Met l y_M_plus w_M_plus ({ frames := 0, cells := 0, slots := 0, locals := 0 }) (va_Pc [.int (nI a), .int (nI b)] (mp_B0 D classes (tys g) S sz)) (va_Qi (fun (r : Int32) (S1 : mp_M) => r = nI ((a + b) % 32003) ∧ S1 = S) (mp_B1 D classes S sz) (mp_A S sz)) 0 0 (mp_A S sz) := by
  refine Met.ofW (cc := b_M_plus) (maxL := 2) (ret := (some .int)) (by decide) rfl ?_
  intro p e s m args below meth c s₁ B hml hv
  obtain ⟨rfl, hsz, hH, hK⟩ := hv
  have hx := B.exec
  have hb := B.bytes
  have hr := B.returns
  have hts := atoms_spec (ws := w_M_plus) B.pre
  have hg : ∀ w ∈ gw, w.before _ s = true := fun w h => hts w (List.mem_cons_of_mem _ h)
  have hown : s.vm.findClass R_M = some m.cls := findClass_of_methodNamed B.named
  have hlocks := B.notSynchronized
  subst hsz
  have hI := mp_I.start hH
  have hl := lv_entry ([.int (nI a), .int (nI b)]) (n := 2) (Nat.le_of_ble_eq_true rfl)
  rw [lg_entry_eq]
  generalize (lg_sl ([.int (nI a), .int (nI b)]) ++ List.replicate (2 - (lg_sl ([.int (nI a), .int (nI b)])).length) Slot.unset).toArray = ls at hl ⊢
  have hl : lv_has ls 2 [(0, .int (nI a)), (1, .int (nI b))] := hl
  refine lv_iload_n hx hb d_M_plus_0 rfl (lv_at hl 0 rfl) ?_
  refine lv_iload_n hx hb d_M_plus_1 rfl (lv_at hl 1 rfl) ?_
  refine lv_iadd hx hb d_M_plus_2 ?_
  refine lv_topi (fun v1 ev1 => ?_)
  obtain rfl : v1 = nI (a + b) := ev1.trans (nI_add _ _)
  refine lv_sipush (v := nI 32003) hx hb d_M_plus_3 (by decide) ?_
  refine lv_icmp_lt (tgt := 19) hx hb d_M_plus_6 (by decide) (fun c1 => ?_) (fun c1 => ?_)
  · rw [nI_ltI (by omega) (by omega)] at c1
    refine lv_iload_n hx hb d_M_plus_19 rfl (lv_at hl 0 rfl) ?_
    refine lv_iload_n hx hb d_M_plus_20 rfl (lv_at hl 1 rfl) ?_
    refine lv_iadd hx hb d_M_plus_21 ?_
    refine lv_topi (fun v2 ev2 => ?_)
    obtain rfl : v2 = nI (a + b) := ev2.trans (nI_add _ _)
    exact mp_iret hx hb hr hlocks hI (by decide) (by decide) (⟨congrArg nI (by omega), rfl⟩) d_M_plus_22
  · rw [nI_ltI (by omega) (by omega)] at c1
    refine lv_iload_n hx hb d_M_plus_9 rfl (lv_at hl 0 rfl) ?_
    refine lv_iload_n hx hb d_M_plus_10 rfl (lv_at hl 1 rfl) ?_
    refine lv_iadd hx hb d_M_plus_11 ?_
    refine lv_topi (fun v3 ev3 => ?_)
    obtain rfl : v3 = nI (a + b) := ev3.trans (nI_add _ _)
    refine lv_sipush (v := nI 32003) hx hb d_M_plus_12 (by decide) ?_
    refine lv_isub hx hb d_M_plus_15 ?_
    refine lv_topi (fun v4 ev4 => ?_)
    obtain rfl : v4 = nI ((a + b) - 32003) := ev4.trans (pk_sub (by omega))
    refine lv_goto (tgt := 22) hx hb d_M_plus_16 (by decide) ?_
    exact mp_iret hx hb hr hlocks hI (by decide) (by decide) (⟨congrArg nI (by omega), rfl⟩) d_M_plus_22
