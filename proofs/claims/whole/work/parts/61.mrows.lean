/-- a row of the reference's field of rows, y times another taken off, i numbers so far -/
def trI (a b : Nat) (y : fF) (RW : Nat → fF) (i : Nat) : Nat → fF := fun j => if a ≤ j ∧ j < a + i then RW j - y * RW (b + (j - a)) else RW j
theorem trI_0 (a b : Nat) (y : fF) (RW : Nat → fF) : trI a b y RW 0 = RW := by funext j; unfold trI; rw [if_neg (by omega)]
theorem trI_z (a b : Nat) (RW : Nat → fF) (i : Nat) : trI a b 0 RW i = RW := by funext j; unfold trI; split <;> grind
theorem trI_out {a b : Nat} {y : fF} {RW : Nat → fF} {i j : Nat} (h : j < a ∨ a + i ≤ j) : trI a b y RW i j = RW j := by unfold trI; rw [if_neg (by omega)]
theorem trI_up {a b : Nat} {y : fF} {RW : Nat → fF} {i : Nat} : va_up (trI a b y RW i) (a + i) (RW (a + i) - y * RW (b + i)) = trI a b y RW (i + 1) := by
  funext j
  by_cases e : j = a + i
  · rw [e, mp_us]; unfold trI; rw [if_pos (by omega), Nat.add_sub_cancel_left]
  · rw [mp_un e]; unfold trI
    by_cases q : a ≤ j ∧ j < a + i
    · rw [if_pos q, if_pos (by omega)]
    · rw [if_neg q, if_neg (by omega)]

theorem d_M_multiply_0 : decode b_M_multiply 0 = .ok (.iconst 0, 1) := by decide +kernel
theorem d_M_multiply_1 : decode b_M_multiply 1 = .ok (.istore_n 2, 1) := by decide +kernel
theorem d_M_multiply_2 : decode b_M_multiply 2 = .ok (.iload_n 2, 1) := by decide +kernel
theorem d_M_multiply_3 : decode b_M_multiply 3 = .ok (.aload_n 0, 1) := by decide +kernel
theorem d_M_multiply_4 : decode b_M_multiply 4 = .ok (.getfield 171, 3) := by decide +kernel
theorem d_M_multiply_7 : decode b_M_multiply 7 = .ok (.if_icmp .ge 69, 3) := by decide +kernel
theorem d_M_multiply_10 : decode b_M_multiply 10 = .ok (.iconst 0, 1) := by decide +kernel
theorem d_M_multiply_11 : decode b_M_multiply 11 = .ok (.istore_n 3, 1) := by decide +kernel
theorem d_M_multiply_12 : decode b_M_multiply 12 = .ok (.iconst 0, 1) := by decide +kernel
theorem d_M_multiply_13 : decode b_M_multiply 13 = .ok (.istore 4, 2) := by decide +kernel
theorem d_M_multiply_15 : decode b_M_multiply 15 = .ok (.iload 4, 2) := by decide +kernel
theorem d_M_multiply_17 : decode b_M_multiply 17 = .ok (.aload_n 0, 1) := by decide +kernel
theorem d_M_multiply_18 : decode b_M_multiply 18 = .ok (.getfield 171, 3) := by decide +kernel
theorem d_M_multiply_21 : decode b_M_multiply 21 = .ok (.if_icmp .ge 42, 3) := by decide +kernel
theorem d_M_multiply_24 : decode b_M_multiply 24 = .ok (.iload_n 3, 1) := by decide +kernel
theorem d_M_multiply_25 : decode b_M_multiply 25 = .ok (.aload_n 0, 1) := by decide +kernel
theorem d_M_multiply_26 : decode b_M_multiply 26 = .ok (.getfield 35, 3) := by decide +kernel
theorem d_M_multiply_29 : decode b_M_multiply 29 = .ok (.sipush 256, 3) := by decide +kernel
theorem d_M_multiply_32 : decode b_M_multiply 32 = .ok (.iload_n 1, 1) := by decide +kernel
theorem d_M_multiply_33 : decode b_M_multiply 33 = .ok (.imul, 1) := by decide +kernel
theorem d_M_multiply_34 : decode b_M_multiply 34 = .ok (.bipush 16, 2) := by decide +kernel
theorem d_M_multiply_36 : decode b_M_multiply 36 = .ok (.iload_n 2, 1) := by decide +kernel
theorem d_M_multiply_37 : decode b_M_multiply 37 = .ok (.imul, 1) := by decide +kernel
theorem d_M_multiply_38 : decode b_M_multiply 38 = .ok (.iadd, 1) := by decide +kernel
theorem d_M_multiply_39 : decode b_M_multiply 39 = .ok (.iload 4, 2) := by decide +kernel
theorem d_M_multiply_41 : decode b_M_multiply 41 = .ok (.iadd, 1) := by decide +kernel
theorem d_M_multiply_42 : decode b_M_multiply 42 = .ok (.iaload, 1) := by decide +kernel
theorem d_M_multiply_43 : decode b_M_multiply 43 = .ok (.aload_n 0, 1) := by decide +kernel
theorem d_M_multiply_44 : decode b_M_multiply 44 = .ok (.getfield 60, 3) := by decide +kernel
theorem d_M_multiply_47 : decode b_M_multiply 47 = .ok (.iload 4, 2) := by decide +kernel
theorem d_M_multiply_49 : decode b_M_multiply 49 = .ok (.iaload, 1) := by decide +kernel
theorem d_M_multiply_50 : decode b_M_multiply 50 = .ok (.invokestatic 87, 3) := by decide +kernel
theorem d_M_multiply_53 : decode b_M_multiply 53 = .ok (.invokestatic 174, 3) := by decide +kernel
theorem d_M_multiply_56 : decode b_M_multiply 56 = .ok (.istore_n 3, 1) := by decide +kernel
theorem d_M_multiply_57 : decode b_M_multiply 57 = .ok (.iinc 4 1, 3) := by decide +kernel
theorem d_M_multiply_60 : decode b_M_multiply 60 = .ok (.goto (-45), 3) := by decide +kernel
theorem d_M_multiply_63 : decode b_M_multiply 63 = .ok (.aload_n 0, 1) := by decide +kernel
theorem d_M_multiply_64 : decode b_M_multiply 64 = .ok (.getfield 63, 3) := by decide +kernel
theorem d_M_multiply_67 : decode b_M_multiply 67 = .ok (.iload_n 2, 1) := by decide +kernel
theorem d_M_multiply_68 : decode b_M_multiply 68 = .ok (.iload_n 3, 1) := by decide +kernel
theorem d_M_multiply_69 : decode b_M_multiply 69 = .ok (.iastore, 1) := by decide +kernel
theorem d_M_multiply_70 : decode b_M_multiply 70 = .ok (.iinc 2 1, 3) := by decide +kernel
theorem d_M_multiply_73 : decode b_M_multiply 73 = .ok (.goto (-71), 3) := by decide +kernel
theorem d_M_multiply_76 : decode b_M_multiply 76 = .ok (.iconst 0, 1) := by decide +kernel
theorem d_M_multiply_77 : decode b_M_multiply 77 = .ok (.istore_n 2, 1) := by decide +kernel
theorem d_M_multiply_78 : decode b_M_multiply 78 = .ok (.iload_n 2, 1) := by decide +kernel
theorem d_M_multiply_79 : decode b_M_multiply 79 = .ok (.aload_n 0, 1) := by decide +kernel
theorem d_M_multiply_80 : decode b_M_multiply 80 = .ok (.getfield 171, 3) := by decide +kernel
theorem d_M_multiply_83 : decode b_M_multiply 83 = .ok (.if_icmp .ge 21, 3) := by decide +kernel
theorem d_M_multiply_86 : decode b_M_multiply 86 = .ok (.aload_n 0, 1) := by decide +kernel
theorem d_M_multiply_87 : decode b_M_multiply 87 = .ok (.getfield 60, 3) := by decide +kernel
theorem d_M_multiply_90 : decode b_M_multiply 90 = .ok (.iload_n 2, 1) := by decide +kernel
theorem d_M_multiply_91 : decode b_M_multiply 91 = .ok (.aload_n 0, 1) := by decide +kernel
theorem d_M_multiply_92 : decode b_M_multiply 92 = .ok (.getfield 63, 3) := by decide +kernel
theorem d_M_multiply_95 : decode b_M_multiply 95 = .ok (.iload_n 2, 1) := by decide +kernel
theorem d_M_multiply_96 : decode b_M_multiply 96 = .ok (.iaload, 1) := by decide +kernel
theorem d_M_multiply_97 : decode b_M_multiply 97 = .ok (.iastore, 1) := by decide +kernel
theorem d_M_multiply_98 : decode b_M_multiply 98 = .ok (.iinc 2 1, 3) := by decide +kernel
theorem d_M_multiply_101 : decode b_M_multiply 101 = .ok (.goto (-23), 3) := by decide +kernel
theorem d_M_multiply_104 : decode b_M_multiply 104 = .ok (.return_, 1) := by decide +kernel
theorem d_M_takeRow_0 : decode b_M_takeRow 0 = .ok (.aload_n 0, 1) := by decide +kernel
theorem d_M_takeRow_1 : decode b_M_takeRow 1 = .ok (.getfield 66, 3) := by decide +kernel
theorem d_M_takeRow_4 : decode b_M_takeRow 4 = .ok (.iload_n 1, 1) := by decide +kernel
theorem d_M_takeRow_5 : decode b_M_takeRow 5 = .ok (.iload_n 3, 1) := by decide +kernel
theorem d_M_takeRow_6 : decode b_M_takeRow 6 = .ok (.iadd, 1) := by decide +kernel
theorem d_M_takeRow_7 : decode b_M_takeRow 7 = .ok (.iaload, 1) := by decide +kernel
theorem d_M_takeRow_8 : decode b_M_takeRow 8 = .ok (.istore 5, 2) := by decide +kernel
theorem d_M_takeRow_10 : decode b_M_takeRow 10 = .ok (.iload 5, 2) := by decide +kernel
theorem d_M_takeRow_12 : decode b_M_takeRow 12 = .ok (.ifCond .ne 4, 3) := by decide +kernel
theorem d_M_takeRow_15 : decode b_M_takeRow 15 = .ok (.return_, 1) := by decide +kernel
theorem d_M_takeRow_16 : decode b_M_takeRow 16 = .ok (.iload 5, 2) := by decide +kernel
theorem d_M_takeRow_18 : decode b_M_takeRow 18 = .ok (.aload_n 0, 1) := by decide +kernel
theorem d_M_takeRow_19 : decode b_M_takeRow 19 = .ok (.getfield 66, 3) := by decide +kernel
theorem d_M_takeRow_22 : decode b_M_takeRow 22 = .ok (.iload_n 2, 1) := by decide +kernel
theorem d_M_takeRow_23 : decode b_M_takeRow 23 = .ok (.iload_n 3, 1) := by decide +kernel
theorem d_M_takeRow_24 : decode b_M_takeRow 24 = .ok (.iadd, 1) := by decide +kernel
theorem d_M_takeRow_25 : decode b_M_takeRow 25 = .ok (.iaload, 1) := by decide +kernel
theorem d_M_takeRow_26 : decode b_M_takeRow 26 = .ok (.invokestatic 112, 3) := by decide +kernel
theorem d_M_takeRow_29 : decode b_M_takeRow 29 = .ok (.invokestatic 87, 3) := by decide +kernel
theorem d_M_takeRow_32 : decode b_M_takeRow 32 = .ok (.istore 6, 2) := by decide +kernel
theorem d_M_takeRow_34 : decode b_M_takeRow 34 = .ok (.iconst 0, 1) := by decide +kernel
theorem d_M_takeRow_35 : decode b_M_takeRow 35 = .ok (.istore 7, 2) := by decide +kernel
theorem d_M_takeRow_37 : decode b_M_takeRow 37 = .ok (.iload 7, 2) := by decide +kernel
theorem d_M_takeRow_39 : decode b_M_takeRow 39 = .ok (.iload 4, 2) := by decide +kernel
theorem d_M_takeRow_41 : decode b_M_takeRow 41 = .ok (.if_icmp .ge 44, 3) := by decide +kernel
theorem d_M_takeRow_44 : decode b_M_takeRow 44 = .ok (.aload_n 0, 1) := by decide +kernel
theorem d_M_takeRow_45 : decode b_M_takeRow 45 = .ok (.getfield 66, 3) := by decide +kernel
theorem d_M_takeRow_48 : decode b_M_takeRow 48 = .ok (.iload_n 1, 1) := by decide +kernel
theorem d_M_takeRow_49 : decode b_M_takeRow 49 = .ok (.iload 7, 2) := by decide +kernel
theorem d_M_takeRow_51 : decode b_M_takeRow 51 = .ok (.iadd, 1) := by decide +kernel
theorem d_M_takeRow_52 : decode b_M_takeRow 52 = .ok (.aload_n 0, 1) := by decide +kernel
theorem d_M_takeRow_53 : decode b_M_takeRow 53 = .ok (.getfield 66, 3) := by decide +kernel
theorem d_M_takeRow_56 : decode b_M_takeRow 56 = .ok (.iload_n 1, 1) := by decide +kernel
theorem d_M_takeRow_57 : decode b_M_takeRow 57 = .ok (.iload 7, 2) := by decide +kernel
theorem d_M_takeRow_59 : decode b_M_takeRow 59 = .ok (.iadd, 1) := by decide +kernel
theorem d_M_takeRow_60 : decode b_M_takeRow 60 = .ok (.iaload, 1) := by decide +kernel
theorem d_M_takeRow_61 : decode b_M_takeRow 61 = .ok (.iload 6, 2) := by decide +kernel
theorem d_M_takeRow_63 : decode b_M_takeRow 63 = .ok (.aload_n 0, 1) := by decide +kernel
theorem d_M_takeRow_64 : decode b_M_takeRow 64 = .ok (.getfield 66, 3) := by decide +kernel
theorem d_M_takeRow_67 : decode b_M_takeRow 67 = .ok (.iload_n 2, 1) := by decide +kernel
theorem d_M_takeRow_68 : decode b_M_takeRow 68 = .ok (.iload 7, 2) := by decide +kernel
theorem d_M_takeRow_70 : decode b_M_takeRow 70 = .ok (.iadd, 1) := by decide +kernel
theorem d_M_takeRow_71 : decode b_M_takeRow 71 = .ok (.iaload, 1) := by decide +kernel
theorem d_M_takeRow_72 : decode b_M_takeRow 72 = .ok (.invokestatic 87, 3) := by decide +kernel
theorem d_M_takeRow_75 : decode b_M_takeRow 75 = .ok (.invokestatic 142, 3) := by decide +kernel
theorem d_M_takeRow_78 : decode b_M_takeRow 78 = .ok (.iastore, 1) := by decide +kernel
theorem d_M_takeRow_79 : decode b_M_takeRow 79 = .ok (.iinc 7 1, 3) := by decide +kernel
theorem d_M_takeRow_82 : decode b_M_takeRow 82 = .ok (.goto (-45), 3) := by decide +kernel
theorem d_M_takeRow_85 : decode b_M_takeRow 85 = .ok (.return_, 1) := by decide +kernel
set_option maxHeartbeats 4000000 in
set_option maxRecDepth 100000 in
theorem lp_M_takeRow {p : Program} {l : Launch} {e : Env} {R : Room} {s : State} {m : MethodId} {args : Array Value} {below : List Frame} {meth : Method} {c : Code} {Q : State → Prop} {D : mp_G} {g : Nat → ClassId} {A : Nat → Prop} {cells slots : Nat} (hx : p.tables.exec = Jvm.exec) (hb : c.code = b_M_takeRow) (hml : c.maxLocals = 8) (hg : ∀ w ∈ gw, w.before args s = true) (hown : s.vm.findClass R_M = some m.cls) (hK : mp_K D classes (tys g) s) (hRf : 1 ≤ R.frames) (hRl : 21 ≤ R.locals) (hRc : cells ≤ R.cells) (hRs : slots ≤ R.slots) {B : mp_M} {o ro a9 b9 f9 wd : Nat} {mv0 mv1 mv2 mv3 mv4 mv5 mv6 mv7 mv8 mv9 mv10 mv11 mv12 mv13 mv14 mv15 mv16 mv17 mv18 mv19 mv20 mv21 mv22 mv23 mv24 mv25 mv26 mv28 mv29 mv30 : Value} {y9 : fF} {RW : Nat → fF} (h1 : a9 + wd ≤ 1700) (h2 : b9 + wd ≤ 1700) (h3 : a9 + wd ≤ b9 ∨ b9 + wd ≤ a9) (hf9 : f9 < wd) : ∀ (k : Nat) (i : Nat) (S : mp_M) (H : Heap) (locs : List Loc) (ls : Array Slot), i + k = wd → S o = some (2000, .inr (10, [mv0, mv1, mv2, mv3, mv4, mv5, mv6, mv7, mv8, mv9, mv10, mv11, mv12, mv13, mv14, mv15, mv16, mv17, mv18, mv19, mv20, mv21, mv22, mv23, mv24, mv25, mv26, .ref ro, mv28, mv29, mv30])) → S ro = some (2019, .inl ((g 0), 1700, .inl (fun j => nI ((trI a9 b9 y9 RW i) j).val))) → (∀ b t e9, B b = some (t, e9) → (t ≠ 2019) → S b = some (t, e9)) → mp_I D classes A s.heap S H locs → lv_has ls 8 [(7, .int (nI i)), (6, .int (nI (y9).val)), (4, .int (nI wd)), (2, .int (nI b9)), (1, .int (nI a9)), (0, .ref o)] → (∀ (S : mp_M) (H : Heap) (locs : List Loc) (ls : Array Slot), S o = some (2000, .inr (10, [mv0, mv1, mv2, mv3, mv4, mv5, mv6, mv7, mv8, mv9, mv10, mv11, mv12, mv13, mv14, mv15, mv16, mv17, mv18, mv19, mv20, mv21, mv22, mv23, mv24, mv25, mv26, .ref ro, mv28, mv29, mv30])) → S ro = some (2019, .inl ((g 0), 1700, .inl (fun j => nI ((trI a9 b9 y9 RW wd) j).val))) → (∀ b t e9, B b = some (t, e9) → (t ≠ 2019) → S b = some (t, e9)) → mp_I D classes A s.heap S H locs → lv_has ls 8 [(7, .int (nI wd)), (6, .int (nI (y9).val)), (4, .int (nI wd)), (2, .int (nI b9)), (1, .int (nI a9)), (0, .ref o)] → W p l e R s m args below meth c H locs cells slots Q (F0 m 85 ls [])) → W p l e R s m args below meth c H locs cells slots Q (F0 m 37 ls []) := by
  intro k
  induction k with
  | zero =>
    intro i S H locs ls hi h_o h_ro hfr hI hl kx
    refine lv_iload hx hb d_M_takeRow_37 (lv_at hl 0 rfl) ?_
    refine lv_iload hx hb d_M_takeRow_39 (lv_at hl 2 rfl) ?_
    refine lv_icmp_ge (tgt := 85) hx hb d_M_takeRow_41 (by decide) (fun _ => ?_) (fun h9 => absurd ((nI_leI (by omega) (by omega)).mpr (by omega)) h9)
    obtain rfl : i = wd := by omega
    exact kx S H locs ls h_o h_ro hfr hI (lv_sub hl [0, 1, 2, 3, 4, 5] rfl)
  | succ k ih =>
    intro i S H locs ls hi h_o h_ro hfr hI hl kx
    refine lv_iload hx hb d_M_takeRow_37 (lv_at hl 0 rfl) ?_
    refine lv_iload hx hb d_M_takeRow_39 (lv_at hl 2 rfl) ?_
    refine lv_icmp_ge (tgt := 85) hx hb d_M_takeRow_41 (by decide) (fun h9 => absurd h9 (by rw [nI_leI (by omega) (by omega)]; omega)) (fun _ => ?_)
    refine lv_aload_n hx hb d_M_takeRow_44 rfl (lv_at hl 5 rfl) ?_
    refine mp_get (C := R_M) (T := F_M) (N := 31) (v := .ref ro) hx hb hg i_M hown hK.va hI h_o rfl 27 (by decide) (hg _ q_831) (fun _ h9 => h9) rfl d_M_takeRow_45 ?_
    refine lv_iload_n hx hb d_M_takeRow_48 rfl (lv_at hl 4 rfl) ?_
    refine lv_iload hx hb d_M_takeRow_49 (lv_at hl 0 rfl) ?_
    refine lv_iadd hx hb d_M_takeRow_51 ?_
    refine lv_topi (fun v1 ev1 => ?_)
    obtain rfl : v1 = nI (a9 + i) := ev1.trans (nI_add _ _)
    refine lv_aload_n hx hb d_M_takeRow_52 rfl (lv_at hl 5 rfl) ?_
    refine mp_get (C := R_M) (T := F_M) (N := 31) (v := .ref ro) hx hb hg i_M hown hK.va hI h_o rfl 27 (by decide) (hg _ q_831) (fun _ h9 => h9) rfl d_M_takeRow_53 ?_
    refine lv_iload_n hx hb d_M_takeRow_56 rfl (lv_at hl 4 rfl) ?_
    refine lv_iload hx hb d_M_takeRow_57 (lv_at hl 0 rfl) ?_
    refine lv_iadd hx hb d_M_takeRow_59 ?_
    refine lv_topi (fun v2 ev2 => ?_)
    obtain rfl : v2 = nI (a9 + i) := ev2.trans (nI_add _ _)
    refine mp_iald hx hb hK.va hI 0 h_ro rfl (vp_in_nI (show a9 + i < 1700 by omega) (by omega)) d_M_takeRow_60 ?_
    refine lv_topi (fun v3 ev3 => ?_)
    obtain rfl : v3 = nI (RW (a9 + i)).val := ev3.trans (by rw [nI_clamp (by omega), trI_out (by omega)])
    refine lv_iload hx hb d_M_takeRow_61 (lv_at hl 1 rfl) ?_
    refine lv_aload_n hx hb d_M_takeRow_63 rfl (lv_at hl 5 rfl) ?_
    refine mp_get (C := R_M) (T := F_M) (N := 31) (v := .ref ro) hx hb hg i_M hown hK.va hI h_o rfl 27 (by decide) (hg _ q_831) (fun _ h9 => h9) rfl d_M_takeRow_64 ?_
    refine lv_iload_n hx hb d_M_takeRow_67 rfl (lv_at hl 3 rfl) ?_
    refine lv_iload hx hb d_M_takeRow_68 (lv_at hl 0 rfl) ?_
    refine lv_iadd hx hb d_M_takeRow_70 ?_
    refine lv_topi (fun v4 ev4 => ?_)
    obtain rfl : v4 = nI (b9 + i) := ev4.trans (nI_add _ _)
    refine mp_iald hx hb hK.va hI 0 h_ro rfl (vp_in_nI (show b9 + i < 1700 by omega) (by omega)) d_M_takeRow_71 ?_
    refine lv_topi (fun v5 ev5 => ?_)
    obtain rfl : v5 = nI (RW (b9 + i)).val := ev5.trans (by rw [nI_clamp (by omega), trI_out (by omega)])
    refine mp_calli hI (va_runS (As := [.int (nI (y9).val), .int (nI (RW (b9 + i)).val)]) (rest := [.int (nI (RW (a9 + i)).val), .int (nI (a9 + i)), .ref ro]) ⟨hx, hb, hml, hown, hg⟩ (c_M_times l D g S _ (y9).val (RW (b9 + i)).val (by omega) (by omega)) ⟨(callB_of 2 hg (wd_goodG q_927) rfl rfl rfl (hg _ q_5) (hg _ q_925) (by decide +kernel) ⟨Nat.le_trans (Nat.le_of_ble_eq_true rfl) hRf, Nat.le_trans (Nat.le_of_ble_eq_true rfl) hRl⟩), hg _ q_926⟩ (mp_pre hI hK [.int (nI (y9).val), .int (nI (RW (b9 + i)).val)]) rfl rfl hl.1 rfl (lv_room (Nat.le_of_ble_eq_true rfl)) d_M_takeRow_72 ⟨by omega, by omega⟩) (fun r9 S6 H7 locs p_8 hI => ?_)
    obtain ⟨er9, eS10⟩ := p_8
    rw [eS10] at hI
    have er9 : r9 = nI ((y9).val * (RW (b9 + i)).val % 32003) := er9
    subst er9
    refine lv_topi (fun v11 ev11 => ?_)
    obtain rfl : v11 = nI (y9 * (RW (b9 + i))).val := ev11.trans (congrArg nI (fv_mul _ _))
    refine mp_calli hI (va_runS (As := [.int (nI (RW (a9 + i)).val), .int (nI (y9 * (RW (b9 + i))).val)]) (rest := [.int (nI (a9 + i)), .ref ro]) ⟨hx, hb, hml, hown, hg⟩ (c_M_less l D g S _ (RW (a9 + i)).val (y9 * (RW (b9 + i))).val (by omega) (by omega)) ⟨(callB_of 2 hg (wd_goodG q_980) rfl rfl rfl (hg _ q_5) (hg _ q_978) (by decide +kernel) ⟨Nat.le_trans (Nat.le_of_ble_eq_true rfl) hRf, Nat.le_trans (Nat.le_of_ble_eq_true rfl) hRl⟩), hg _ q_979⟩ (mp_pre hI hK [.int (nI (RW (a9 + i)).val), .int (nI (y9 * (RW (b9 + i))).val)]) rfl rfl hl.1 rfl (lv_room (Nat.le_of_ble_eq_true rfl)) d_M_takeRow_75 ⟨by omega, by omega⟩) (fun r15 S12 H13 locs p_14 hI => ?_)
    obtain ⟨er15, eS16⟩ := p_14
    rw [eS16] at hI
    have er15 : r15 = nI (((RW (a9 + i)).val + (32003 - (y9 * (RW (b9 + i))).val)) % 32003) := er15
    subst er15
    refine lv_topi (fun v17 ev17 => ?_)
    obtain rfl : v17 = nI ((RW (a9 + i)) - (y9 * (RW (b9 + i)))).val := ev17.trans (congrArg nI (fv_sub _ _))
    refine mp_iast hx hb hK.va hI 0 h_ro rfl (vp_in_nI (show a9 + i < 1700 by omega) (by omega)) d_M_takeRow_78 (fun S18 H19 locs e_20 hI => ?_)
    have h_ro_o := h_ro
    have e_20 : S18 = va_up S ro (some (2019, .inl ((g 0), 1700, .inl (upd (fun j => nI ((trI a9 b9 y9 RW i) j).val) (nI (a9 + i)).toNatClampNeg (nI ((RW (a9 + i)) - (y9 * (RW (b9 + i)))).val))))) := e_20
    have h_o : S18 o = some (2000, .inr (10, [mv0, mv1, mv2, mv3, mv4, mv5, mv6, mv7, mv8, mv9, mv10, mv11, mv12, mv13, mv14, mv15, mv16, mv17, mv18, mv19, mv20, mv21, mv22, mv23, mv24, mv25, mv26, .ref ro, mv28, mv29, mv30])) := by rw [e_20]; exact mp_keep h_o h_ro (by decide)
    have h_ro : S18 ro = some (2019, .inl ((g 0), 1700, .inl (upd (fun j => nI ((trI a9 b9 y9 RW i) j).val) (nI (a9 + i)).toNatClampNeg (nI ((RW (a9 + i)) - (y9 * (RW (b9 + i)))).val)))) := by rw [e_20]; exact mp_us _ _ _
    have hfr : ∀ b t e9, B b = some (t, e9) → (t ≠ 2019) → S18 b = some (t, e9) := fun b t e9 h9 k0 => by rw [e_20]; exact mp_keep (hfr b t e9 h9 k0) h_ro_o (by omega)
    rw [nI_clamp (by omega), nIv_up] at h_ro
    have e9h_ro : (fun j => nI (va_up (trI a9 b9 y9 RW i) (a9 + i) ((RW (a9 + i)) - (y9 * (RW (b9 + i)))) j).val) = (fun j => nI ((trI a9 b9 y9 RW (i + 1)) j).val) := by rw [trI_up]
    rw [e9h_ro] at h_ro
    refine lv_iinc (v := nI (i + 1)) (lv' := [(7, .int (nI (i + 1))), (6, .int (nI (y9).val)), (4, .int (nI wd)), (2, .int (nI b9)), (1, .int (nI a9)), (0, .ref o)]) hx hb d_M_takeRow_79 hl (k := 0) rfl (nI_1 _) (by decide) rfl (fun ls hl => ?_)
    refine lv_goto (tgt := 37) hx hb d_M_takeRow_82 (by decide) ?_
    exact ih (i + 1) S18 H19 locs ls (by omega) h_o h_ro hfr hI (lv_sub hl [0, 1, 2, 3, 4, 5] rfl) kx
set_option maxHeartbeats 4000000 in
set_option maxRecDepth 100000 in
/-- a row is taken off, in the reference -/
theorem c_M_takeRow (l : Launch) (D : mp_G) (g : Nat → ClassId) (S : mp_M) (sz : Nat) (o ro a9 b9 f9 wd : Nat) (mv0 mv1 mv2 mv3 mv4 mv5 mv6 mv7 mv8 mv9 mv10 mv11 mv12 mv13 mv14 mv15 mv16 mv17 mv18 mv19 mv20 mv21 mv22 mv23 mv24 mv25 mv26 mv28 mv29 mv30 : Value) (RW : Nat → fF) (h_o : S o = some (2000, .inr (10, [mv0, mv1, mv2, mv3, mv4, mv5, mv6, mv7, mv8, mv9, mv10, mv11, mv12, mv13, mv14, mv15, mv16, mv17, mv18, mv19, mv20, mv21, mv22, mv23, mv24, mv25, mv26, .ref ro, mv28, mv29, mv30]))) (h_ro : S ro = some (2019, .inl ((g 0), 1700, .inl (fun j => nI (RW j).val)))) (h1 : a9 + wd ≤ 1700) (h2 : b9 + wd ≤ 1700) (h3 : a9 + wd ≤ b9 ∨ b9 + wd ≤ a9) (hf9 : f9 < wd) : Met l y_M_takeRow w_M_takeRow ({ frames := 2, cells := 0, slots := 0, locals := 44 }) (va_Pc [.ref o, .int (nI a9), .int (nI b9), .int (nI f9), .int (nI wd)] (mp_B0 D classes (tys g) S sz)) (va_Qv (fun (S1 : mp_M) => S1 ro = some (2019, .inl ((g 0), 1700, .inl (fun j => nI ((trI a9 b9 (RW (a9 + f9) * iv (RW (b9 + f9))) RW wd) j).val))) ∧ (∀ b t e9, S b = some (t, e9) → (t ≠ 2019) → S1 b = some (t, e9))) (mp_B1 D classes S sz) (mp_A S sz)) 0 0 (mp_A S sz) := by
  refine Met.ofW (cc := b_M_takeRow) (maxL := 8) (ret := none) (by decide) rfl ?_
  intro p e s m args below meth c s₁ B hml hv
  obtain ⟨rfl, hsz, hH, hK⟩ := hv
  have hx := B.exec
  have hb := B.bytes
  have hr := B.returns
  have hts := atoms_spec (ws := w_M_takeRow) B.pre
  have hg : ∀ w ∈ gw, w.before _ s = true := fun w h => hts w (List.mem_cons_of_mem _ h)
  have hown : s.vm.findClass R_M = some m.cls := findClass_of_methodNamed B.named
  have hlocks := B.notSynchronized
  subst hsz
  have hI := mp_I.start hH
  have hl := lv_entry ([.ref o, .int (nI a9), .int (nI b9), .int (nI f9), .int (nI wd)]) (n := 8) (Nat.le_of_ble_eq_true rfl)
  rw [lg_entry_eq]
  generalize (lg_sl ([.ref o, .int (nI a9), .int (nI b9), .int (nI f9), .int (nI wd)]) ++ List.replicate (8 - (lg_sl ([.ref o, .int (nI a9), .int (nI b9), .int (nI f9), .int (nI wd)])).length) Slot.unset).toArray = ls at hl ⊢
  have hl : lv_has ls 8 [(0, .ref o), (1, .int (nI a9)), (2, .int (nI b9)), (3, .int (nI f9)), (4, .int (nI wd))] := hl
  have hfr : ∀ b t e9, S b = some (t, e9) → (t ≠ 2019) → S b = some (t, e9) := fun _ _ _ h9 _ => h9
  refine lv_aload_n hx hb d_M_takeRow_0 rfl (lv_at hl 0 rfl) ?_
  refine mp_get (C := R_M) (T := F_M) (N := 31) (v := .ref ro) hx hb hg i_M hown hK.va hI h_o rfl 27 (by decide) (hg _ q_831) (fun _ h9 => h9) rfl d_M_takeRow_1 ?_
  refine lv_iload_n hx hb d_M_takeRow_4 rfl (lv_at hl 1 rfl) ?_
  refine lv_iload_n hx hb d_M_takeRow_5 rfl (lv_at hl 3 rfl) ?_
  refine lv_iadd hx hb d_M_takeRow_6 ?_
  refine lv_topi (fun v1 ev1 => ?_)
  obtain rfl : v1 = nI (a9 + f9) := ev1.trans (nI_add _ _)
  refine mp_iald hx hb hK.va hI 0 h_ro rfl (vp_in_nI (show a9 + f9 < 1700 by omega) (by omega)) d_M_takeRow_7 ?_
  refine lv_topi (fun v2 ev2 => ?_)
  obtain rfl : v2 = nI (RW (a9 + f9)).val := ev2.trans (by rw [nI_clamp (by omega)])
  refine lv_istore (lv' := [(5, .int (nI (RW (a9 + f9)).val)), (0, .ref o), (1, .int (nI a9)), (2, .int (nI b9)), (3, .int (nI f9)), (4, .int (nI wd))]) hx hb d_M_takeRow_8 hl (by decide) rfl (fun ls hl => ?_)
  refine lv_iload hx hb d_M_takeRow_10 (lv_at hl 0 rfl) ?_
  refine lv_if_ne (tgt := 16) hx hb d_M_takeRow_12 (by decide) (fun c1 => ?_) (fun c1 => ?_)
  · rw [zI_eq (by omega)] at c1
    refine lv_iload hx hb d_M_takeRow_16 (lv_at hl 0 rfl) ?_
    refine lv_aload_n hx hb d_M_takeRow_18 rfl (lv_at hl 1 rfl) ?_
    refine mp_get (C := R_M) (T := F_M) (N := 31) (v := .ref ro) hx hb hg i_M hown hK.va hI h_o rfl 27 (by decide) (hg _ q_831) (fun _ h9 => h9) rfl d_M_takeRow_19 ?_
    refine lv_iload_n hx hb d_M_takeRow_22 rfl (lv_at hl 3 rfl) ?_
    refine lv_iload_n hx hb d_M_takeRow_23 rfl (lv_at hl 4 rfl) ?_
    refine lv_iadd hx hb d_M_takeRow_24 ?_
    refine lv_topi (fun v3 ev3 => ?_)
    obtain rfl : v3 = nI (b9 + f9) := ev3.trans (nI_add _ _)
    refine mp_iald hx hb hK.va hI 0 h_ro rfl (vp_in_nI (show b9 + f9 < 1700 by omega) (by omega)) d_M_takeRow_25 ?_
    refine lv_topi (fun v4 ev4 => ?_)
    obtain rfl : v4 = nI (RW (b9 + f9)).val := ev4.trans (by rw [nI_clamp (by omega)])
    refine mp_calli hI (va_runS (As := [.int (nI (RW (b9 + f9)).val)]) (rest := [.int (nI (RW (a9 + f9)).val)]) ⟨hx, hb, hml, hown, hg⟩ (c_M_inverse l D g S _ (RW (b9 + f9)).val (RW (b9 + f9)).isLt) ⟨(callB_of 1 hg (wd_goodG q_924) rfl rfl rfl (hg _ q_5) (hg _ q_922) (by decide +kernel) ⟨Nat.le_of_ble_eq_true rfl, Nat.le_of_ble_eq_true rfl⟩), hg _ q_923⟩ (mp_pre hI hK [.int (nI (RW (b9 + f9)).val)]) rfl rfl hl.1 rfl (lv_room (Nat.le_of_ble_eq_true rfl)) d_M_takeRow_26 ⟨Nat.le_of_ble_eq_true rfl, Nat.le_of_ble_eq_true rfl⟩) (fun r8 S5 H6 locs p_7 hI => ?_)
    obtain ⟨er8, eS9⟩ := p_7
    rw [eS9] at hI
    have er8 : r8 = nI ((RW (b9 + f9)).val ^ 32001 % 32003) := er8
    subst er8
    refine lv_topi (fun v10 ev10 => ?_)
    obtain rfl : v10 = nI (iv (RW (b9 + f9))).val := ev10.trans (congrArg nI (iv_val _))
    refine mp_calli hI (va_runS (As := [.int (nI (RW (a9 + f9)).val), .int (nI (iv (RW (b9 + f9))).val)]) (rest := []) ⟨hx, hb, hml, hown, hg⟩ (c_M_times l D g S _ (RW (a9 + f9)).val (iv (RW (b9 + f9))).val (by omega) (by omega)) ⟨(callB_of 2 hg (wd_goodG q_927) rfl rfl rfl (hg _ q_5) (hg _ q_925) (by decide +kernel) ⟨Nat.le_of_ble_eq_true rfl, Nat.le_of_ble_eq_true rfl⟩), hg _ q_926⟩ (mp_pre hI hK [.int (nI (RW (a9 + f9)).val), .int (nI (iv (RW (b9 + f9))).val)]) rfl rfl hl.1 rfl (lv_room (Nat.le_of_ble_eq_true rfl)) d_M_takeRow_29 ⟨Nat.le_of_ble_eq_true rfl, Nat.le_of_ble_eq_true rfl⟩) (fun r14 S11 H12 locs p_13 hI => ?_)
    obtain ⟨er14, eS15⟩ := p_13
    rw [eS15] at hI
    have er14 : r14 = nI ((RW (a9 + f9)).val * (iv (RW (b9 + f9))).val % 32003) := er14
    subst er14
    refine lv_topi (fun v16 ev16 => ?_)
    obtain rfl : v16 = nI ((RW (a9 + f9)) * (iv (RW (b9 + f9)))).val := ev16.trans (congrArg nI (fv_mul _ _))
    refine lv_istore (lv' := [(6, .int (nI ((RW (a9 + f9)) * (iv (RW (b9 + f9)))).val)), (5, .int (nI (RW (a9 + f9)).val)), (0, .ref o), (1, .int (nI a9)), (2, .int (nI b9)), (3, .int (nI f9)), (4, .int (nI wd))]) hx hb d_M_takeRow_32 hl (by decide) rfl (fun ls hl => ?_)
    refine lv_iconst (v := nI 0) hx hb d_M_takeRow_34 (by decide) ?_
    refine lv_istore (lv' := [(7, .int (nI 0)), (6, .int (nI ((RW (a9 + f9)) * (iv (RW (b9 + f9)))).val)), (5, .int (nI (RW (a9 + f9)).val)), (0, .ref o), (1, .int (nI a9)), (2, .int (nI b9)), (3, .int (nI f9)), (4, .int (nI wd))]) hx hb d_M_takeRow_35 hl (by decide) rfl (fun ls hl => ?_)
    rw [← trI_0 a9 b9 (RW (a9 + f9) * iv (RW (b9 + f9))) RW] at h_ro
    refine lp_M_takeRow (B := S) (o := o) (ro := ro) (a9 := a9) (b9 := b9) (f9 := f9) (wd := wd) (mv0 := mv0) (mv1 := mv1) (mv2 := mv2) (mv3 := mv3) (mv4 := mv4) (mv5 := mv5) (mv6 := mv6) (mv7 := mv7) (mv8 := mv8) (mv9 := mv9) (mv10 := mv10) (mv11 := mv11) (mv12 := mv12) (mv13 := mv13) (mv14 := mv14) (mv15 := mv15) (mv16 := mv16) (mv17 := mv17) (mv18 := mv18) (mv19 := mv19) (mv20 := mv20) (mv21 := mv21) (mv22 := mv22) (mv23 := mv23) (mv24 := mv24) (mv25 := mv25) (mv26 := mv26) (mv28 := mv28) (mv29 := mv29) (mv30 := mv30) (y9 := (RW (a9 + f9) * iv (RW (b9 + f9)))) (RW := RW) hx hb hml hg hown hK (Nat.le_of_ble_eq_true rfl) (Nat.le_of_ble_eq_true rfl) (Nat.le_of_ble_eq_true rfl) (Nat.le_of_ble_eq_true rfl) h1 h2 h3 hf9 wd 0 S H12 _ ls (by omega) h_o h_ro hfr hI (lv_sub hl [0, 1, 7, 5, 4, 3] rfl) (fun S17 H18 locs ls j_o j_ro hfr hI hl => ?_)
    refine mp_vret hx hb hr hlocks hI (Nat.le_of_ble_eq_true rfl) (Nat.le_of_ble_eq_true rfl) ?_ d_M_takeRow_85
    exact ⟨j_ro, hfr⟩
  · rw [zI_eq (by omega)] at c1
    have hz9 : RW (a9 + f9) = 0 := Fin.ext c1
    have e9 : trI a9 b9 (RW (a9 + f9) * iv (RW (b9 + f9))) RW wd = RW := by rw [hz9, show (0 : fF) * iv (RW (b9 + f9)) = 0 by grind, trI_z]
    refine mp_vret hx hb hr hlocks hI (Nat.le_of_ble_eq_true rfl) (Nat.le_of_ble_eq_true rfl) ?_ d_M_takeRow_15
    exact ⟨by rw [e9]; exact h_ro, hfr⟩
set_option maxHeartbeats 4000000 in
set_option maxRecDepth 100000 in
theorem lp_M_mul1 {p : Program} {l : Launch} {e : Env} {R : Room} {s : State} {m : MethodId} {args : Array Value} {below : List Frame} {meth : Method} {c : Code} {Q : State → Prop} {D : mp_G} {g : Nat → ClassId} {A : Nat → Prop} {cells slots : Nat} (hx : p.tables.exec = Jvm.exec) (hb : c.code = b_M_multiply) (hml : c.maxLocals = 5) (hg : ∀ w ∈ gw, w.before args s = true) (hown : s.vm.findClass R_M = some m.cls) (hK : mp_K D classes (tys g) s) (hRf : 1 ≤ R.frames) (hRl : 21 ≤ R.locals) (hRc : cells ≤ R.cells) (hRs : slots ≤ R.slots) {B : mp_M} {o ta ve ot s9 l9 : Nat} {mv0 mv1 mv2 mv3 mv4 mv5 mv6 mv7 mv8 mv9 mv10 mv11 mv12 mv13 mv15 mv17 mv18 mv19 mv20 mv21 mv22 mv23 mv24 mv27 mv28 mv29 mv30 : Value} {TB vv : Nat → fF} {j9 : Nat} {ww : Nat → fF} (hs : s9 ≤ 16) (hl9 : l9 < 3) (hj9 : j9 < s9) : ∀ (k : Nat) (i : Nat) (x9 : fF) (S : mp_M) (H : Heap) (locs : List Loc) (ls : Array Slot), i + k = s9 → (x9 = sm i (fun k => TB (256 * l9 + 16 * j9 + k) * vv k)) → S o = some (2000, .inr (10, [mv0, mv1, mv2, mv3, mv4, mv5, mv6, mv7, mv8, mv9, mv10, mv11, mv12, mv13, .int (nI s9), mv15, .ref ta, mv17, mv18, mv19, mv20, mv21, mv22, mv23, mv24, .ref ve, .ref ot, mv27, mv28, mv29, mv30])) → S ta = some (2009, .inl ((g 0), 768, .inl (fun j => nI (TB j).val))) → S ve = some (2017, .inl ((g 0), 16, .inl (fun j => nI (vv j).val))) → S ot = some (2018, .inl ((g 0), 16, .inl (fun j => nI (ww j).val))) → (∀ b t e9, B b = some (t, e9) → (t ≠ 2017) → (t ≠ 2018) → S b = some (t, e9)) → mp_I D classes A s.heap S H locs → lv_has ls 5 [(4, .int (nI i)), (3, .int (nI (x9).val)), (2, .int (nI j9)), (1, .int (nI l9)), (0, .ref o)] → (∀ (x9 : fF) (S : mp_M) (H : Heap) (locs : List Loc) (ls : Array Slot), (x9 = sm s9 (fun k => TB (256 * l9 + 16 * j9 + k) * vv k)) → S o = some (2000, .inr (10, [mv0, mv1, mv2, mv3, mv4, mv5, mv6, mv7, mv8, mv9, mv10, mv11, mv12, mv13, .int (nI s9), mv15, .ref ta, mv17, mv18, mv19, mv20, mv21, mv22, mv23, mv24, .ref ve, .ref ot, mv27, mv28, mv29, mv30])) → S ta = some (2009, .inl ((g 0), 768, .inl (fun j => nI (TB j).val))) → S ve = some (2017, .inl ((g 0), 16, .inl (fun j => nI (vv j).val))) → S ot = some (2018, .inl ((g 0), 16, .inl (fun j => nI (ww j).val))) → (∀ b t e9, B b = some (t, e9) → (t ≠ 2017) → (t ≠ 2018) → S b = some (t, e9)) → mp_I D classes A s.heap S H locs → lv_has ls 5 [(4, .int (nI s9)), (3, .int (nI (x9).val)), (2, .int (nI j9)), (1, .int (nI l9)), (0, .ref o)] → W p l e R s m args below meth c H locs cells slots Q (F0 m 63 ls [])) → W p l e R s m args below meth c H locs cells slots Q (F0 m 15 ls []) := by
  intro k
  induction k with
  | zero =>
    intro i x9 S H locs ls hi hx8 h_o h_ta h_ve h_ot hfr hI hl kx
    refine lv_iload hx hb d_M_multiply_15 (lv_at hl 0 rfl) ?_
    refine lv_aload_n hx hb d_M_multiply_17 rfl (lv_at hl 4 rfl) ?_
    refine mp_get (C := R_M) (T := F_M) (N := 31) (v := .int (nI s9)) hx hb hg i_M hown hK.va hI h_o rfl 14 (by decide) (hg _ q_818) (fun _ h9 => h9) rfl d_M_multiply_18 ?_
    refine lv_icmp_ge (tgt := 63) hx hb d_M_multiply_21 (by decide) (fun _ => ?_) (fun h9 => absurd ((nI_leI (by omega) (by omega)).mpr (by omega)) h9)
    obtain rfl : i = s9 := by omega
    exact kx x9 S H locs ls hx8 h_o h_ta h_ve h_ot hfr hI (lv_sub hl [0, 1, 2, 3, 4] rfl)
  | succ k ih =>
    intro i x9 S H locs ls hi hx8 h_o h_ta h_ve h_ot hfr hI hl kx
    refine lv_iload hx hb d_M_multiply_15 (lv_at hl 0 rfl) ?_
    refine lv_aload_n hx hb d_M_multiply_17 rfl (lv_at hl 4 rfl) ?_
    refine mp_get (C := R_M) (T := F_M) (N := 31) (v := .int (nI s9)) hx hb hg i_M hown hK.va hI h_o rfl 14 (by decide) (hg _ q_818) (fun _ h9 => h9) rfl d_M_multiply_18 ?_
    refine lv_icmp_ge (tgt := 63) hx hb d_M_multiply_21 (by decide) (fun h9 => absurd h9 (by rw [nI_leI (by omega) (by omega)]; omega)) (fun _ => ?_)
    refine lv_iload_n hx hb d_M_multiply_24 rfl (lv_at hl 1 rfl) ?_
    refine lv_aload_n hx hb d_M_multiply_25 rfl (lv_at hl 4 rfl) ?_
    refine mp_get (C := R_M) (T := F_M) (N := 31) (v := .ref ta) hx hb hg i_M hown hK.va hI h_o rfl 16 (by decide) (hg _ q_820) (fun _ h9 => h9) rfl d_M_multiply_26 ?_
    refine lv_sipush (v := nI 256) hx hb d_M_multiply_29 (by decide) ?_
    refine lv_iload_n hx hb d_M_multiply_32 rfl (lv_at hl 3 rfl) ?_
    refine lv_imul hx hb d_M_multiply_33 ?_
    refine lv_topi (fun v1 ev1 => ?_)
    obtain rfl : v1 = nI (256 * l9) := ev1.trans (pk_mul _ _)
    refine lv_bipush (v := nI 16) hx hb d_M_multiply_34 (by decide) ?_
    refine lv_iload_n hx hb d_M_multiply_36 rfl (lv_at hl 2 rfl) ?_
    refine lv_imul hx hb d_M_multiply_37 ?_
    refine lv_topi (fun v2 ev2 => ?_)
    obtain rfl : v2 = nI (16 * j9) := ev2.trans (pk_mul _ _)
    refine lv_iadd hx hb d_M_multiply_38 ?_
    refine lv_topi (fun v3 ev3 => ?_)
    obtain rfl : v3 = nI ((256 * l9) + (16 * j9)) := ev3.trans (nI_add _ _)
    refine lv_iload hx hb d_M_multiply_39 (lv_at hl 0 rfl) ?_
    refine lv_iadd hx hb d_M_multiply_41 ?_
    refine lv_topi (fun v4 ev4 => ?_)
    obtain rfl : v4 = nI (((256 * l9) + (16 * j9)) + i) := ev4.trans (nI_add _ _)
    refine mp_iald hx hb hK.va hI 0 h_ta rfl (vp_in_nI (show ((256 * l9) + (16 * j9)) + i < 768 by omega) (by omega)) d_M_multiply_42 ?_
    refine lv_topi (fun v5 ev5 => ?_)
    obtain rfl : v5 = nI (TB (((256 * l9) + (16 * j9)) + i)).val := ev5.trans (by rw [nI_clamp (by omega)])
    refine lv_aload_n hx hb d_M_multiply_43 rfl (lv_at hl 4 rfl) ?_
    refine mp_get (C := R_M) (T := F_M) (N := 31) (v := .ref ve) hx hb hg i_M hown hK.va hI h_o rfl 25 (by decide) (hg _ q_829) (fun _ h9 => h9) rfl d_M_multiply_44 ?_
    refine lv_iload hx hb d_M_multiply_47 (lv_at hl 0 rfl) ?_
    refine mp_iald hx hb hK.va hI 0 h_ve rfl (vp_in_nI (show i < 16 by omega) (by omega)) d_M_multiply_49 ?_
    refine lv_topi (fun v6 ev6 => ?_)
    obtain rfl : v6 = nI (vv i).val := ev6.trans (by rw [nI_clamp (by omega)])
    refine mp_calli hI (va_runS (As := [.int (nI (TB (((256 * l9) + (16 * j9)) + i)).val), .int (nI (vv i).val)]) (rest := [.int (nI (x9).val)]) ⟨hx, hb, hml, hown, hg⟩ (c_M_times l D g S _ (TB (256 * l9 + 16 * j9 + i)).val (vv i).val (by omega) (by omega)) ⟨(callB_of 2 hg (wd_goodG q_927) rfl rfl rfl (hg _ q_5) (hg _ q_925) (by decide +kernel) ⟨Nat.le_trans (Nat.le_of_ble_eq_true rfl) hRf, Nat.le_trans (Nat.le_of_ble_eq_true rfl) hRl⟩), hg _ q_926⟩ (mp_pre hI hK [.int (nI (TB (((256 * l9) + (16 * j9)) + i)).val), .int (nI (vv i).val)]) rfl rfl hl.1 rfl (lv_room (Nat.le_of_ble_eq_true rfl)) d_M_multiply_50 ⟨by omega, by omega⟩) (fun r10 S7 H8 locs p_9 hI => ?_)
    obtain ⟨er10, eS11⟩ := p_9
    rw [eS11] at hI
    have er10 : r10 = nI ((TB (256 * l9 + 16 * j9 + i)).val * (vv i).val % 32003) := er10
    subst er10
    refine lv_topi (fun v12 ev12 => ?_)
    obtain rfl : v12 = nI ((TB (256 * l9 + 16 * j9 + i)) * (vv i)).val := ev12.trans (congrArg nI (fv_mul _ _))
    refine mp_calli hI (va_runS (As := [.int (nI (x9).val), .int (nI ((TB (256 * l9 + 16 * j9 + i)) * (vv i)).val)]) (rest := []) ⟨hx, hb, hml, hown, hg⟩ (c_M_plus l D g S _ (x9).val ((TB (256 * l9 + 16 * j9 + i)) * (vv i)).val (by omega) (by omega)) ⟨(callB_of 2 hg (wd_goodG q_1025) rfl rfl rfl (hg _ q_5) (hg _ q_1023) (by decide +kernel) ⟨Nat.le_trans (Nat.le_of_ble_eq_true rfl) hRf, Nat.le_trans (Nat.le_of_ble_eq_true rfl) hRl⟩), hg _ q_1024⟩ (mp_pre hI hK [.int (nI (x9).val), .int (nI ((TB (256 * l9 + 16 * j9 + i)) * (vv i)).val)]) rfl rfl hl.1 rfl (lv_room (Nat.le_of_ble_eq_true rfl)) d_M_multiply_53 ⟨by omega, by omega⟩) (fun r16 S13 H14 locs p_15 hI => ?_)
    obtain ⟨er16, eS17⟩ := p_15
    rw [eS17] at hI
    have er16 : r16 = nI (((x9).val + ((TB (256 * l9 + 16 * j9 + i)) * (vv i)).val) % 32003) := er16
    subst er16
    refine lv_topi (fun v18 ev18 => ?_)
    obtain rfl : v18 = nI (x9 + ((TB (256 * l9 + 16 * j9 + i)) * (vv i))).val := ev18.trans (congrArg nI (fv_add _ _))
    refine lv_istore_n (lv' := [(3, .int (nI (x9 + ((TB (256 * l9 + 16 * j9 + i)) * (vv i))).val)), (4, .int (nI i)), (2, .int (nI j9)), (1, .int (nI l9)), (0, .ref o)]) hx hb d_M_multiply_56 rfl hl (by decide) rfl (fun ls hl => ?_)
    refine lv_iinc (v := nI (i + 1)) (lv' := [(4, .int (nI (i + 1))), (3, .int (nI (x9 + ((TB (256 * l9 + 16 * j9 + i)) * (vv i))).val)), (2, .int (nI j9)), (1, .int (nI l9)), (0, .ref o)]) hx hb d_M_multiply_57 hl (k := 1) rfl (nI_1 _) (by decide) rfl (fun ls hl => ?_)
    refine lv_goto (tgt := 15) hx hb d_M_multiply_60 (by decide) ?_
    exact ih (i + 1) (x9 + (TB (256 * l9 + 16 * j9 + i)) * (vv i)) S H14 locs ls (by omega) (by rw [hx8]; rfl) h_o h_ta h_ve h_ot hfr hI (lv_sub hl [0, 1, 2, 3, 4] rfl) kx
set_option maxHeartbeats 4000000 in
set_option maxRecDepth 100000 in
theorem lp_M_mul2 {p : Program} {l : Launch} {e : Env} {R : Room} {s : State} {m : MethodId} {args : Array Value} {below : List Frame} {meth : Method} {c : Code} {Q : State → Prop} {D : mp_G} {g : Nat → ClassId} {A : Nat → Prop} {cells slots : Nat} (hx : p.tables.exec = Jvm.exec) (hb : c.code = b_M_multiply) (hml : c.maxLocals = 5) (hg : ∀ w ∈ gw, w.before args s = true) (hown : s.vm.findClass R_M = some m.cls) (hK : mp_K D classes (tys g) s) (hRf : 1 ≤ R.frames) (hRl : 21 ≤ R.locals) (hRc : cells ≤ R.cells) (hRs : slots ≤ R.slots) {B : mp_M} {o ta ve ot s9 l9 : Nat} {mv0 mv1 mv2 mv3 mv4 mv5 mv6 mv7 mv8 mv9 mv10 mv11 mv12 mv13 mv15 mv17 mv18 mv19 mv20 mv21 mv22 mv23 mv24 mv27 mv28 mv29 mv30 : Value} {TB vv : Nat → fF} {ow : Nat → fF} (hs : s9 ≤ 16) (hl9 : l9 < 3) : ∀ (k : Nat) (i : Nat) (S : mp_M) (H : Heap) (locs : List Loc) (ls : Array Slot), i + k = s9 → S o = some (2000, .inr (10, [mv0, mv1, mv2, mv3, mv4, mv5, mv6, mv7, mv8, mv9, mv10, mv11, mv12, mv13, .int (nI s9), mv15, .ref ta, mv17, mv18, mv19, mv20, mv21, mv22, mv23, mv24, .ref ve, .ref ot, mv27, mv28, mv29, mv30])) → S ta = some (2009, .inl ((g 0), 768, .inl (fun j => nI (TB j).val))) → S ve = some (2017, .inl ((g 0), 16, .inl (fun j => nI (vv j).val))) → S ot = some (2018, .inl ((g 0), 16, .inl (fun j => nI ((mgF i (fun j => sm s9 (fun k => TB (256 * l9 + 16 * j + k) * vv k)) ow) j).val))) → (∀ b t e9, B b = some (t, e9) → (t ≠ 2017) → (t ≠ 2018) → S b = some (t, e9)) → mp_I D classes A s.heap S H locs → lv_has ls 5 [(2, .int (nI i)), (1, .int (nI l9)), (0, .ref o)] → (∀ (S : mp_M) (H : Heap) (locs : List Loc) (ls : Array Slot), S o = some (2000, .inr (10, [mv0, mv1, mv2, mv3, mv4, mv5, mv6, mv7, mv8, mv9, mv10, mv11, mv12, mv13, .int (nI s9), mv15, .ref ta, mv17, mv18, mv19, mv20, mv21, mv22, mv23, mv24, .ref ve, .ref ot, mv27, mv28, mv29, mv30])) → S ta = some (2009, .inl ((g 0), 768, .inl (fun j => nI (TB j).val))) → S ve = some (2017, .inl ((g 0), 16, .inl (fun j => nI (vv j).val))) → S ot = some (2018, .inl ((g 0), 16, .inl (fun j => nI ((mgF s9 (fun j => sm s9 (fun k => TB (256 * l9 + 16 * j + k) * vv k)) ow) j).val))) → (∀ b t e9, B b = some (t, e9) → (t ≠ 2017) → (t ≠ 2018) → S b = some (t, e9)) → mp_I D classes A s.heap S H locs → lv_has ls 5 [(2, .int (nI s9)), (1, .int (nI l9)), (0, .ref o)] → W p l e R s m args below meth c H locs cells slots Q (F0 m 76 ls [])) → W p l e R s m args below meth c H locs cells slots Q (F0 m 2 ls []) := by
  intro k
  induction k with
  | zero =>
    intro i S H locs ls hi h_o h_ta h_ve h_ot hfr hI hl kx
    refine lv_iload_n hx hb d_M_multiply_2 rfl (lv_at hl 0 rfl) ?_
    refine lv_aload_n hx hb d_M_multiply_3 rfl (lv_at hl 2 rfl) ?_
    refine mp_get (C := R_M) (T := F_M) (N := 31) (v := .int (nI s9)) hx hb hg i_M hown hK.va hI h_o rfl 14 (by decide) (hg _ q_818) (fun _ h9 => h9) rfl d_M_multiply_4 ?_
    refine lv_icmp_ge (tgt := 76) hx hb d_M_multiply_7 (by decide) (fun _ => ?_) (fun h9 => absurd ((nI_leI (by omega) (by omega)).mpr (by omega)) h9)
    obtain rfl : i = s9 := by omega
    exact kx S H locs ls h_o h_ta h_ve h_ot hfr hI (lv_sub hl [0, 1, 2] rfl)
  | succ k ih =>
    intro i S H locs ls hi h_o h_ta h_ve h_ot hfr hI hl kx
    refine lv_iload_n hx hb d_M_multiply_2 rfl (lv_at hl 0 rfl) ?_
    refine lv_aload_n hx hb d_M_multiply_3 rfl (lv_at hl 2 rfl) ?_
    refine mp_get (C := R_M) (T := F_M) (N := 31) (v := .int (nI s9)) hx hb hg i_M hown hK.va hI h_o rfl 14 (by decide) (hg _ q_818) (fun _ h9 => h9) rfl d_M_multiply_4 ?_
    refine lv_icmp_ge (tgt := 76) hx hb d_M_multiply_7 (by decide) (fun h9 => absurd h9 (by rw [nI_leI (by omega) (by omega)]; omega)) (fun _ => ?_)
    refine lv_iconst (v := nI 0) hx hb d_M_multiply_10 (by decide) ?_
    refine lv_istore_n (lv' := [(3, .int (nI 0)), (2, .int (nI i)), (1, .int (nI l9)), (0, .ref o)]) hx hb d_M_multiply_11 rfl hl (by decide) rfl (fun ls hl => ?_)
    refine lv_iconst (v := nI 0) hx hb d_M_multiply_12 (by decide) ?_
    refine lv_istore (lv' := [(4, .int (nI 0)), (3, .int (nI 0)), (2, .int (nI i)), (1, .int (nI l9)), (0, .ref o)]) hx hb d_M_multiply_13 hl (by decide) rfl (fun ls hl => ?_)
    refine lp_M_mul1 (B := B) (o := o) (ta := ta) (ve := ve) (ot := ot) (s9 := s9) (l9 := l9) (mv0 := mv0) (mv1 := mv1) (mv2 := mv2) (mv3 := mv3) (mv4 := mv4) (mv5 := mv5) (mv6 := mv6) (mv7 := mv7) (mv8 := mv8) (mv9 := mv9) (mv10 := mv10) (mv11 := mv11) (mv12 := mv12) (mv13 := mv13) (mv15 := mv15) (mv17 := mv17) (mv18 := mv18) (mv19 := mv19) (mv20 := mv20) (mv21 := mv21) (mv22 := mv22) (mv23 := mv23) (mv24 := mv24) (mv27 := mv27) (mv28 := mv28) (mv29 := mv29) (mv30 := mv30) (TB := TB) (vv := vv) (j9 := i) (ww := mgF i (fun j => sm s9 (fun k => TB (256 * l9 + 16 * j + k) * vv k)) ow) hx hb hml hg hown hK (Nat.le_trans (Nat.le_of_ble_eq_true rfl) hRf) (Nat.le_trans (Nat.le_of_ble_eq_true rfl) hRl) (by omega) (by omega) hs hl9 (by omega) s9 0 0 S H _ ls (by omega) rfl h_o h_ta h_ve h_ot hfr hI (lv_sub hl [0, 1, 2, 3, 4] rfl) (fun x9 S1 H2 locs ls hx8 j_o j_ta j_ve j_ot hfr hI hl => ?_)
    refine lv_aload_n hx hb d_M_multiply_63 rfl (lv_at hl 4 rfl) ?_
    refine mp_get (C := R_M) (T := F_M) (N := 31) (v := .ref ot) hx hb hg i_M hown hK.va hI j_o rfl 26 (by decide) (hg _ q_830) (fun _ h9 => h9) rfl d_M_multiply_64 ?_
    refine lv_iload_n hx hb d_M_multiply_67 rfl (lv_at hl 2 rfl) ?_
    refine lv_iload_n hx hb d_M_multiply_68 rfl (lv_at hl 1 rfl) ?_
    refine lv_topi (fun v3 ev3 => ?_)
    obtain rfl : v3 = nI ((fun j => sm s9 (fun k => TB (256 * l9 + 16 * j + k) * vv k)) i).val := ev3.trans (by rw [hx8])
    refine mp_iast hx hb hK.va hI 0 j_ot rfl (vp_in_nI (show i < 16 by omega) (by omega)) d_M_multiply_69 (fun S4 H5 locs e_6 hI => ?_)
    have j_ot_o := j_ot
    have e_6 : S4 = va_up S1 ot (some (2018, .inl ((g 0), 16, .inl (upd (fun j => nI ((mgF i (fun j => sm s9 (fun k => TB (256 * l9 + 16 * j + k) * vv k)) ow) j).val) (nI i).toNatClampNeg (nI ((fun j => sm s9 (fun k => TB (256 * l9 + 16 * j + k) * vv k)) i).val))))) := e_6
    have j_o : S4 o = some (2000, .inr (10, [mv0, mv1, mv2, mv3, mv4, mv5, mv6, mv7, mv8, mv9, mv10, mv11, mv12, mv13, .int (nI s9), mv15, .ref ta, mv17, mv18, mv19, mv20, mv21, mv22, mv23, mv24, .ref ve, .ref ot, mv27, mv28, mv29, mv30])) := by rw [e_6]; exact mp_keep j_o j_ot (by decide)
    have j_ta : S4 ta = some (2009, .inl ((g 0), 768, .inl (fun j => nI (TB j).val))) := by rw [e_6]; exact mp_keep j_ta j_ot (by decide)
    have j_ve : S4 ve = some (2017, .inl ((g 0), 16, .inl (fun j => nI (vv j).val))) := by rw [e_6]; exact mp_keep j_ve j_ot (by decide)
    have j_ot : S4 ot = some (2018, .inl ((g 0), 16, .inl (upd (fun j => nI ((mgF i (fun j => sm s9 (fun k => TB (256 * l9 + 16 * j + k) * vv k)) ow) j).val) (nI i).toNatClampNeg (nI ((fun j => sm s9 (fun k => TB (256 * l9 + 16 * j + k) * vv k)) i).val)))) := by rw [e_6]; exact mp_us _ _ _
    have hfr : ∀ b t e9, B b = some (t, e9) → (t ≠ 2017) → (t ≠ 2018) → S4 b = some (t, e9) := fun b t e9 h9 k0 k1 => by rw [e_6]; exact mp_keep (hfr b t e9 h9 k0 k1) j_ot_o (by omega)
    rw [nI_clamp (by omega), nIv_up] at j_ot
    have e9j_ot : (fun j => nI (va_up (mgF i (fun j => sm s9 (fun k => TB (256 * l9 + 16 * j + k) * vv k)) ow) i ((fun j => sm s9 (fun k => TB (256 * l9 + 16 * j + k) * vv k)) i) j).val) = (fun j => nI ((mgF (i + 1) (fun j => sm s9 (fun k => TB (256 * l9 + 16 * j + k) * vv k)) ow) j).val) := by rw [mgF_up]
    rw [e9j_ot] at j_ot
    refine lv_iinc (v := nI (i + 1)) (lv' := [(2, .int (nI (i + 1))), (4, .int (nI s9)), (3, .int (nI (x9).val)), (1, .int (nI l9)), (0, .ref o)]) hx hb d_M_multiply_70 hl (k := 2) rfl (nI_1 _) (by decide) rfl (fun ls hl => ?_)
    refine lv_goto (tgt := 2) hx hb d_M_multiply_73 (by decide) ?_
    exact ih (i + 1) S4 H5 locs ls (by omega) j_o j_ta j_ve j_ot hfr hI (lv_sub hl [0, 3, 4] rfl) kx
set_option maxHeartbeats 4000000 in
set_option maxRecDepth 100000 in
theorem lp_M_mul3 {p : Program} {l : Launch} {e : Env} {R : Room} {s : State} {m : MethodId} {args : Array Value} {below : List Frame} {meth : Method} {c : Code} {Q : State → Prop} {D : mp_G} {g : Nat → ClassId} {A : Nat → Prop} {cells slots : Nat} (hx : p.tables.exec = Jvm.exec) (hb : c.code = b_M_multiply) (hml : c.maxLocals = 5) (hg : ∀ w ∈ gw, w.before args s = true) (hown : s.vm.findClass R_M = some m.cls) (hK : mp_K D classes (tys g) s) (hRf : 1 ≤ R.frames) (hRl : 21 ≤ R.locals) (hRc : cells ≤ R.cells) (hRs : slots ≤ R.slots) {B : mp_M} {o ta ve ot s9 l9 : Nat} {mv0 mv1 mv2 mv3 mv4 mv5 mv6 mv7 mv8 mv9 mv10 mv11 mv12 mv13 mv15 mv17 mv18 mv19 mv20 mv21 mv22 mv23 mv24 mv27 mv28 mv29 mv30 : Value} {TB vv : Nat → fF} {ww : Nat → fF} (hs : s9 ≤ 16) (hl9 : l9 < 3) : ∀ (k : Nat) (i : Nat) (S : mp_M) (H : Heap) (locs : List Loc) (ls : Array Slot), i + k = s9 → S o = some (2000, .inr (10, [mv0, mv1, mv2, mv3, mv4, mv5, mv6, mv7, mv8, mv9, mv10, mv11, mv12, mv13, .int (nI s9), mv15, .ref ta, mv17, mv18, mv19, mv20, mv21, mv22, mv23, mv24, .ref ve, .ref ot, mv27, mv28, mv29, mv30])) → S ta = some (2009, .inl ((g 0), 768, .inl (fun j => nI (TB j).val))) → S ve = some (2017, .inl ((g 0), 16, .inl (fun j => nI ((mgF i ww vv) j).val))) → S ot = some (2018, .inl ((g 0), 16, .inl (fun j => nI (ww j).val))) → (∀ b t e9, B b = some (t, e9) → (t ≠ 2017) → (t ≠ 2018) → S b = some (t, e9)) → mp_I D classes A s.heap S H locs → lv_has ls 5 [(2, .int (nI i)), (1, .int (nI l9)), (0, .ref o)] → (∀ (S : mp_M) (H : Heap) (locs : List Loc) (ls : Array Slot), S o = some (2000, .inr (10, [mv0, mv1, mv2, mv3, mv4, mv5, mv6, mv7, mv8, mv9, mv10, mv11, mv12, mv13, .int (nI s9), mv15, .ref ta, mv17, mv18, mv19, mv20, mv21, mv22, mv23, mv24, .ref ve, .ref ot, mv27, mv28, mv29, mv30])) → S ta = some (2009, .inl ((g 0), 768, .inl (fun j => nI (TB j).val))) → S ve = some (2017, .inl ((g 0), 16, .inl (fun j => nI ((mgF s9 ww vv) j).val))) → S ot = some (2018, .inl ((g 0), 16, .inl (fun j => nI (ww j).val))) → (∀ b t e9, B b = some (t, e9) → (t ≠ 2017) → (t ≠ 2018) → S b = some (t, e9)) → mp_I D classes A s.heap S H locs → lv_has ls 5 [(2, .int (nI s9)), (1, .int (nI l9)), (0, .ref o)] → W p l e R s m args below meth c H locs cells slots Q (F0 m 104 ls [])) → W p l e R s m args below meth c H locs cells slots Q (F0 m 78 ls []) := by
  intro k
  induction k with
  | zero =>
    intro i S H locs ls hi h_o h_ta h_ve h_ot hfr hI hl kx
    refine lv_iload_n hx hb d_M_multiply_78 rfl (lv_at hl 0 rfl) ?_
    refine lv_aload_n hx hb d_M_multiply_79 rfl (lv_at hl 2 rfl) ?_
    refine mp_get (C := R_M) (T := F_M) (N := 31) (v := .int (nI s9)) hx hb hg i_M hown hK.va hI h_o rfl 14 (by decide) (hg _ q_818) (fun _ h9 => h9) rfl d_M_multiply_80 ?_
    refine lv_icmp_ge (tgt := 104) hx hb d_M_multiply_83 (by decide) (fun _ => ?_) (fun h9 => absurd ((nI_leI (by omega) (by omega)).mpr (by omega)) h9)
    obtain rfl : i = s9 := by omega
    exact kx S H locs ls h_o h_ta h_ve h_ot hfr hI (lv_sub hl [0, 1, 2] rfl)
  | succ k ih =>
    intro i S H locs ls hi h_o h_ta h_ve h_ot hfr hI hl kx
    refine lv_iload_n hx hb d_M_multiply_78 rfl (lv_at hl 0 rfl) ?_
    refine lv_aload_n hx hb d_M_multiply_79 rfl (lv_at hl 2 rfl) ?_
    refine mp_get (C := R_M) (T := F_M) (N := 31) (v := .int (nI s9)) hx hb hg i_M hown hK.va hI h_o rfl 14 (by decide) (hg _ q_818) (fun _ h9 => h9) rfl d_M_multiply_80 ?_
    refine lv_icmp_ge (tgt := 104) hx hb d_M_multiply_83 (by decide) (fun h9 => absurd h9 (by rw [nI_leI (by omega) (by omega)]; omega)) (fun _ => ?_)
    refine lv_aload_n hx hb d_M_multiply_86 rfl (lv_at hl 2 rfl) ?_
    refine mp_get (C := R_M) (T := F_M) (N := 31) (v := .ref ve) hx hb hg i_M hown hK.va hI h_o rfl 25 (by decide) (hg _ q_829) (fun _ h9 => h9) rfl d_M_multiply_87 ?_
    refine lv_iload_n hx hb d_M_multiply_90 rfl (lv_at hl 0 rfl) ?_
    refine lv_aload_n hx hb d_M_multiply_91 rfl (lv_at hl 2 rfl) ?_
    refine mp_get (C := R_M) (T := F_M) (N := 31) (v := .ref ot) hx hb hg i_M hown hK.va hI h_o rfl 26 (by decide) (hg _ q_830) (fun _ h9 => h9) rfl d_M_multiply_92 ?_
    refine lv_iload_n hx hb d_M_multiply_95 rfl (lv_at hl 0 rfl) ?_
    refine mp_iald hx hb hK.va hI 0 h_ot rfl (vp_in_nI (show i < 16 by omega) (by omega)) d_M_multiply_96 ?_
    refine lv_topi (fun v1 ev1 => ?_)
    obtain rfl : v1 = nI (ww i).val := ev1.trans (by rw [nI_clamp (by omega)])
    refine mp_iast hx hb hK.va hI 0 h_ve rfl (vp_in_nI (show i < 16 by omega) (by omega)) d_M_multiply_97 (fun S2 H3 locs e_4 hI => ?_)
    have h_ve_o := h_ve
    have e_4 : S2 = va_up S ve (some (2017, .inl ((g 0), 16, .inl (upd (fun j => nI ((mgF i ww vv) j).val) (nI i).toNatClampNeg (nI (ww i).val))))) := e_4
    have h_o : S2 o = some (2000, .inr (10, [mv0, mv1, mv2, mv3, mv4, mv5, mv6, mv7, mv8, mv9, mv10, mv11, mv12, mv13, .int (nI s9), mv15, .ref ta, mv17, mv18, mv19, mv20, mv21, mv22, mv23, mv24, .ref ve, .ref ot, mv27, mv28, mv29, mv30])) := by rw [e_4]; exact mp_keep h_o h_ve (by decide)
    have h_ta : S2 ta = some (2009, .inl ((g 0), 768, .inl (fun j => nI (TB j).val))) := by rw [e_4]; exact mp_keep h_ta h_ve (by decide)
    have h_ot : S2 ot = some (2018, .inl ((g 0), 16, .inl (fun j => nI (ww j).val))) := by rw [e_4]; exact mp_keep h_ot h_ve (by decide)
    have h_ve : S2 ve = some (2017, .inl ((g 0), 16, .inl (upd (fun j => nI ((mgF i ww vv) j).val) (nI i).toNatClampNeg (nI (ww i).val)))) := by rw [e_4]; exact mp_us _ _ _
    have hfr : ∀ b t e9, B b = some (t, e9) → (t ≠ 2017) → (t ≠ 2018) → S2 b = some (t, e9) := fun b t e9 h9 k0 k1 => by rw [e_4]; exact mp_keep (hfr b t e9 h9 k0 k1) h_ve_o (by omega)
    rw [nI_clamp (by omega), nIv_up] at h_ve
    have e9h_ve : (fun j => nI (va_up (mgF i ww vv) i (ww i) j).val) = (fun j => nI ((mgF (i + 1) ww vv) j).val) := by rw [mgF_up]
    rw [e9h_ve] at h_ve
    refine lv_iinc (v := nI (i + 1)) (lv' := [(2, .int (nI (i + 1))), (1, .int (nI l9)), (0, .ref o)]) hx hb d_M_multiply_98 hl (k := 0) rfl (nI_1 _) (by decide) rfl (fun ls hl => ?_)
    refine lv_goto (tgt := 78) hx hb d_M_multiply_101 (by decide) ?_
    exact ih (i + 1) S2 H3 locs ls (by omega) h_o h_ta h_ve h_ot hfr hI (lv_sub hl [0, 1, 2] rfl) kx
set_option maxHeartbeats 4000000 in
set_option maxRecDepth 100000 in
/-- a letter times a row, in the reference -/
theorem c_M_multiply (l : Launch) (D : mp_G) (g : Nat → ClassId) (S : mp_M) (sz : Nat) (o ta ve ot s9 l9 : Nat) (mv0 mv1 mv2 mv3 mv4 mv5 mv6 mv7 mv8 mv9 mv10 mv11 mv12 mv13 mv15 mv17 mv18 mv19 mv20 mv21 mv22 mv23 mv24 mv27 mv28 mv29 mv30 : Value) (TB vv : Nat → fF) (ow : Nat → fF) (h_o : S o = some (2000, .inr (10, [mv0, mv1, mv2, mv3, mv4, mv5, mv6, mv7, mv8, mv9, mv10, mv11, mv12, mv13, .int (nI s9), mv15, .ref ta, mv17, mv18, mv19, mv20, mv21, mv22, mv23, mv24, .ref ve, .ref ot, mv27, mv28, mv29, mv30]))) (h_ta : S ta = some (2009, .inl ((g 0), 768, .inl (fun j => nI (TB j).val)))) (h_ve : S ve = some (2017, .inl ((g 0), 16, .inl (fun j => nI (vv j).val)))) (h_ot : S ot = some (2018, .inl ((g 0), 16, .inl (fun j => nI (ow j).val)))) (hs : s9 ≤ 16) (hl9 : l9 < 3) : Met l y_M_multiply w_M_multiply ({ frames := 1, cells := 0, slots := 0, locals := 21 }) (va_Pc [.ref o, .int (nI l9)] (mp_B0 D classes (tys g) S sz)) (va_Qv (fun (S1 : mp_M) => S1 ve = some (2017, .inl ((g 0), 16, .inl (fun j => nI ((mgF s9 (mgF s9 (fun j => sm s9 (fun k => TB (256 * l9 + 16 * j + k) * vv k)) ow) vv) j).val))) ∧ S1 ot = some (2018, .inl ((g 0), 16, .inl (fun j => nI ((mgF s9 (fun j => sm s9 (fun k => TB (256 * l9 + 16 * j + k) * vv k)) ow) j).val))) ∧ (∀ b t e9, S b = some (t, e9) → (t ≠ 2017) → (t ≠ 2018) → S1 b = some (t, e9))) (mp_B1 D classes S sz) (mp_A S sz)) 0 0 (mp_A S sz) := by
  refine Met.ofW (cc := b_M_multiply) (maxL := 5) (ret := none) (by decide) rfl ?_
  intro p e s m args below meth c s₁ B hml hv
  obtain ⟨rfl, hsz, hH, hK⟩ := hv
  have hx := B.exec
  have hb := B.bytes
  have hr := B.returns
  have hts := atoms_spec (ws := w_M_multiply) B.pre
  have hg : ∀ w ∈ gw, w.before _ s = true := fun w h => hts w (List.mem_cons_of_mem _ h)
  have hown : s.vm.findClass R_M = some m.cls := findClass_of_methodNamed B.named
  have hlocks := B.notSynchronized
  subst hsz
  have hI := mp_I.start hH
  have hl := lv_entry ([.ref o, .int (nI l9)]) (n := 5) (Nat.le_of_ble_eq_true rfl)
  rw [lg_entry_eq]
  generalize (lg_sl ([.ref o, .int (nI l9)]) ++ List.replicate (5 - (lg_sl ([.ref o, .int (nI l9)])).length) Slot.unset).toArray = ls at hl ⊢
  have hl : lv_has ls 5 [(0, .ref o), (1, .int (nI l9))] := hl
  have hfr : ∀ b t e9, S b = some (t, e9) → (t ≠ 2017) → (t ≠ 2018) → S b = some (t, e9) := fun _ _ _ h9 _ _ => h9
  refine lv_iconst (v := nI 0) hx hb d_M_multiply_0 (by decide) ?_
  refine lv_istore_n (lv' := [(2, .int (nI 0)), (0, .ref o), (1, .int (nI l9))]) hx hb d_M_multiply_1 rfl hl (by decide) rfl (fun ls hl => ?_)
  rw [← mgF_0 (fun j => sm s9 (fun k => TB (256 * l9 + 16 * j + k) * vv k)) ow] at h_ot
  refine lp_M_mul2 (B := S) (o := o) (ta := ta) (ve := ve) (ot := ot) (s9 := s9) (l9 := l9) (mv0 := mv0) (mv1 := mv1) (mv2 := mv2) (mv3 := mv3) (mv4 := mv4) (mv5 := mv5) (mv6 := mv6) (mv7 := mv7) (mv8 := mv8) (mv9 := mv9) (mv10 := mv10) (mv11 := mv11) (mv12 := mv12) (mv13 := mv13) (mv15 := mv15) (mv17 := mv17) (mv18 := mv18) (mv19 := mv19) (mv20 := mv20) (mv21 := mv21) (mv22 := mv22) (mv23 := mv23) (mv24 := mv24) (mv27 := mv27) (mv28 := mv28) (mv29 := mv29) (mv30 := mv30) (TB := TB) (vv := vv) (ow := ow) hx hb hml hg hown hK (Nat.le_of_ble_eq_true rfl) (Nat.le_of_ble_eq_true rfl) (Nat.le_of_ble_eq_true rfl) (Nat.le_of_ble_eq_true rfl) hs hl9 s9 0 S s.heap _ ls (by omega) h_o h_ta h_ve h_ot hfr hI (lv_sub hl [0, 2, 1] rfl) (fun S1 H2 locs ls j_o j_ta j_ve j_ot hfr hI hl => ?_)
  refine lv_iconst (v := nI 0) hx hb d_M_multiply_76 (by decide) ?_
  refine lv_istore_n (lv' := [(2, .int (nI 0)), (1, .int (nI l9)), (0, .ref o)]) hx hb d_M_multiply_77 rfl hl (by decide) rfl (fun ls hl => ?_)
  rw [← mgF_0 (mgF s9 (fun j => sm s9 (fun k => TB (256 * l9 + 16 * j + k) * vv k)) ow) vv] at j_ve
  refine lp_M_mul3 (B := S) (o := o) (ta := ta) (ve := ve) (ot := ot) (s9 := s9) (l9 := l9) (mv0 := mv0) (mv1 := mv1) (mv2 := mv2) (mv3 := mv3) (mv4 := mv4) (mv5 := mv5) (mv6 := mv6) (mv7 := mv7) (mv8 := mv8) (mv9 := mv9) (mv10 := mv10) (mv11 := mv11) (mv12 := mv12) (mv13 := mv13) (mv15 := mv15) (mv17 := mv17) (mv18 := mv18) (mv19 := mv19) (mv20 := mv20) (mv21 := mv21) (mv22 := mv22) (mv23 := mv23) (mv24 := mv24) (mv27 := mv27) (mv28 := mv28) (mv29 := mv29) (mv30 := mv30) (TB := TB) (vv := vv) (ww := (mgF s9 (fun j => sm s9 (fun k => TB (256 * l9 + 16 * j + k) * vv k)) ow)) hx hb hml hg hown hK (Nat.le_of_ble_eq_true rfl) (Nat.le_of_ble_eq_true rfl) (Nat.le_of_ble_eq_true rfl) (Nat.le_of_ble_eq_true rfl) hs hl9 s9 0 S1 H2 _ ls (by omega) j_o j_ta j_ve j_ot hfr hI (lv_sub hl [0, 1, 2] rfl) (fun S3 H4 locs ls j_o j_ta j_ve j_ot hfr hI hl => ?_)
  refine mp_vret hx hb hr hlocks hI (Nat.le_of_ble_eq_true rfl) (Nat.le_of_ble_eq_true rfl) ?_ d_M_multiply_104
  exact ⟨j_ve, j_ot, hfr⟩
