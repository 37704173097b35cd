theorem mlt_t {PT : Nat → Nat → fF} (h : ∀ r, trn 16 (PT r)) (l s : Nat) (u : Nat → fF) : trn 16 (mltF PT l s u) := fun j hj => by
  unfold mltF; exact sm_z (fun k _ => by rw [h _ j hj]; grind)
theorem lg_b {x i a b : Nat} (h : x ≤ i * 1024128004) (ha : a ≤ 32002) (hb : b ≤ 32002) : x + a * b ≤ (i + 1) * 1024128004 := sq_b h ha hb

theorem d_Q_multiply_0 : decode b_Q_multiply 0 = .ok (.iconst 0, 1) := by decide +kernel
theorem d_Q_multiply_1 : decode b_Q_multiply 1 = .ok (.istore 4, 2) := by decide +kernel
theorem d_Q_multiply_3 : decode b_Q_multiply 3 = .ok (.iload 4, 2) := by decide +kernel
theorem d_Q_multiply_5 : decode b_Q_multiply 5 = .ok (.aload_n 0, 1) := by decide +kernel
theorem d_Q_multiply_6 : decode b_Q_multiply 6 = .ok (.getfield 54, 3) := by decide +kernel
theorem d_Q_multiply_9 : decode b_Q_multiply 9 = .ok (.if_icmp .ge 68, 3) := by decide +kernel
theorem d_Q_multiply_12 : decode b_Q_multiply 12 = .ok (.lconst 0, 1) := by decide +kernel
theorem d_Q_multiply_13 : decode b_Q_multiply 13 = .ok (.lstore 5, 2) := by decide +kernel
theorem d_Q_multiply_15 : decode b_Q_multiply 15 = .ok (.iconst 0, 1) := by decide +kernel
theorem d_Q_multiply_16 : decode b_Q_multiply 16 = .ok (.istore 7, 2) := by decide +kernel
theorem d_Q_multiply_18 : decode b_Q_multiply 18 = .ok (.iload 7, 2) := by decide +kernel
theorem d_Q_multiply_20 : decode b_Q_multiply 20 = .ok (.aload_n 0, 1) := by decide +kernel
theorem d_Q_multiply_21 : decode b_Q_multiply 21 = .ok (.getfield 54, 3) := by decide +kernel
theorem d_Q_multiply_24 : decode b_Q_multiply 24 = .ok (.if_icmp .ge 36, 3) := by decide +kernel
theorem d_Q_multiply_27 : decode b_Q_multiply 27 = .ok (.lload 5, 2) := by decide +kernel
theorem d_Q_multiply_29 : decode b_Q_multiply 29 = .ok (.aload_n 2, 1) := by decide +kernel
theorem d_Q_multiply_30 : decode b_Q_multiply 30 = .ok (.iload 7, 2) := by decide +kernel
theorem d_Q_multiply_32 : decode b_Q_multiply 32 = .ok (.iaload, 1) := by decide +kernel
theorem d_Q_multiply_33 : decode b_Q_multiply 33 = .ok (.i2l, 1) := by decide +kernel
theorem d_Q_multiply_34 : decode b_Q_multiply 34 = .ok (.aload_n 0, 1) := by decide +kernel
theorem d_Q_multiply_35 : decode b_Q_multiply 35 = .ok (.getfield 17, 3) := by decide +kernel
theorem d_Q_multiply_38 : decode b_Q_multiply 38 = .ok (.bipush 16, 2) := by decide +kernel
theorem d_Q_multiply_40 : decode b_Q_multiply 40 = .ok (.iload_n 1, 1) := by decide +kernel
theorem d_Q_multiply_41 : decode b_Q_multiply 41 = .ok (.imul, 1) := by decide +kernel
theorem d_Q_multiply_42 : decode b_Q_multiply 42 = .ok (.iload 7, 2) := by decide +kernel
theorem d_Q_multiply_44 : decode b_Q_multiply 44 = .ok (.iadd, 1) := by decide +kernel
theorem d_Q_multiply_45 : decode b_Q_multiply 45 = .ok (.aaload, 1) := by decide +kernel
theorem d_Q_multiply_46 : decode b_Q_multiply 46 = .ok (.iload 4, 2) := by decide +kernel
theorem d_Q_multiply_48 : decode b_Q_multiply 48 = .ok (.iaload, 1) := by decide +kernel
theorem d_Q_multiply_49 : decode b_Q_multiply 49 = .ok (.i2l, 1) := by decide +kernel
theorem d_Q_multiply_50 : decode b_Q_multiply 50 = .ok (.lmul, 1) := by decide +kernel
theorem d_Q_multiply_51 : decode b_Q_multiply 51 = .ok (.ladd, 1) := by decide +kernel
theorem d_Q_multiply_52 : decode b_Q_multiply 52 = .ok (.lstore 5, 2) := by decide +kernel
theorem d_Q_multiply_54 : decode b_Q_multiply 54 = .ok (.iinc 7 1, 3) := by decide +kernel
theorem d_Q_multiply_57 : decode b_Q_multiply 57 = .ok (.goto (-39), 3) := by decide +kernel
theorem d_Q_multiply_60 : decode b_Q_multiply 60 = .ok (.aload_n 3, 1) := by decide +kernel
theorem d_Q_multiply_61 : decode b_Q_multiply 61 = .ok (.iload 4, 2) := by decide +kernel
theorem d_Q_multiply_63 : decode b_Q_multiply 63 = .ok (.lload 5, 2) := by decide +kernel
theorem d_Q_multiply_65 : decode b_Q_multiply 65 = .ok (.ldc2_w 86, 3) := by decide +kernel
theorem d_Q_multiply_68 : decode b_Q_multiply 68 = .ok (.lrem, 1) := by decide +kernel
theorem d_Q_multiply_69 : decode b_Q_multiply 69 = .ok (.l2i, 1) := by decide +kernel
theorem d_Q_multiply_70 : decode b_Q_multiply 70 = .ok (.iastore, 1) := by decide +kernel
theorem d_Q_multiply_71 : decode b_Q_multiply 71 = .ok (.iinc 4 1, 3) := by decide +kernel
theorem d_Q_multiply_74 : decode b_Q_multiply 74 = .ok (.goto (-71), 3) := by decide +kernel
theorem d_Q_multiply_77 : decode b_Q_multiply 77 = .ok (.return_, 1) := by decide +kernel
theorem d_Q_noteLower_0 : decode b_Q_noteLower 0 = .ok (.iconst 0, 1) := by decide +kernel
theorem d_Q_noteLower_1 : decode b_Q_noteLower 1 = .ok (.istore 4, 2) := by decide +kernel
theorem d_Q_noteLower_3 : decode b_Q_noteLower 3 = .ok (.iload 4, 2) := by decide +kernel
theorem d_Q_noteLower_5 : decode b_Q_noteLower 5 = .ok (.aload_n 0, 1) := by decide +kernel
theorem d_Q_noteLower_6 : decode b_Q_noteLower 6 = .ok (.getfield 54, 3) := by decide +kernel
theorem d_Q_noteLower_9 : decode b_Q_noteLower 9 = .ok (.if_icmp .ge 36, 3) := by decide +kernel
theorem d_Q_noteLower_12 : decode b_Q_noteLower 12 = .ok (.aload_n 0, 1) := by decide +kernel
theorem d_Q_noteLower_13 : decode b_Q_noteLower 13 = .ok (.getfield 9, 3) := by decide +kernel
theorem d_Q_noteLower_16 : decode b_Q_noteLower 16 = .ok (.iload 4, 2) := by decide +kernel
theorem d_Q_noteLower_18 : decode b_Q_noteLower 18 = .ok (.iaload, 1) := by decide +kernel
theorem d_Q_noteLower_19 : decode b_Q_noteLower 19 = .ok (.iload_n 1, 1) := by decide +kernel
theorem d_Q_noteLower_20 : decode b_Q_noteLower 20 = .ok (.if_icmp .ne 19, 3) := by decide +kernel
theorem d_Q_noteLower_23 : decode b_Q_noteLower 23 = .ok (.aload_n 0, 1) := by decide +kernel
theorem d_Q_noteLower_24 : decode b_Q_noteLower 24 = .ok (.getfield 20, 3) := by decide +kernel
theorem d_Q_noteLower_27 : decode b_Q_noteLower 27 = .ok (.iload 4, 2) := by decide +kernel
theorem d_Q_noteLower_29 : decode b_Q_noteLower 29 = .ok (.iload_n 2, 1) := by decide +kernel
theorem d_Q_noteLower_30 : decode b_Q_noteLower 30 = .ok (.iastore, 1) := by decide +kernel
theorem d_Q_noteLower_31 : decode b_Q_noteLower 31 = .ok (.aload_n 0, 1) := by decide +kernel
theorem d_Q_noteLower_32 : decode b_Q_noteLower 32 = .ok (.getfield 23, 3) := by decide +kernel
theorem d_Q_noteLower_35 : decode b_Q_noteLower 35 = .ok (.iload 4, 2) := by decide +kernel
theorem d_Q_noteLower_37 : decode b_Q_noteLower 37 = .ok (.iload_n 3, 1) := by decide +kernel
theorem d_Q_noteLower_38 : decode b_Q_noteLower 38 = .ok (.iastore, 1) := by decide +kernel
theorem d_Q_noteLower_39 : decode b_Q_noteLower 39 = .ok (.iinc 4 1, 3) := by decide +kernel
theorem d_Q_noteLower_42 : decode b_Q_noteLower 42 = .ok (.goto (-39), 3) := by decide +kernel
theorem d_Q_noteLower_45 : decode b_Q_noteLower 45 = .ok (.return_, 1) := by decide +kernel
theorem d_Q_setOne_0 : decode b_Q_setOne 0 = .ok (.aload_n 1, 1) := by decide +kernel
theorem d_Q_setOne_1 : decode b_Q_setOne 1 = .ok (.iconst 0, 1) := by decide +kernel
theorem d_Q_setOne_2 : decode b_Q_setOne 2 = .ok (.invokestatic 88, 3) := by decide +kernel
theorem d_Q_setOne_5 : decode b_Q_setOne 5 = .ok (.aload_n 0, 1) := by decide +kernel
theorem d_Q_setOne_6 : decode b_Q_setOne 6 = .ok (.getfield 54, 3) := by decide +kernel
theorem d_Q_setOne_9 : decode b_Q_setOne 9 = .ok (.ifCond .le 7, 3) := by decide +kernel
theorem d_Q_setOne_12 : decode b_Q_setOne 12 = .ok (.aload_n 1, 1) := by decide +kernel
theorem d_Q_setOne_13 : decode b_Q_setOne 13 = .ok (.iconst 0, 1) := by decide +kernel
theorem d_Q_setOne_14 : decode b_Q_setOne 14 = .ok (.iconst 1, 1) := by decide +kernel
theorem d_Q_setOne_15 : decode b_Q_setOne 15 = .ok (.iastore, 1) := by decide +kernel
theorem d_Q_setOne_16 : decode b_Q_setOne 16 = .ok (.return_, 1) := by decide +kernel
set_option maxHeartbeats 4000000 in
set_option maxRecDepth 100000 in
theorem lp_Q_mulI {p : Program} {l : Launch} {e : Env} {R : Room} {s : State} {m : MethodId} {args : Array Value} {below : List Frame} {meth : Method} {c : Code} {Q : State → Prop} {D : mp_G} {g : Nat → ClassId} {A : Nat → Prop} {cells slots : Nat} (hx : p.tables.exec = Jvm.exec) (hb : c.code = b_Q_multiply) (hml : c.maxLocals = 8) (hg : ∀ w ∈ gw, w.before args s = true) (hown : s.vm.findClass R_Q = some m.cls) (hK : mp_K D classes (tys g) s) (hRf : 0 ≤ R.frames) (hRl : 0 ≤ R.locals) (hRc : cells ≤ R.cells) (hRs : slots ≤ R.slots) {B : mp_M} {qo pr fa ia TA TI s9 l9 : Nat} {q0 q1 q4 q5 q6 q7 q8 q9 q10 q11 : Value} {PT : Nat → Nat → fF} {u w9 : Nat → fF} {i : Nat} (hlab : (19 < TA ∧ TA < 400 ∨ 448 ≤ TA) ∧ (19 < TI ∧ TI < 400 ∨ 448 ≤ TI) ∧ TA ≠ TI) (hs : s9 ≤ 16) (hl9 : l9 < 3) (hi9 : i < s9) : ∀ (k : Nat) (kk : Nat) (x : Nat) (S : mp_M) (H : Heap) (locs : List Loc) (ls : Array Slot), kk + k = s9 → (fc x = sm kk (fun k => u k * PT (16 * l9 + k) i)) → (x ≤ kk * 1024128004) → S qo = some (14, .inr (4, [q0, q1, .int (nI s9), .ref pr, q4, q5, q6, q7, q8, q9, q10, q11])) → S pr = some (16, .inl ((g 1), 48, .inr (.inr (.inr (.inr (rfs (fun ii => pr + 1 + ii) 48)))))) → S fa = some (TA, .inl ((g 0), 16, .inl (fun j => nI (u j).val))) → S ia = some (TI, .inl ((g 0), 16, .inl (fun j => nI (w9 j).val))) → (rS g 400 48 16 (fun ii => pr + 1 + ii) (fun ii j => nI (PT ii j).val) S) → (∀ b t e9, B b = some (t, e9) → (t ≠ TI) → S b = some (t, e9)) → mp_I D classes A s.heap S H locs → lv_has ls 8 [(7, .int (nI kk)), (5, .long (lN x)), (4, .int (nI i)), (3, .ref ia), (2, .ref fa), (1, .int (nI l9)), (0, .ref qo)] → (∀ (x : Nat) (S : mp_M) (H : Heap) (locs : List Loc) (ls : Array Slot), (fc x = sm s9 (fun k => u k * PT (16 * l9 + k) i)) → (x ≤ s9 * 1024128004) → S qo = some (14, .inr (4, [q0, q1, .int (nI s9), .ref pr, q4, q5, q6, q7, q8, q9, q10, q11])) → S pr = some (16, .inl ((g 1), 48, .inr (.inr (.inr (.inr (rfs (fun ii => pr + 1 + ii) 48)))))) → S fa = some (TA, .inl ((g 0), 16, .inl (fun j => nI (u j).val))) → S ia = some (TI, .inl ((g 0), 16, .inl (fun j => nI (w9 j).val))) → (rS g 400 48 16 (fun ii => pr + 1 + ii) (fun ii j => nI (PT ii j).val) S) → (∀ b t e9, B b = some (t, e9) → (t ≠ TI) → S b = some (t, e9)) → mp_I D classes A s.heap S H locs → lv_has ls 8 [(7, .int (nI s9)), (5, .long (lN x)), (4, .int (nI i)), (3, .ref ia), (2, .ref fa), (1, .int (nI l9)), (0, .ref qo)] → W p l e R s m args below meth c H locs cells slots Q (F0 m 60 ls [])) → W p l e R s m args below meth c H locs cells slots Q (F0 m 18 ls []) := by
  intro k
  induction k with
  | zero =>
    intro kk x S H locs ls hi hsx hbx h_qo h_pr h_fa h_ia hP hfr hI hl kx
    refine lv_iload hx hb d_Q_multiply_18 (lv_at hl 0 rfl) ?_
    refine lv_aload_n hx hb d_Q_multiply_20 rfl (lv_at hl 6 rfl) ?_
    refine mp_get (C := R_Q) (T := F_Q) (N := 12) (v := .int (nI s9)) hx hb hg i_Q hown hK.va hI h_qo rfl 2 (by decide) (hg _ q_221) (fun _ h9 => h9) rfl d_Q_multiply_21 ?_
    refine lv_icmp_ge (tgt := 60) hx hb d_Q_multiply_24 (by decide) (fun _ => ?_) (fun h9 => absurd ((nI_leI (by omega) (by omega)).mpr (by omega)) h9)
    obtain rfl : kk = s9 := by omega
    exact kx x S H locs ls hsx hbx h_qo h_pr h_fa h_ia hP hfr hI (lv_sub hl [0, 1, 2, 3, 4, 5, 6] rfl)
  | succ k ih =>
    intro kk x S H locs ls hi hsx hbx h_qo h_pr h_fa h_ia hP hfr hI hl kx
    refine lv_iload hx hb d_Q_multiply_18 (lv_at hl 0 rfl) ?_
    refine lv_aload_n hx hb d_Q_multiply_20 rfl (lv_at hl 6 rfl) ?_
    refine mp_get (C := R_Q) (T := F_Q) (N := 12) (v := .int (nI s9)) hx hb hg i_Q hown hK.va hI h_qo rfl 2 (by decide) (hg _ q_221) (fun _ h9 => h9) rfl d_Q_multiply_21 ?_
    refine lv_icmp_ge (tgt := 60) hx hb d_Q_multiply_24 (by decide) (fun h9 => absurd h9 (by rw [nI_leI (by omega) (by omega)]; omega)) (fun _ => ?_)
    refine lv_lload hx hb d_Q_multiply_27 (lv_at hl 1 rfl) ?_
    refine lv_aload_n hx hb d_Q_multiply_29 rfl (lv_at hl 4 rfl) ?_
    refine lv_iload hx hb d_Q_multiply_30 (lv_at hl 0 rfl) ?_
    refine mp_iald hx hb hK.va hI 0 h_fa rfl (vp_in_nI (show kk < 16 by omega) (by omega)) d_Q_multiply_32 ?_
    refine lv_topi (fun v1 ev1 => ?_)
    obtain rfl : v1 = nI (u kk).val := ev1.trans (by rw [nI_clamp (by omega)])
    refine lv_i2l (v := lN ((u kk).val)) hx hb d_Q_multiply_33 (nI_l (by omega)) ?_
    refine lv_aload_n hx hb d_Q_multiply_34 rfl (lv_at hl 6 rfl) ?_
    refine mp_get (C := R_Q) (T := F_Q) (N := 12) (v := .ref pr) hx hb hg i_Q hown hK.va hI h_qo rfl 3 (by decide) (hg _ q_224) (fun _ h9 => h9) rfl d_Q_multiply_35 ?_
    refine lv_bipush (v := nI 16) hx hb d_Q_multiply_38 (by decide) ?_
    refine lv_iload_n hx hb d_Q_multiply_40 rfl (lv_at hl 5 rfl) ?_
    refine lv_imul hx hb d_Q_multiply_41 ?_
    refine lv_topi (fun v2 ev2 => ?_)
    obtain rfl : v2 = nI (16 * l9) := ev2.trans (pk_mul _ _)
    refine lv_iload hx hb d_Q_multiply_42 (lv_at hl 0 rfl) ?_
    refine lv_iadd hx hb d_Q_multiply_44 ?_
    refine lv_topi (fun v3 ev3 => ?_)
    obtain rfl : v3 = nI ((16 * l9) + kk) := ev3.trans (nI_add _ _)
    have h_rw : S (pr + 1 + (16 * l9 + kk)) = some ((400 + (16 * l9 + kk)), .inl ((g 0), 16, .inl (fun j => nI ((PT (16 * l9 + kk)) j).val))) := hP (16 * l9 + kk) (by omega)
    refine mp_ald2 (b := pr + 1 + ((16 * l9) + kk)) hx hb hK.va hI 1 h_pr rfl (vp_in_nI (show (16 * l9) + kk < 48 by omega) (by omega)) (by rw [nI_clamp (by omega)]; exact rfs_at (by omega)) d_Q_multiply_45 ?_
    refine lv_iload hx hb d_Q_multiply_46 (lv_at hl 2 rfl) ?_
    refine mp_iald hx hb hK.va hI 0 h_rw rfl (vp_in_nI (show i < 16 by omega) (by omega)) d_Q_multiply_48 ?_
    refine lv_topi (fun v4 ev4 => ?_)
    obtain rfl : v4 = nI ((PT (16 * l9 + kk)) i).val := ev4.trans (by rw [nI_clamp (by omega)])
    refine lv_i2l (v := lN (((PT (16 * l9 + kk)) i).val)) hx hb d_Q_multiply_49 (nI_l (by omega)) ?_
    refine lv_lmul hx hb d_Q_multiply_50 ?_
    refine lv_topl (fun v5 ev5 => ?_)
    obtain rfl : v5 = lN (((u kk).val) * (((PT (16 * l9 + kk)) i).val)) := ev5.trans (lN_mul _ _)
    refine lv_ladd hx hb d_Q_multiply_51 ?_
    refine lv_topl (fun v6 ev6 => ?_)
    obtain rfl : v6 = lN (x + (((u kk).val) * (((PT (16 * l9 + kk)) i).val))) := ev6.trans (lN_add _ _)
    refine lv_lstore (lv' := [(5, .long (lN (x + (((u kk).val) * (((PT (16 * l9 + kk)) i).val))))), (7, .int (nI kk)), (4, .int (nI i)), (3, .ref ia), (2, .ref fa), (1, .int (nI l9)), (0, .ref qo)]) hx hb d_Q_multiply_52 hl (by decide) rfl (fun ls hl => ?_)
    refine lv_iinc (v := nI (kk + 1)) (lv' := [(7, .int (nI (kk + 1))), (5, .long (lN (x + (((u kk).val) * (((PT (16 * l9 + kk)) i).val))))), (4, .int (nI i)), (3, .ref ia), (2, .ref fa), (1, .int (nI l9)), (0, .ref qo)]) hx hb d_Q_multiply_54 hl (k := 1) rfl (nI_1 _) (by decide) rfl (fun ls hl => ?_)
    refine lv_goto (tgt := 18) hx hb d_Q_multiply_57 (by decide) ?_
    exact ih (kk + 1) (x + (u kk).val * (PT (16 * l9 + kk) i).val) S H locs ls (by omega) (by rw [fc_add, fc_mul, fc_of, fc_of, hsx, sm_s]) (sq_b hbx (by omega) (by omega)) h_qo h_pr h_fa h_ia hP hfr hI (lv_sub hl [0, 1, 2, 3, 4, 5, 6] rfl) kx
set_option maxHeartbeats 4000000 in
set_option maxRecDepth 100000 in
theorem lp_Q_mulO {p : Program} {l : Launch} {e : Env} {R : Room} {s : State} {m : MethodId} {args : Array Value} {below : List Frame} {meth : Method} {c : Code} {Q : State → Prop} {D : mp_G} {g : Nat → ClassId} {A : Nat → Prop} {cells slots : Nat} (hx : p.tables.exec = Jvm.exec) (hb : c.code = b_Q_multiply) (hml : c.maxLocals = 8) (hg : ∀ w ∈ gw, w.before args s = true) (hown : s.vm.findClass R_Q = some m.cls) (hK : mp_K D classes (tys g) s) (hRf : 0 ≤ R.frames) (hRl : 0 ≤ R.locals) (hRc : cells ≤ R.cells) (hRs : slots ≤ R.slots) {B : mp_M} {qo pr fa ia TA TI s9 l9 : Nat} {q0 q1 q4 q5 q6 q7 q8 q9 q10 q11 : Value} {PT : Nat → Nat → fF} {u v : Nat → fF} (hlab : (19 < TA ∧ TA < 400 ∨ 448 ≤ TA) ∧ (19 < TI ∧ TI < 400 ∨ 448 ≤ TI) ∧ TA ≠ TI) (hs : s9 ≤ 16) (hl9 : l9 < 3) : ∀ (k : Nat) (i : Nat) (S : mp_M) (H : Heap) (locs : List Loc) (ls : Array Slot), i + k = s9 → S qo = some (14, .inr (4, [q0, q1, .int (nI s9), .ref pr, q4, q5, q6, q7, q8, q9, q10, q11])) → S pr = some (16, .inl ((g 1), 48, .inr (.inr (.inr (.inr (rfs (fun ii => pr + 1 + ii) 48)))))) → S fa = some (TA, .inl ((g 0), 16, .inl (fun j => nI (u j).val))) → S ia = some (TI, .inl ((g 0), 16, .inl (fun j => nI ((mgF i (mltF PT l9 s9 u) v) j).val))) → (rS g 400 48 16 (fun ii => pr + 1 + ii) (fun ii j => nI (PT ii j).val) S) → (∀ b t e9, B b = some (t, e9) → (t ≠ TI) → S b = some (t, e9)) → mp_I D classes A s.heap S H locs → lv_has ls 8 [(4, .int (nI i)), (3, .ref ia), (2, .ref fa), (1, .int (nI l9)), (0, .ref qo)] → (∀ (S : mp_M) (H : Heap) (locs : List Loc) (ls : Array Slot), S qo = some (14, .inr (4, [q0, q1, .int (nI s9), .ref pr, q4, q5, q6, q7, q8, q9, q10, q11])) → S pr = some (16, .inl ((g 1), 48, .inr (.inr (.inr (.inr (rfs (fun ii => pr + 1 + ii) 48)))))) → S fa = some (TA, .inl ((g 0), 16, .inl (fun j => nI (u j).val))) → S ia = some (TI, .inl ((g 0), 16, .inl (fun j => nI ((mgF s9 (mltF PT l9 s9 u) v) j).val))) → (rS g 400 48 16 (fun ii => pr + 1 + ii) (fun ii j => nI (PT ii j).val) S) → (∀ b t e9, B b = some (t, e9) → (t ≠ TI) → S b = some (t, e9)) → mp_I D classes A s.heap S H locs → lv_has ls 8 [(4, .int (nI s9)), (3, .ref ia), (2, .ref fa), (1, .int (nI l9)), (0, .ref qo)] → W p l e R s m args below meth c H locs cells slots Q (F0 m 77 ls [])) → W p l e R s m args below meth c H locs cells slots Q (F0 m 3 ls []) := by
  intro k
  induction k with
  | zero =>
    intro i S H locs ls hi h_qo h_pr h_fa h_ia hP hfr hI hl kx
    refine lv_iload hx hb d_Q_multiply_3 (lv_at hl 0 rfl) ?_
    refine lv_aload_n hx hb d_Q_multiply_5 rfl (lv_at hl 4 rfl) ?_
    refine mp_get (C := R_Q) (T := F_Q) (N := 12) (v := .int (nI s9)) hx hb hg i_Q hown hK.va hI h_qo rfl 2 (by decide) (hg _ q_221) (fun _ h9 => h9) rfl d_Q_multiply_6 ?_
    refine lv_icmp_ge (tgt := 77) hx hb d_Q_multiply_9 (by decide) (fun _ => ?_) (fun h9 => absurd ((nI_leI (by omega) (by omega)).mpr (by omega)) h9)
    obtain rfl : i = s9 := by omega
    exact kx S H locs ls h_qo h_pr h_fa h_ia hP hfr hI (lv_sub hl [0, 1, 2, 3, 4] rfl)
  | succ k ih =>
    intro i S H locs ls hi h_qo h_pr h_fa h_ia hP hfr hI hl kx
    refine lv_iload hx hb d_Q_multiply_3 (lv_at hl 0 rfl) ?_
    refine lv_aload_n hx hb d_Q_multiply_5 rfl (lv_at hl 4 rfl) ?_
    refine mp_get (C := R_Q) (T := F_Q) (N := 12) (v := .int (nI s9)) hx hb hg i_Q hown hK.va hI h_qo rfl 2 (by decide) (hg _ q_221) (fun _ h9 => h9) rfl d_Q_multiply_6 ?_
    refine lv_icmp_ge (tgt := 77) hx hb d_Q_multiply_9 (by decide) (fun h9 => absurd h9 (by rw [nI_leI (by omega) (by omega)]; omega)) (fun _ => ?_)
    refine lv_lconst (v := lN 0) hx hb d_Q_multiply_12 (by decide) ?_
    refine lv_lstore (lv' := [(5, .long (lN 0)), (4, .int (nI i)), (3, .ref ia), (2, .ref fa), (1, .int (nI l9)), (0, .ref qo)]) hx hb d_Q_multiply_13 hl (by decide) rfl (fun ls hl => ?_)
    refine lv_iconst (v := nI 0) hx hb d_Q_multiply_15 (by decide) ?_
    refine lv_istore (lv' := [(7, .int (nI 0)), (5, .long (lN 0)), (4, .int (nI i)), (3, .ref ia), (2, .ref fa), (1, .int (nI l9)), (0, .ref qo)]) hx hb d_Q_multiply_16 hl (by decide) rfl (fun ls hl => ?_)
    refine lp_Q_mulI (B := B) (qo := qo) (pr := pr) (fa := fa) (ia := ia) (TA := TA) (TI := TI) (s9 := s9) (l9 := l9) (q0 := q0) (q1 := q1) (q4 := q4) (q5 := q5) (q6 := q6) (q7 := q7) (q8 := q8) (q9 := q9) (q10 := q10) (q11 := q11) (PT := PT) (u := u) (w9 := mgF i (mltF PT l9 s9 u) v) (i := i) hx hb hml hg hown hK (Nat.le_trans (Nat.le_of_ble_eq_true rfl) hRf) (Nat.le_trans (Nat.le_of_ble_eq_true rfl) hRl) (by omega) (by omega) hlab hs hl9 (by omega) s9 0 0 S H _ ls (by omega) rfl (Nat.zero_le _) h_qo h_pr h_fa h_ia hP hfr hI (lv_sub hl [0, 1, 2, 3, 4, 5, 6] rfl) (fun x S1 H2 locs ls hsx hbx j_qo j_pr j_fa j_ia hP hfr hI hl => ?_)
    refine lv_aload_n hx hb d_Q_multiply_60 rfl (lv_at hl 3 rfl) ?_
    refine lv_iload hx hb d_Q_multiply_61 (lv_at hl 2 rfl) ?_
    refine lv_lload hx hb d_Q_multiply_63 (lv_at hl 1 rfl) ?_
    refine lv_ldc2 (v := lN 32003) hx hb hown (hg _ q_428) d_Q_multiply_65 ?_
    refine lv_lrem hx hb d_Q_multiply_68 (by decide) ?_
    refine lv_topl (fun v3 ev3 => ?_)
    obtain rfl : v3 = lN (x % 32003) := ev3.trans (pk_lRem (by have := hbx; omega) (by decide) (by decide))
    refine lv_l2i (v := nI (x % 32003)) hx hb d_Q_multiply_69 (lN_i _) ?_
    refine lv_topi (fun v4 ev4 => ?_)
    obtain rfl : v4 = nI ((mltF PT l9 s9 u) i).val := ev4.trans (congrArg nI (fv_mod hsx))
    refine mp_iast hx hb hK.va hI 0 j_ia rfl (vp_in_nI (show i < 16 by omega) (by omega)) d_Q_multiply_70 (fun S5 H6 locs e_7 hI => ?_)
    have j_ia_o := j_ia
    have e_7 : S5 = va_up S1 ia (some (TI, .inl ((g 0), 16, .inl (upd (fun j => nI ((mgF i (mltF PT l9 s9 u) v) j).val) (nI i).toNatClampNeg (nI ((mltF PT l9 s9 u) i).val))))) := e_7
    have j_ia_o := j_ia
    have j_qo : S5 qo = some (14, .inr (4, [q0, q1, .int (nI s9), .ref pr, q4, q5, q6, q7, q8, q9, q10, q11])) := by rw [e_7]; exact mp_keep j_qo j_ia (by omega)
    have j_pr : S5 pr = some (16, .inl ((g 1), 48, .inr (.inr (.inr (.inr (rfs (fun ii => pr + 1 + ii) 48)))))) := by rw [e_7]; exact mp_keep j_pr j_ia (by omega)
    have j_fa : S5 fa = some (TA, .inl ((g 0), 16, .inl (fun j => nI (u j).val))) := by rw [e_7]; exact mp_keep j_fa j_ia (by omega)
    have j_ia : S5 ia = some (TI, .inl ((g 0), 16, .inl (upd (fun j => nI ((mgF i (mltF PT l9 s9 u) v) j).val) (nI i).toNatClampNeg (nI ((mltF PT l9 s9 u) i).val)))) := by rw [e_7]; exact mp_us _ _ _
    have hP := rS_kept hP (S1 := S5) (fun b t9 e9 hb9 h1 h2 => by rw [e_7]; exact mp_un (mp_ne hb9 j_ia_o (by omega)))
    have hfr : ∀ b t e9, B b = some (t, e9) → (t ≠ TI) → S5 b = some (t, e9) := fun b t e9 h9 k0 => by rw [e_7]; exact mp_keep (hfr b t e9 h9 k0) j_ia_o (by omega)
    rw [nI_clamp (by omega), nIv_up] at j_ia
    have e9j_ia : (fun j => nI (va_up (mgF i (mltF PT l9 s9 u) v) i ((mltF PT l9 s9 u) i) j).val) = (fun j => nI ((mgF (i + 1) (mltF PT l9 s9 u) v) j).val) := by rw [mgF_up]
    rw [e9j_ia] at j_ia
    refine lv_iinc (v := nI (i + 1)) (lv' := [(4, .int (nI (i + 1))), (7, .int (nI s9)), (5, .long (lN x)), (3, .ref ia), (2, .ref fa), (1, .int (nI l9)), (0, .ref qo)]) hx hb d_Q_multiply_71 hl (k := 2) rfl (nI_1 _) (by decide) rfl (fun ls hl => ?_)
    refine lv_goto (tgt := 3) hx hb d_Q_multiply_74 (by decide) ?_
    exact ih (i + 1) S5 H6 locs ls (by omega) j_qo j_pr j_fa j_ia hP hfr hI (lv_sub hl [0, 3, 4, 5, 6] rfl) kx
set_option maxHeartbeats 4000000 in
set_option maxRecDepth 100000 in
/-- a letter times a row -/
theorem c_Q_multiply (l : Launch) (D : mp_G) (g : Nat → ClassId) (S : mp_M) (sz : Nat) (qo pr fa ia TA TI s9 l9 : Nat) (q0 q1 q4 q5 q6 q7 q8 q9 q10 q11 : Value) (PT : Nat → Nat → fF) (u v : Nat → fF) (h_qo : S qo = some (14, .inr (4, [q0, q1, .int (nI s9), .ref pr, q4, q5, q6, q7, q8, q9, q10, q11]))) (h_pr : S pr = some (16, .inl ((g 1), 48, .inr (.inr (.inr (.inr (rfs (fun ii => pr + 1 + ii) 48))))))) (h_fa : S fa = some (TA, .inl ((g 0), 16, .inl (fun j => nI (u j).val)))) (h_ia : S ia = some (TI, .inl ((g 0), 16, .inl (fun j => nI (v j).val)))) (hP : rS g 400 48 16 (fun ii => pr + 1 + ii) (fun ii j => nI (PT ii j).val) S) (hlab : (19 < TA ∧ TA < 400 ∨ 448 ≤ TA) ∧ (19 < TI ∧ TI < 400 ∨ 448 ≤ TI) ∧ TA ≠ TI) (hs : s9 ≤ 16) (hl9 : l9 < 3) : Met l y_Q_multiply w_Q_multiply ({ frames := 0, cells := 0, slots := 0, locals := 0 }) (va_Pc [.ref qo, .int (nI l9), .ref fa, .ref ia] (mp_B0 D classes (tys g) S sz)) (va_Qv (fun (S1 : mp_M) => S1 ia = some (TI, .inl ((g 0), 16, .inl (fun j => nI ((mgF s9 (mltF PT l9 s9 u) v) j).val))) ∧ (∀ b t e9, S b = some (t, e9) → (t ≠ TI) → S1 b = some (t, e9))) (mp_B1 D classes S sz) (mp_A S sz)) 0 0 (mp_A S sz) := by
  refine Met.ofW (cc := b_Q_multiply) (maxL := 8) (ret := none) (by decide) rfl ?_
  intro p e s m args below meth c s₁ B hml hv
  obtain ⟨rfl, hsz, hH, hK⟩ := hv
  have hx := B.exec
  have hb := B.bytes
  have hr := B.returns
  have hts := atoms_spec (ws := w_Q_multiply) B.pre
  have hg : ∀ w ∈ gw, w.before _ s = true := fun w h => hts w (List.mem_cons_of_mem _ h)
  have hown : s.vm.findClass R_Q = some m.cls := findClass_of_methodNamed B.named
  have hlocks := B.notSynchronized
  subst hsz
  have hI := mp_I.start hH
  have hl := lv_entry ([.ref qo, .int (nI l9), .ref fa, .ref ia]) (n := 8) (Nat.le_of_ble_eq_true rfl)
  rw [lg_entry_eq]
  generalize (lg_sl ([.ref qo, .int (nI l9), .ref fa, .ref ia]) ++ List.replicate (8 - (lg_sl ([.ref qo, .int (nI l9), .ref fa, .ref ia])).length) Slot.unset).toArray = ls at hl ⊢
  have hl : lv_has ls 8 [(0, .ref qo), (1, .int (nI l9)), (2, .ref fa), (3, .ref ia)] := hl
  have hfr : ∀ b t e9, S b = some (t, e9) → (t ≠ TI) → S b = some (t, e9) := fun _ _ _ h9 _ => h9
  refine lv_iconst (v := nI 0) hx hb d_Q_multiply_0 (by decide) ?_
  refine lv_istore (lv' := [(4, .int (nI 0)), (0, .ref qo), (1, .int (nI l9)), (2, .ref fa), (3, .ref ia)]) hx hb d_Q_multiply_1 hl (by decide) rfl (fun ls hl => ?_)
  rw [← mgF_0 (mltF PT l9 s9 u) v] at h_ia
  refine lp_Q_mulO (B := S) (qo := qo) (pr := pr) (fa := fa) (ia := ia) (TA := TA) (TI := TI) (s9 := s9) (l9 := l9) (q0 := q0) (q1 := q1) (q4 := q4) (q5 := q5) (q6 := q6) (q7 := q7) (q8 := q8) (q9 := q9) (q10 := q10) (q11 := q11) (PT := PT) (u := u) (v := v) hx hb hml hg hown hK (Nat.le_of_ble_eq_true rfl) (Nat.le_of_ble_eq_true rfl) (Nat.le_of_ble_eq_true rfl) (Nat.le_of_ble_eq_true rfl) hlab hs hl9 s9 0 S s.heap _ ls (by omega) h_qo h_pr h_fa h_ia hP hfr hI (lv_sub hl [0, 4, 3, 2, 1] rfl) (fun S1 H2 locs ls j_qo j_pr j_fa j_ia hP hfr hI hl => ?_)
  refine mp_vret hx hb hr hlocks hI (Nat.le_of_ble_eq_true rfl) (Nat.le_of_ble_eq_true rfl) ?_ d_Q_multiply_77
  exact ⟨j_ia, hfr⟩
set_option maxHeartbeats 4000000 in
set_option maxRecDepth 100000 in
/-- the power 1 -/
theorem c_Q_setOne (l : Launch) (D : mp_G) (g : Nat → ClassId) (S : mp_M) (sz : Nat) (qo ia TI s9 : Nat) (q0 q1 q3 q4 q5 q6 q7 q8 q9 q10 q11 : Value) (v : Nat → fF) (h_qo : S qo = some (14, .inr (4, [q0, q1, .int (nI s9), q3, q4, q5, q6, q7, q8, q9, q10, q11]))) (h_ia : S ia = some (TI, .inl ((g 0), 16, .inl (fun j => nI (v j).val)))) (hlab : TI ≠ 14) (hs : s9 ≤ 16) (hv : trn 16 v) : Met l y_Q_setOne w_Q_setOne ({ frames := 1, cells := 0, slots := 0, locals := 23 }) (va_Pc [.ref qo, .ref ia] (mp_B0 D classes (tys g) S sz)) (va_Qv (fun (S1 : mp_M) => S1 ia = some (TI, .inl ((g 0), 16, .inl (fun j => nI ((sO s9) j).val))) ∧ (∀ b t e9, S b = some (t, e9) → (t ≠ TI) → S1 b = some (t, e9))) (mp_B1 D classes S sz) (mp_A S sz)) 0 0 (mp_A S sz) := by
  refine Met.ofW (cc := b_Q_setOne) (maxL := 2) (ret := none) (by decide) rfl ?_
  intro p e s m args below meth c s₁ B hml hv
  obtain ⟨rfl, hsz, hH, hK⟩ := hv
  have hx := B.exec
  have hb := B.bytes
  have hr := B.returns
  have hts := atoms_spec (ws := w_Q_setOne) B.pre
  have hg : ∀ w ∈ gw, w.before _ s = true := fun w h => hts w (List.mem_cons_of_mem _ h)
  have hown : s.vm.findClass R_Q = some m.cls := findClass_of_methodNamed B.named
  have hlocks := B.notSynchronized
  subst hsz
  have hI := mp_I.start hH
  have hl := lv_entry ([.ref qo, .ref ia]) (n := 2) (Nat.le_of_ble_eq_true rfl)
  rw [lg_entry_eq]
  generalize (lg_sl ([.ref qo, .ref ia]) ++ List.replicate (2 - (lg_sl ([.ref qo, .ref ia])).length) Slot.unset).toArray = ls at hl ⊢
  have hl : lv_has ls 2 [(0, .ref qo), (1, .ref ia)] := hl
  have hfr : ∀ b t e9, S b = some (t, e9) → (t ≠ TI) → S b = some (t, e9) := fun _ _ _ h9 _ => h9
  refine lv_aload_n hx hb d_Q_setOne_0 rfl (lv_at hl 1 rfl) ?_
  refine lv_iconst (v := nI 0) hx hb d_Q_setOne_1 (by decide) ?_
  refine mp_callv hI (va_runS (As := [.ref ia, .int (nI 0)]) (rest := []) ⟨hx, hb, hml, hown, hg⟩ (c_A_fill l D g S _ ia TI 16 v h_ia (by omega)) ⟨(callB_of 2 hg (wd_goodG q_396) rfl rfl rfl (hg _ q_14) (hg _ q_394) (by decide +kernel) ⟨Nat.le_of_ble_eq_true rfl, Nat.le_of_ble_eq_true rfl⟩), hg _ q_395⟩ (mp_pre hI hK [.ref ia, .int (nI 0)]) rfl rfl hl.1 rfl (lv_room (Nat.le_of_ble_eq_true rfl)) d_Q_setOne_2 ⟨Nat.le_of_ble_eq_true rfl, Nat.le_of_ble_eq_true rfl⟩) (fun S1 H2 locs p_3 hI => ?_)
  obtain ⟨q_ia, fq⟩ := p_3
  rw [mgF_t (zR_t 16) hv] at q_ia
  have h_qo : S1 qo = some (14, .inr (4, [q0, q1, .int (nI s9), q3, q4, q5, q6, q7, q8, q9, q10, q11])) := fq qo _ _ h_qo (by omega)
  have hfr : ∀ b t e9, S b = some (t, e9) → (t ≠ TI) → S1 b = some (t, e9) := fun b t e9 h9 k0 => by have h8 := hfr b t e9 h9 k0; exact fq b _ _ h8 (by omega)
  have h_ia := q_ia
  refine lv_aload_n hx hb d_Q_setOne_5 rfl (lv_at hl 0 rfl) ?_
  refine mp_get (C := R_Q) (T := F_Q) (N := 12) (v := .int (nI s9)) hx hb hg i_Q hown hK.va hI h_qo rfl 2 (by decide) (hg _ q_221) (fun _ h9 => h9) rfl d_Q_setOne_6 ?_
  refine lv_if_le (tgt := 16) hx hb d_Q_setOne_9 (by decide) (fun c1 => ?_) (fun c1 => ?_)
  · rw [zI_le (by omega)] at c1
    rw [sO_n (s := s9) (by omega)] at h_ia
    refine mp_vret hx hb hr hlocks hI (Nat.le_of_ble_eq_true rfl) (Nat.le_of_ble_eq_true rfl) ?_ d_Q_setOne_16
    exact ⟨h_ia, hfr⟩
  · rw [zI_le (by omega)] at c1
    refine lv_aload_n hx hb d_Q_setOne_12 rfl (lv_at hl 1 rfl) ?_
    refine lv_iconst (v := nI 0) hx hb d_Q_setOne_13 (by decide) ?_
    refine lv_iconst (v := nI 1) hx hb d_Q_setOne_14 (by decide) ?_
    refine mp_iast hx hb hK.va hI 0 h_ia rfl (vp_in_nI (show 0 < 16 by omega) (by omega)) d_Q_setOne_15 (fun S5 H6 locs e_7 hI => ?_)
    have h_ia_o := h_ia
    have e_7 : S5 = va_up S1 ia (some (TI, .inl ((g 0), 16, .inl (upd (fun j => nI (zR j).val) (nI 0).toNatClampNeg (nI 1))))) := e_7
    have h_qo : S5 qo = some (14, .inr (4, [q0, q1, .int (nI s9), q3, q4, q5, q6, q7, q8, q9, q10, q11])) := by rw [e_7]; exact mp_keep h_qo h_ia (by omega)
    have h_ia : S5 ia = some (TI, .inl ((g 0), 16, .inl (upd (fun j => nI (zR j).val) (nI 0).toNatClampNeg (nI 1)))) := by rw [e_7]; exact mp_us _ _ _
    have hfr : ∀ b t e9, S b = some (t, e9) → (t ≠ TI) → S5 b = some (t, e9) := fun b t e9 h9 k0 => by rw [e_7]; exact mp_keep (hfr b t e9 h9 k0) h_ia_o (by omega)
    have h_ia := h_ia
    rw [nI_clamp (by omega), nIv_up1] at h_ia
    have e9h_ia : (fun j => nI (va_up zR 0 1 j).val) = (fun j => nI ((sO s9) j).val) := by rw [← sO_y (s := s9) (by omega)]
    rw [e9h_ia] at h_ia
    refine mp_vret hx hb hr hlocks hI (Nat.le_of_ble_eq_true rfl) (Nat.le_of_ble_eq_true rfl) ?_ d_Q_setOne_16
    exact ⟨h_ia, hfr⟩
set_option maxHeartbeats 4000000 in
set_option maxRecDepth 100000 in
theorem lp_Q_note {p : Program} {l : Launch} {e : Env} {R : Room} {s : State} {m : MethodId} {args : Array Value} {below : List Frame} {meth : Method} {c : Code} {Q : State → Prop} {D : mp_G} {g : Nat → ClassId} {A : Nat → Prop} {cells slots : Nat} (hx : p.tables.exec = Jvm.exec) (hb : c.code = b_Q_noteLower) (hml : c.maxLocals = 5) (hg : ∀ w ∈ gw, w.before args s = true) (hown : s.vm.findClass R_Q = some m.cls) (hK : mp_K D classes (tys g) s) (hRf : 0 ≤ R.frames) (hRl : 0 ≤ R.locals) (hRc : cells ≤ R.cells) (hRs : slots ≤ R.slots) {B : mp_M} {qo ky lw ll s9 key kv lt : Nat} {q0 q3 q6 q7 q8 q9 q10 q11 : Value} {kQ lwf llf : Nat → Nat} (hs : s9 ≤ 16) (hk9 : ∀ j, j < s9 → kQ j < 2 ^ 31) (hky : key < 2 ^ 31) : ∀ (k : Nat) (i : Nat) (S : mp_M) (H : Heap) (locs : List Loc) (ls : Array Slot), i + k = s9 → S qo = some (14, .inr (4, [q0, .ref ky, .int (nI s9), q3, .ref lw, .ref ll, q6, q7, q8, q9, q10, q11])) → S ky = some (15, .inl ((g 0), 16, .inl (fun j => nI (kQ j)))) → S lw = some (17, .inl ((g 0), 16, .inl (fun j => nI ((lwN s9 kQ key kv i lwf) j)))) → S ll = some (18, .inl ((g 0), 16, .inl (fun j => nI ((lwN s9 kQ key lt i llf) j)))) → (∀ b t e9, B b = some (t, e9) → (t ≠ 17) → (t ≠ 18) → S b = some (t, e9)) → mp_I D classes A s.heap S H locs → lv_has ls 5 [(4, .int (nI i)), (3, .int (nI lt)), (2, .int (nI kv)), (1, .int (nI key)), (0, .ref qo)] → (∀ (S : mp_M) (H : Heap) (locs : List Loc) (ls : Array Slot), S qo = some (14, .inr (4, [q0, .ref ky, .int (nI s9), q3, .ref lw, .ref ll, q6, q7, q8, q9, q10, q11])) → S ky = some (15, .inl ((g 0), 16, .inl (fun j => nI (kQ j)))) → S lw = some (17, .inl ((g 0), 16, .inl (fun j => nI ((lwN s9 kQ key kv s9 lwf) j)))) → S ll = some (18, .inl ((g 0), 16, .inl (fun j => nI ((lwN s9 kQ key lt s9 llf) j)))) → (∀ b t e9, B b = some (t, e9) → (t ≠ 17) → (t ≠ 18) → S b = some (t, e9)) → mp_I D classes A s.heap S H locs → lv_has ls 5 [(4, .int (nI s9)), (3, .int (nI lt)), (2, .int (nI kv)), (1, .int (nI key)), (0, .ref qo)] → W p l e R s m args below meth c H locs cells slots Q (F0 m 45 ls [])) → W p l e R s m args below meth c H locs cells slots Q (F0 m 3 ls []) := by
  intro k
  induction k with
  | zero =>
    intro i S H locs ls hi h_qo h_ky h_lw h_ll hfr hI hl kx
    refine lv_iload hx hb d_Q_noteLower_3 (lv_at hl 0 rfl) ?_
    refine lv_aload_n hx hb d_Q_noteLower_5 rfl (lv_at hl 4 rfl) ?_
    refine mp_get (C := R_Q) (T := F_Q) (N := 12) (v := .int (nI s9)) hx hb hg i_Q hown hK.va hI h_qo rfl 2 (by decide) (hg _ q_221) (fun _ h9 => h9) rfl d_Q_noteLower_6 ?_
    refine lv_icmp_ge (tgt := 45) hx hb d_Q_noteLower_9 (by decide) (fun _ => ?_) (fun h9 => absurd ((nI_leI (by omega) (by omega)).mpr (by omega)) h9)
    obtain rfl : i = s9 := by omega
    exact kx S H locs ls h_qo h_ky h_lw h_ll hfr hI (lv_sub hl [0, 1, 2, 3, 4] rfl)
  | succ k ih =>
    intro i S H locs ls hi h_qo h_ky h_lw h_ll hfr hI hl kx
    have hki := hk9 i (by omega)
    refine lv_iload hx hb d_Q_noteLower_3 (lv_at hl 0 rfl) ?_
    refine lv_aload_n hx hb d_Q_noteLower_5 rfl (lv_at hl 4 rfl) ?_
    refine mp_get (C := R_Q) (T := F_Q) (N := 12) (v := .int (nI s9)) hx hb hg i_Q hown hK.va hI h_qo rfl 2 (by decide) (hg _ q_221) (fun _ h9 => h9) rfl d_Q_noteLower_6 ?_
    refine lv_icmp_ge (tgt := 45) hx hb d_Q_noteLower_9 (by decide) (fun h9 => absurd h9 (by rw [nI_leI (by omega) (by omega)]; omega)) (fun _ => ?_)
    refine lv_aload_n hx hb d_Q_noteLower_12 rfl (lv_at hl 4 rfl) ?_
    refine mp_get (C := R_Q) (T := F_Q) (N := 12) (v := .ref ky) hx hb hg i_Q hown hK.va hI h_qo rfl 1 (by decide) (hg _ q_218) (fun _ h9 => h9) rfl d_Q_noteLower_13 ?_
    refine lv_iload hx hb d_Q_noteLower_16 (lv_at hl 0 rfl) ?_
    refine mp_iald hx hb hK.va hI 0 h_ky rfl (vp_in_nI (show i < 16 by omega) (by omega)) d_Q_noteLower_18 ?_
    refine lv_topi (fun v1 ev1 => ?_)
    obtain rfl : v1 = nI (kQ i) := ev1.trans (by rw [nI_clamp (by omega)])
    refine lv_iload_n hx hb d_Q_noteLower_19 rfl (lv_at hl 3 rfl) ?_
    refine lv_icmp_ne (tgt := 39) hx hb d_Q_noteLower_20 (by decide) (fun c1 => ?_) (fun c1 => ?_)
    · rw [nI_eq (by omega) (by omega)] at c1
      have e9h_lw : (fun j => nI ((lwN s9 kQ key kv i lwf) j)) = (fun j => nI ((lwN s9 kQ key kv (i + 1) lwf) j)) := by rw [lwN_n c1]
      rw [e9h_lw] at h_lw
      have e9h_ll : (fun j => nI ((lwN s9 kQ key lt i llf) j)) = (fun j => nI ((lwN s9 kQ key lt (i + 1) llf) j)) := by rw [lwN_n c1]
      rw [e9h_ll] at h_ll
      refine lv_iinc (v := nI (i + 1)) (lv' := [(4, .int (nI (i + 1))), (3, .int (nI lt)), (2, .int (nI kv)), (1, .int (nI key)), (0, .ref qo)]) hx hb d_Q_noteLower_39 hl (k := 0) rfl (nI_1 _) (by decide) rfl (fun ls hl => ?_)
      refine lv_goto (tgt := 3) hx hb d_Q_noteLower_42 (by decide) ?_
      exact ih (i + 1) S H locs ls (by omega) h_qo h_ky h_lw h_ll hfr hI (lv_sub hl [0, 1, 2, 3, 4] rfl) kx
    · rw [nI_eq (by omega) (by omega)] at c1
      refine lv_aload_n hx hb d_Q_noteLower_23 rfl (lv_at hl 4 rfl) ?_
      refine mp_get (C := R_Q) (T := F_Q) (N := 12) (v := .ref lw) hx hb hg i_Q hown hK.va hI h_qo rfl 4 (by decide) (hg _ q_225) (fun _ h9 => h9) rfl d_Q_noteLower_24 ?_
      refine lv_iload hx hb d_Q_noteLower_27 (lv_at hl 0 rfl) ?_
      refine lv_iload_n hx hb d_Q_noteLower_29 rfl (lv_at hl 2 rfl) ?_
      refine mp_iast hx hb hK.va hI 0 h_lw rfl (vp_in_nI (show i < 16 by omega) (by omega)) d_Q_noteLower_30 (fun S2 H3 locs e_4 hI => ?_)
      have h_lw_o := h_lw
      have e_4 : S2 = va_up S lw (some (17, .inl ((g 0), 16, .inl (upd (fun j => nI ((lwN s9 kQ key kv i lwf) j)) (nI i).toNatClampNeg (nI kv))))) := e_4
      have h_qo : S2 qo = some (14, .inr (4, [q0, .ref ky, .int (nI s9), q3, .ref lw, .ref ll, q6, q7, q8, q9, q10, q11])) := by rw [e_4]; exact mp_keep h_qo h_lw (by decide)
      have h_ky : S2 ky = some (15, .inl ((g 0), 16, .inl (fun j => nI (kQ j)))) := by rw [e_4]; exact mp_keep h_ky h_lw (by decide)
      have h_ll : S2 ll = some (18, .inl ((g 0), 16, .inl (fun j => nI ((lwN s9 kQ key lt i llf) j)))) := by rw [e_4]; exact mp_keep h_ll h_lw (by decide)
      have h_lw : S2 lw = some (17, .inl ((g 0), 16, .inl (upd (fun j => nI ((lwN s9 kQ key kv i lwf) j)) (nI i).toNatClampNeg (nI kv)))) := by rw [e_4]; exact mp_us _ _ _
      have hfr : ∀ b t e9, B b = some (t, e9) → (t ≠ 17) → (t ≠ 18) → S2 b = some (t, e9) := fun b t e9 h9 k0 k1 => by rw [e_4]; exact mp_keep (hfr b t e9 h9 k0 k1) h_lw_o (by omega)
      rw [nI_clamp (by omega), nIf_up] at h_lw
      have e9h_lw : (fun j => nI (va_up (lwN s9 kQ key kv i lwf) i kv j)) = (fun j => nI ((lwN s9 kQ key kv (i + 1) lwf) j)) := by rw [lwN_y c1]
      rw [e9h_lw] at h_lw
      refine lv_aload_n hx hb d_Q_noteLower_31 rfl (lv_at hl 4 rfl) ?_
      refine mp_get (C := R_Q) (T := F_Q) (N := 12) (v := .ref ll) hx hb hg i_Q hown hK.va hI h_qo rfl 5 (by decide) (hg _ q_226) (fun _ h9 => h9) rfl d_Q_noteLower_32 ?_
      refine lv_iload hx hb d_Q_noteLower_35 (lv_at hl 0 rfl) ?_
      refine lv_iload_n hx hb d_Q_noteLower_37 rfl (lv_at hl 1 rfl) ?_
      refine mp_iast hx hb hK.va hI 0 h_ll rfl (vp_in_nI (show i < 16 by omega) (by omega)) d_Q_noteLower_38 (fun S5 H6 locs e_7 hI => ?_)
      have h_ll_o := h_ll
      have e_7 : S5 = va_up S2 ll (some (18, .inl ((g 0), 16, .inl (upd (fun j => nI ((lwN s9 kQ key lt i llf) j)) (nI i).toNatClampNeg (nI lt))))) := e_7
      have h_qo : S5 qo = some (14, .inr (4, [q0, .ref ky, .int (nI s9), q3, .ref lw, .ref ll, q6, q7, q8, q9, q10, q11])) := by rw [e_7]; exact mp_keep h_qo h_ll (by decide)
      have h_ky : S5 ky = some (15, .inl ((g 0), 16, .inl (fun j => nI (kQ j)))) := by rw [e_7]; exact mp_keep h_ky h_ll (by decide)
      have h_lw : S5 lw = some (17, .inl ((g 0), 16, .inl (fun j => nI ((lwN s9 kQ key kv (i + 1) lwf) j)))) := by rw [e_7]; exact mp_keep h_lw h_ll (by decide)
      have h_ll : S5 ll = some (18, .inl ((g 0), 16, .inl (upd (fun j => nI ((lwN s9 kQ key lt i llf) j)) (nI i).toNatClampNeg (nI lt)))) := by rw [e_7]; exact mp_us _ _ _
      have hfr : ∀ b t e9, B b = some (t, e9) → (t ≠ 17) → (t ≠ 18) → S5 b = some (t, e9) := fun b t e9 h9 k0 k1 => by rw [e_7]; exact mp_keep (hfr b t e9 h9 k0 k1) h_ll_o (by omega)
      rw [nI_clamp (by omega), nIf_up] at h_ll
      have e9h_ll : (fun j => nI (va_up (lwN s9 kQ key lt i llf) i lt j)) = (fun j => nI ((lwN s9 kQ key lt (i + 1) llf) j)) := by rw [lwN_y c1]
      rw [e9h_ll] at h_ll
      refine lv_iinc (v := nI (i + 1)) (lv' := [(4, .int (nI (i + 1))), (3, .int (nI lt)), (2, .int (nI kv)), (1, .int (nI key)), (0, .ref qo)]) hx hb d_Q_noteLower_39 hl (k := 0) rfl (nI_1 _) (by decide) rfl (fun ls hl => ?_)
      refine lv_goto (tgt := 3) hx hb d_Q_noteLower_42 (by decide) ?_
      exact ih (i + 1) S5 H6 locs ls (by omega) h_qo h_ky h_lw h_ll hfr hI (lv_sub hl [0, 1, 2, 3, 4] rfl) kx
set_option maxHeartbeats 4000000 in
set_option maxRecDepth 100000 in
/-- which power is below -/
theorem c_Q_noteLower (l : Launch) (D : mp_G) (g : Nat → ClassId) (S : mp_M) (sz : Nat) (qo ky lw ll s9 key kv lt : Nat) (q0 q3 q6 q7 q8 q9 q10 q11 : Value) (kQ lwf llf : Nat → Nat) (h_qo : S qo = some (14, .inr (4, [q0, .ref ky, .int (nI s9), q3, .ref lw, .ref ll, q6, q7, q8, q9, q10, q11]))) (h_ky : S ky = some (15, .inl ((g 0), 16, .inl (fun j => nI (kQ j))))) (h_lw : S lw = some (17, .inl ((g 0), 16, .inl (fun j => nI (lwf j))))) (h_ll : S ll = some (18, .inl ((g 0), 16, .inl (fun j => nI (llf j))))) (hs : s9 ≤ 16) (hk9 : ∀ j, j < s9 → kQ j < 2 ^ 31) (hky : key < 2 ^ 31) : Met l y_Q_noteLower w_Q_noteLower ({ frames := 0, cells := 0, slots := 0, locals := 0 }) (va_Pc [.ref qo, .int (nI key), .int (nI kv), .int (nI lt)] (mp_B0 D classes (tys g) S sz)) (va_Qv (fun (S1 : mp_M) => S1 lw = some (17, .inl ((g 0), 16, .inl (fun j => nI ((lwN s9 kQ key kv s9 lwf) j)))) ∧ S1 ll = some (18, .inl ((g 0), 16, .inl (fun j => nI ((lwN s9 kQ key lt s9 llf) j)))) ∧ (∀ b t e9, S b = some (t, e9) → (t ≠ 17) → (t ≠ 18) → S1 b = some (t, e9))) (mp_B1 D classes S sz) (mp_A S sz)) 0 0 (mp_A S sz) := by
  refine Met.ofW (cc := b_Q_noteLower) (maxL := 5) (ret := none) (by decide) rfl ?_
  intro p e s m args below meth c s₁ B hml hv
  obtain ⟨rfl, hsz, hH, hK⟩ := hv
  have hx := B.exec
  have hb := B.bytes
  have hr := B.returns
  have hts := atoms_spec (ws := w_Q_noteLower) B.pre
  have hg : ∀ w ∈ gw, w.before _ s = true := fun w h => hts w (List.mem_cons_of_mem _ h)
  have hown : s.vm.findClass R_Q = some m.cls := findClass_of_methodNamed B.named
  have hlocks := B.notSynchronized
  subst hsz
  have hI := mp_I.start hH
  have hl := lv_entry ([.ref qo, .int (nI key), .int (nI kv), .int (nI lt)]) (n := 5) (Nat.le_of_ble_eq_true rfl)
  rw [lg_entry_eq]
  generalize (lg_sl ([.ref qo, .int (nI key), .int (nI kv), .int (nI lt)]) ++ List.replicate (5 - (lg_sl ([.ref qo, .int (nI key), .int (nI kv), .int (nI lt)])).length) Slot.unset).toArray = ls at hl ⊢
  have hl : lv_has ls 5 [(0, .ref qo), (1, .int (nI key)), (2, .int (nI kv)), (3, .int (nI lt))] := hl
  have hfr : ∀ b t e9, S b = some (t, e9) → (t ≠ 17) → (t ≠ 18) → S b = some (t, e9) := fun _ _ _ h9 _ _ => h9
  refine lv_iconst (v := nI 0) hx hb d_Q_noteLower_0 (by decide) ?_
  refine lv_istore (lv' := [(4, .int (nI 0)), (0, .ref qo), (1, .int (nI key)), (2, .int (nI kv)), (3, .int (nI lt))]) hx hb d_Q_noteLower_1 hl (by decide) rfl (fun ls hl => ?_)
  rw [← lwN_0 s9 kQ key kv lwf] at h_lw
  rw [← lwN_0 s9 kQ key lt llf] at h_ll
  refine lp_Q_note (B := S) (qo := qo) (ky := ky) (lw := lw) (ll := ll) (s9 := s9) (key := key) (kv := kv) (lt := lt) (q0 := q0) (q3 := q3) (q6 := q6) (q7 := q7) (q8 := q8) (q9 := q9) (q10 := q10) (q11 := q11) (kQ := kQ) (lwf := lwf) (llf := llf) hx hb hml hg hown hK (Nat.le_of_ble_eq_true rfl) (Nat.le_of_ble_eq_true rfl) (Nat.le_of_ble_eq_true rfl) (Nat.le_of_ble_eq_true rfl) hs hk9 hky s9 0 S s.heap _ ls (by omega) h_qo h_ky h_lw h_ll hfr hI (lv_sub hl [0, 4, 3, 2, 1] rfl) (fun S1 H2 locs ls j_qo j_ky j_lw j_ll hfr hI hl => ?_)
  refine mp_vret hx hb hr hlocks hI (Nat.le_of_ble_eq_true rfl) (Nat.le_of_ble_eq_true rfl) ?_ d_Q_noteLower_45
  exact ⟨j_lw, j_ll, hfr⟩
