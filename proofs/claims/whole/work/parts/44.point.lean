def exN (u : m3) (i : Nat) : Nat := if i = 0 then u.1 else if i = 1 then u.2.1 else u.2.2
def pw3 (X : Nat → fF) (u : m3) : Nat → fF
  | 0 => 1
  | i + 1 => pw3 X u i * X i ^ exN u i
theorem pw3_ev (X : Nat → fF) (u : m3) : pw3 X u 3 = ev (X 0) (X 1) (X 2) u := by
  show (1 * X 0 ^ u.1) * X 1 ^ u.2.1 * X 2 ^ u.2.2 = _
  unfold ev; grind
theorem exN_9 {u : m3} (h : e9 u) (i : Nat) : exN u i ≤ 9 := by unfold exN; unfold e9 at h; split; omega; split <;> omega
/-- the rows of a point hold the powers of its numbers -/
def ptS (X : Nat → fF) (W9 : Nat → Nat → fF) : Prop := ∀ i, i < 3 → ∀ e, e ≤ 9 → W9 i e = X i ^ e
def pwR (x : fF) : Nat → fF := fun e => x ^ e
theorem ptS_up {l9 : Nat} {X : Nat → fF} {W9 : Nat → Nat → fF} (h : ∀ i, i < 3 → i ≠ l9 → ∀ e, e ≤ 9 → W9 i e = X i ^ e) {x : fF} : ptS (va_up X l9 x) (va_up W9 l9 (mgF 10 (pwR x) (W9 l9))) := by
  intro i hi e he
  by_cases q : i = l9
  · rw [q, mp_us, mp_us, mgF_lt (by omega)]; rfl
  · rw [mp_un q, mp_un q]; exact h i hi q e he

theorem d_K_vanishesAt_0 : decode b_K_vanishesAt 0 = .ok (.iconst 0, 1) := by decide +kernel
theorem d_K_vanishesAt_1 : decode b_K_vanishesAt 1 = .ok (.istore_n 2, 1) := by decide +kernel
theorem d_K_vanishesAt_2 : decode b_K_vanishesAt 2 = .ok (.iload_n 2, 1) := by decide +kernel
theorem d_K_vanishesAt_3 : decode b_K_vanishesAt 3 = .ok (.aload_n 0, 1) := by decide +kernel
theorem d_K_vanishesAt_4 : decode b_K_vanishesAt 4 = .ok (.getfield 26, 3) := by decide +kernel
theorem d_K_vanishesAt_7 : decode b_K_vanishesAt 7 = .ok (.if_icmp .ge 24, 3) := by decide +kernel
theorem d_K_vanishesAt_10 : decode b_K_vanishesAt 10 = .ok (.aload_n 0, 1) := by decide +kernel
theorem d_K_vanishesAt_11 : decode b_K_vanishesAt 11 = .ok (.getfield 11, 3) := by decide +kernel
theorem d_K_vanishesAt_14 : decode b_K_vanishesAt 14 = .ok (.iload_n 2, 1) := by decide +kernel
theorem d_K_vanishesAt_15 : decode b_K_vanishesAt 15 = .ok (.aaload, 1) := by decide +kernel
theorem d_K_vanishesAt_16 : decode b_K_vanishesAt 16 = .ok (.aload_n 1, 1) := by decide +kernel
theorem d_K_vanishesAt_17 : decode b_K_vanishesAt 17 = .ok (.invokevirtual 52, 3) := by decide +kernel
theorem d_K_vanishesAt_20 : decode b_K_vanishesAt 20 = .ok (.ifCond .eq 5, 3) := by decide +kernel
theorem d_K_vanishesAt_23 : decode b_K_vanishesAt 23 = .ok (.iconst 0, 1) := by decide +kernel
theorem d_K_vanishesAt_24 : decode b_K_vanishesAt 24 = .ok (.ireturn, 1) := by decide +kernel
theorem d_K_vanishesAt_25 : decode b_K_vanishesAt 25 = .ok (.iinc 2 1, 3) := by decide +kernel
theorem d_K_vanishesAt_28 : decode b_K_vanishesAt 28 = .ok (.goto (-26), 3) := by decide +kernel
theorem d_K_vanishesAt_31 : decode b_K_vanishesAt 31 = .ok (.iconst 1, 1) := by decide +kernel
theorem d_K_vanishesAt_32 : decode b_K_vanishesAt 32 = .ok (.ireturn, 1) := by decide +kernel
theorem d_P_move_0 : decode b_P_move 0 = .ok (.iload_n 1, 1) := by decide +kernel
theorem d_P_move_1 : decode b_P_move 1 = .ok (.ifCond .lt 8, 3) := by decide +kernel
theorem d_P_move_4 : decode b_P_move 4 = .ok (.iload_n 1, 1) := by decide +kernel
theorem d_P_move_5 : decode b_P_move 5 = .ok (.iconst 3, 1) := by decide +kernel
theorem d_P_move_6 : decode b_P_move 6 = .ok (.if_icmp .lt 4, 3) := by decide +kernel
theorem d_P_move_10 : decode b_P_move 10 = .ok (.aload_n 0, 1) := by decide +kernel
theorem d_P_move_11 : decode b_P_move 11 = .ok (.getfield 9, 3) := by decide +kernel
theorem d_P_move_14 : decode b_P_move 14 = .ok (.iload_n 1, 1) := by decide +kernel
theorem d_P_move_15 : decode b_P_move 15 = .ok (.iload_n 2, 1) := by decide +kernel
theorem d_P_move_16 : decode b_P_move 16 = .ok (.iastore, 1) := by decide +kernel
theorem d_P_move_17 : decode b_P_move 17 = .ok (.aload_n 0, 1) := by decide +kernel
theorem d_P_move_18 : decode b_P_move 18 = .ok (.getfield 17, 3) := by decide +kernel
theorem d_P_move_21 : decode b_P_move 21 = .ok (.iload_n 1, 1) := by decide +kernel
theorem d_P_move_22 : decode b_P_move 22 = .ok (.aaload, 1) := by decide +kernel
theorem d_P_move_23 : decode b_P_move 23 = .ok (.iconst 0, 1) := by decide +kernel
theorem d_P_move_24 : decode b_P_move 24 = .ok (.iconst 1, 1) := by decide +kernel
theorem d_P_move_25 : decode b_P_move 25 = .ok (.iastore, 1) := by decide +kernel
theorem d_P_move_26 : decode b_P_move 26 = .ok (.iconst 1, 1) := by decide +kernel
theorem d_P_move_27 : decode b_P_move 27 = .ok (.istore_n 3, 1) := by decide +kernel
theorem d_P_move_28 : decode b_P_move 28 = .ok (.iload_n 3, 1) := by decide +kernel
theorem d_P_move_29 : decode b_P_move 29 = .ok (.bipush 9, 2) := by decide +kernel
theorem d_P_move_31 : decode b_P_move 31 = .ok (.if_icmp .gt 33, 3) := by decide +kernel
theorem d_P_move_34 : decode b_P_move 34 = .ok (.aload_n 0, 1) := by decide +kernel
theorem d_P_move_35 : decode b_P_move 35 = .ok (.getfield 17, 3) := by decide +kernel
theorem d_P_move_38 : decode b_P_move 38 = .ok (.iload_n 1, 1) := by decide +kernel
theorem d_P_move_39 : decode b_P_move 39 = .ok (.aaload, 1) := by decide +kernel
theorem d_P_move_40 : decode b_P_move 40 = .ok (.iload_n 3, 1) := by decide +kernel
theorem d_P_move_41 : decode b_P_move 41 = .ok (.aload_n 0, 1) := by decide +kernel
theorem d_P_move_42 : decode b_P_move 42 = .ok (.getfield 17, 3) := by decide +kernel
theorem d_P_move_45 : decode b_P_move 45 = .ok (.iload_n 1, 1) := by decide +kernel
theorem d_P_move_46 : decode b_P_move 46 = .ok (.aaload, 1) := by decide +kernel
theorem d_P_move_47 : decode b_P_move 47 = .ok (.iload_n 3, 1) := by decide +kernel
theorem d_P_move_48 : decode b_P_move 48 = .ok (.iconst 1, 1) := by decide +kernel
theorem d_P_move_49 : decode b_P_move 49 = .ok (.isub, 1) := by decide +kernel
theorem d_P_move_50 : decode b_P_move 50 = .ok (.iaload, 1) := by decide +kernel
theorem d_P_move_51 : decode b_P_move 51 = .ok (.iload_n 2, 1) := by decide +kernel
theorem d_P_move_52 : decode b_P_move 52 = .ok (.imul, 1) := by decide +kernel
theorem d_P_move_53 : decode b_P_move 53 = .ok (.sipush 32003, 3) := by decide +kernel
theorem d_P_move_56 : decode b_P_move 56 = .ok (.irem, 1) := by decide +kernel
theorem d_P_move_57 : decode b_P_move 57 = .ok (.iastore, 1) := by decide +kernel
theorem d_P_move_58 : decode b_P_move 58 = .ok (.iinc 3 1, 3) := by decide +kernel
theorem d_P_move_61 : decode b_P_move 61 = .ok (.goto (-33), 3) := by decide +kernel
theorem d_P_move_64 : decode b_P_move 64 = .ok (.return_, 1) := by decide +kernel
theorem d_P_number_0 : decode b_P_number 0 = .ok (.iload_n 1, 1) := by decide +kernel
theorem d_P_number_1 : decode b_P_number 1 = .ok (.ifCond .lt 8, 3) := by decide +kernel
theorem d_P_number_4 : decode b_P_number 4 = .ok (.iload_n 1, 1) := by decide +kernel
theorem d_P_number_5 : decode b_P_number 5 = .ok (.iconst 3, 1) := by decide +kernel
theorem d_P_number_6 : decode b_P_number 6 = .ok (.if_icmp .lt 7, 3) := by decide +kernel
theorem d_P_number_13 : decode b_P_number 13 = .ok (.aload_n 0, 1) := by decide +kernel
theorem d_P_number_14 : decode b_P_number 14 = .ok (.getfield 9, 3) := by decide +kernel
theorem d_P_number_17 : decode b_P_number 17 = .ok (.iload_n 1, 1) := by decide +kernel
theorem d_P_number_18 : decode b_P_number 18 = .ok (.iaload, 1) := by decide +kernel
theorem d_P_number_19 : decode b_P_number 19 = .ok (.ireturn, 1) := by decide +kernel
theorem d_P_powerValue_0 : decode b_P_powerValue 0 = .ok (.iconst 1, 1) := by decide +kernel
theorem d_P_powerValue_1 : decode b_P_powerValue 1 = .ok (.istore_n 2, 1) := by decide +kernel
theorem d_P_powerValue_2 : decode b_P_powerValue 2 = .ok (.iconst 0, 1) := by decide +kernel
theorem d_P_powerValue_3 : decode b_P_powerValue 3 = .ok (.istore_n 3, 1) := by decide +kernel
theorem d_P_powerValue_4 : decode b_P_powerValue 4 = .ok (.iload_n 3, 1) := by decide +kernel
theorem d_P_powerValue_5 : decode b_P_powerValue 5 = .ok (.iconst 3, 1) := by decide +kernel
theorem d_P_powerValue_6 : decode b_P_powerValue 6 = .ok (.if_icmp .ge 44, 3) := by decide +kernel
theorem d_P_powerValue_9 : decode b_P_powerValue 9 = .ok (.iload_n 1, 1) := by decide +kernel
theorem d_P_powerValue_10 : decode b_P_powerValue 10 = .ok (.iload_n 3, 1) := by decide +kernel
theorem d_P_powerValue_11 : decode b_P_powerValue 11 = .ok (.invokestatic 20, 3) := by decide +kernel
theorem d_P_powerValue_14 : decode b_P_powerValue 14 = .ok (.istore 4, 2) := by decide +kernel
theorem d_P_powerValue_16 : decode b_P_powerValue 16 = .ok (.iload 4, 2) := by decide +kernel
theorem d_P_powerValue_18 : decode b_P_powerValue 18 = .ok (.ifCond .le 26, 3) := by decide +kernel
theorem d_P_powerValue_21 : decode b_P_powerValue 21 = .ok (.iload 4, 2) := by decide +kernel
theorem d_P_powerValue_23 : decode b_P_powerValue 23 = .ok (.bipush 9, 2) := by decide +kernel
theorem d_P_powerValue_25 : decode b_P_powerValue 25 = .ok (.if_icmp .gt 19, 3) := by decide +kernel
theorem d_P_powerValue_28 : decode b_P_powerValue 28 = .ok (.iload_n 2, 1) := by decide +kernel
theorem d_P_powerValue_29 : decode b_P_powerValue 29 = .ok (.aload_n 0, 1) := by decide +kernel
theorem d_P_powerValue_30 : decode b_P_powerValue 30 = .ok (.getfield 17, 3) := by decide +kernel
theorem d_P_powerValue_33 : decode b_P_powerValue 33 = .ok (.iload_n 3, 1) := by decide +kernel
theorem d_P_powerValue_34 : decode b_P_powerValue 34 = .ok (.aaload, 1) := by decide +kernel
theorem d_P_powerValue_35 : decode b_P_powerValue 35 = .ok (.iload 4, 2) := by decide +kernel
theorem d_P_powerValue_37 : decode b_P_powerValue 37 = .ok (.iaload, 1) := by decide +kernel
theorem d_P_powerValue_38 : decode b_P_powerValue 38 = .ok (.imul, 1) := by decide +kernel
theorem d_P_powerValue_39 : decode b_P_powerValue 39 = .ok (.sipush 32003, 3) := by decide +kernel
theorem d_P_powerValue_42 : decode b_P_powerValue 42 = .ok (.irem, 1) := by decide +kernel
theorem d_P_powerValue_43 : decode b_P_powerValue 43 = .ok (.istore_n 2, 1) := by decide +kernel
theorem d_P_powerValue_44 : decode b_P_powerValue 44 = .ok (.iinc 3 1, 3) := by decide +kernel
theorem d_P_powerValue_47 : decode b_P_powerValue 47 = .ok (.goto (-43), 3) := by decide +kernel
theorem d_P_powerValue_50 : decode b_P_powerValue 50 = .ok (.iload_n 2, 1) := by decide +kernel
theorem d_P_powerValue_51 : decode b_P_powerValue 51 = .ok (.ireturn, 1) := by decide +kernel
theorem d_Y_valueAt_0 : decode b_Y_valueAt 0 = .ok (.iconst 0, 1) := by decide +kernel
theorem d_Y_valueAt_1 : decode b_Y_valueAt 1 = .ok (.istore_n 2, 1) := by decide +kernel
theorem d_Y_valueAt_2 : decode b_Y_valueAt 2 = .ok (.iconst 0, 1) := by decide +kernel
theorem d_Y_valueAt_3 : decode b_Y_valueAt 3 = .ok (.istore_n 3, 1) := by decide +kernel
theorem d_Y_valueAt_4 : decode b_Y_valueAt 4 = .ok (.iload_n 3, 1) := by decide +kernel
theorem d_Y_valueAt_5 : decode b_Y_valueAt 5 = .ok (.aload_n 0, 1) := by decide +kernel
theorem d_Y_valueAt_6 : decode b_Y_valueAt 6 = .ok (.getfield 18, 3) := by decide +kernel
theorem d_Y_valueAt_9 : decode b_Y_valueAt 9 = .ok (.if_icmp .ge 33, 3) := by decide +kernel
theorem d_Y_valueAt_12 : decode b_Y_valueAt 12 = .ok (.iload_n 2, 1) := by decide +kernel
theorem d_Y_valueAt_13 : decode b_Y_valueAt 13 = .ok (.aload_n 0, 1) := by decide +kernel
theorem d_Y_valueAt_14 : decode b_Y_valueAt 14 = .ok (.getfield 15, 3) := by decide +kernel
theorem d_Y_valueAt_17 : decode b_Y_valueAt 17 = .ok (.iload_n 3, 1) := by decide +kernel
theorem d_Y_valueAt_18 : decode b_Y_valueAt 18 = .ok (.iaload, 1) := by decide +kernel
theorem d_Y_valueAt_19 : decode b_Y_valueAt 19 = .ok (.aload_n 1, 1) := by decide +kernel
theorem d_Y_valueAt_20 : decode b_Y_valueAt 20 = .ok (.aload_n 0, 1) := by decide +kernel
theorem d_Y_valueAt_21 : decode b_Y_valueAt 21 = .ok (.getfield 9, 3) := by decide +kernel
theorem d_Y_valueAt_24 : decode b_Y_valueAt 24 = .ok (.iload_n 3, 1) := by decide +kernel
theorem d_Y_valueAt_25 : decode b_Y_valueAt 25 = .ok (.iaload, 1) := by decide +kernel
theorem d_Y_valueAt_26 : decode b_Y_valueAt 26 = .ok (.invokevirtual 39, 3) := by decide +kernel
theorem d_Y_valueAt_29 : decode b_Y_valueAt 29 = .ok (.imul, 1) := by decide +kernel
theorem d_Y_valueAt_30 : decode b_Y_valueAt 30 = .ok (.iadd, 1) := by decide +kernel
theorem d_Y_valueAt_31 : decode b_Y_valueAt 31 = .ok (.sipush 32003, 3) := by decide +kernel
theorem d_Y_valueAt_34 : decode b_Y_valueAt 34 = .ok (.irem, 1) := by decide +kernel
theorem d_Y_valueAt_35 : decode b_Y_valueAt 35 = .ok (.istore_n 2, 1) := by decide +kernel
theorem d_Y_valueAt_36 : decode b_Y_valueAt 36 = .ok (.iinc 3 1, 3) := by decide +kernel
theorem d_Y_valueAt_39 : decode b_Y_valueAt 39 = .ok (.goto (-35), 3) := by decide +kernel
theorem d_Y_valueAt_42 : decode b_Y_valueAt 42 = .ok (.iload_n 2, 1) := by decide +kernel
theorem d_Y_valueAt_43 : decode b_Y_valueAt 43 = .ok (.ireturn, 1) := by decide +kernel
set_option maxHeartbeats 4000000 in
set_option maxRecDepth 100000 in
theorem lp_P_move {p : Program} {l : Launch} {e : Env} {R : Room} {s : State} {m : MethodId} {args : Array Value} {below : List Frame} {meth : Method} {c : Code} {Q : State → Prop} {D : mp_G} {g : Nat → ClassId} {A : Nat → Prop} {cells slots : Nat} (hx : p.tables.exec = Jvm.exec) (hb : c.code = b_P_move) (hml : c.maxLocals = 4) (hg : ∀ w ∈ gw, w.before args s = true) (hown : s.vm.findClass R_P = some m.cls) (hK : mp_K D classes (tys g) s) (hRf : 0 ≤ R.frames) (hRl : 0 ≤ R.locals) (hRc : cells ≤ R.cells) (hRs : slots ≤ R.slots) {B : mp_M} {po pn pp : Nat} {X : Nat → fF} {W9 : Nat → Nat → fF} {l9 : Nat} {x9 : fF} (hl9 : l9 < 3) : ∀ (k : Nat) (i : Nat) (S : mp_M) (H : Heap) (locs : List Loc) (ls : Array Slot), i + k = 10 → (1 ≤ i) → S po = some (37, .inr (2, [.ref pn, .ref pp])) → S pn = some (38, .inl ((g 0), 3, .inl (fun j => nI ((va_up X l9 x9) j).val))) → S pp = some (39, .inl ((g 1), 3, .inr (.inr (.inr (.inr (rfs (fun ii => pp + 1 + ii) 3)))))) → S (pp + 1 + l9) = some ((610 + l9), .inl ((g 0), 10, .inl (fun j => nI ((mgF i (pwR x9) (W9 l9)) j).val))) → (∀ b t e9, B b = some (t, e9) → (t ≠ 38) → (t ≠ 610 + l9) → S b = some (t, e9)) → mp_I D classes A s.heap S H locs → lv_has ls 4 [(3, .int (nI i)), (2, .int (nI (x9).val)), (1, .int (nI l9)), (0, .ref po)] → (∀ (S : mp_M) (H : Heap) (locs : List Loc) (ls : Array Slot), (1 ≤ 10) → S po = some (37, .inr (2, [.ref pn, .ref pp])) → S pn = some (38, .inl ((g 0), 3, .inl (fun j => nI ((va_up X l9 x9) j).val))) → S pp = some (39, .inl ((g 1), 3, .inr (.inr (.inr (.inr (rfs (fun ii => pp + 1 + ii) 3)))))) → S (pp + 1 + l9) = some ((610 + l9), .inl ((g 0), 10, .inl (fun j => nI ((mgF 10 (pwR x9) (W9 l9)) j).val))) → (∀ b t e9, B b = some (t, e9) → (t ≠ 38) → (t ≠ 610 + l9) → S b = some (t, e9)) → mp_I D classes A s.heap S H locs → lv_has ls 4 [(3, .int (nI 10)), (2, .int (nI (x9).val)), (1, .int (nI l9)), (0, .ref po)] → W p l e R s m args below meth c H locs cells slots Q (F0 m 64 ls [])) → W p l e R s m args below meth c H locs cells slots Q (F0 m 28 ls []) := by
  intro k
  induction k with
  | zero =>
    intro i S H locs ls hi h1i h_po h_pn h_pp h_rw hfr hI hl kx
    refine lv_iload_n hx hb d_P_move_28 rfl (lv_at hl 0 rfl) ?_
    refine lv_bipush (v := nI 9) hx hb d_P_move_29 (by decide) ?_
    refine lv_icmp_gt (tgt := 64) hx hb d_P_move_31 (by decide) (fun _ => ?_) (fun h9 => absurd ((nI_ltI (by omega) (by omega)).mpr (by omega)) h9)
    obtain rfl : i = 10 := by omega
    exact kx S H locs ls h1i h_po h_pn h_pp h_rw hfr hI (lv_sub hl [0, 1, 2, 3] rfl)
  | succ k ih =>
    intro i S H locs ls hi h1i h_po h_pn h_pp h_rw hfr hI hl kx
    refine lv_iload_n hx hb d_P_move_28 rfl (lv_at hl 0 rfl) ?_
    refine lv_bipush (v := nI 9) hx hb d_P_move_29 (by decide) ?_
    refine lv_icmp_gt (tgt := 64) hx hb d_P_move_31 (by decide) (fun h9 => absurd h9 (by rw [nI_ltI (by omega) (by omega)]; omega)) (fun _ => ?_)
    refine lv_aload_n hx hb d_P_move_34 rfl (lv_at hl 3 rfl) ?_
    refine mp_get (C := R_P) (T := F_P) (N := 2) (v := .ref pp) hx hb hg i_P hown hK.va hI h_po rfl 1 (by decide) (hg _ q_169) (fun _ h9 => h9) rfl d_P_move_35 ?_
    refine lv_iload_n hx hb d_P_move_38 rfl (lv_at hl 2 rfl) ?_
    refine mp_ald2 (b := pp + 1 + l9) hx hb hK.va hI 1 h_pp rfl (vp_in_nI (show l9 < 3 by omega) (by omega)) (by rw [nI_clamp (by omega)]; exact rfs_at (by omega)) d_P_move_39 ?_
    refine lv_iload_n hx hb d_P_move_40 rfl (lv_at hl 0 rfl) ?_
    refine lv_aload_n hx hb d_P_move_41 rfl (lv_at hl 3 rfl) ?_
    refine mp_get (C := R_P) (T := F_P) (N := 2) (v := .ref pp) hx hb hg i_P hown hK.va hI h_po rfl 1 (by decide) (hg _ q_169) (fun _ h9 => h9) rfl d_P_move_42 ?_
    refine lv_iload_n hx hb d_P_move_45 rfl (lv_at hl 2 rfl) ?_
    refine mp_ald2 (b := pp + 1 + l9) hx hb hK.va hI 1 h_pp rfl (vp_in_nI (show l9 < 3 by omega) (by omega)) (by rw [nI_clamp (by omega)]; exact rfs_at (by omega)) d_P_move_46 ?_
    refine lv_iload_n hx hb d_P_move_47 rfl (lv_at hl 0 rfl) ?_
    refine lv_iconst (v := nI 1) hx hb d_P_move_48 (by decide) ?_
    refine lv_isub hx hb d_P_move_49 ?_
    refine lv_topi (fun v1 ev1 => ?_)
    obtain rfl : v1 = nI (i - 1) := ev1.trans (pk_sub (by omega))
    refine mp_iald hx hb hK.va hI 0 h_rw rfl (vp_in_nI (show i - 1 < 10 by omega) (by omega)) d_P_move_50 ?_
    refine lv_topi (fun v2 ev2 => ?_)
    obtain rfl : v2 = nI (x9 ^ (i - 1)).val := ev2.trans (by rw [nI_clamp (by omega), mgF_lt (by omega)]; rfl)
    refine lv_iload_n hx hb d_P_move_51 rfl (lv_at hl 1 rfl) ?_
    refine lv_imul hx hb d_P_move_52 ?_
    refine lv_topi (fun v3 ev3 => ?_)
    obtain rfl : v3 = nI (((x9 ^ (i - 1)).val) * ((x9).val)) := ev3.trans (pk_mul _ _)
    refine lv_sipush (v := nI 32003) hx hb d_P_move_53 (by decide) ?_
    refine lv_irem hx hb d_P_move_56 (by decide) ?_
    refine lv_topi (fun v4 ev4 => ?_)
    obtain rfl : v4 = nI ((((x9 ^ (i - 1)).val) * ((x9).val)) % 32003) := ev4.trans (pk_rem (by first | exact fb_1 _ _ | exact fb_2 _ _ _ | exact fb_3 _ _ _ | exact fb_4 _ _ | exact fb_5 _ _ _ | omega) (by omega) (by omega))
    refine lv_topi (fun v5 ev5 => ?_)
    obtain rfl : v5 = nI (((x9 ^ (i - 1)) * x9)).val := ev5.trans (congrArg nI (fv_mod (by simp only [fc_add, fc_mul, fc_of, fc_ng, fc_0, fc_1])))
    refine lv_topi (fun v6 ev6 => ?_)
    obtain rfl : v6 = nI (pwR x9 i).val := ev6.trans (congrArg (fun x : fF => nI x.val) (by show _ = x9 ^ i; rw [show x9 ^ i = x9 ^ (i - 1 + 1) by rw [Nat.sub_add_cancel h1i], pw_s]))
    refine mp_iast hx hb hK.va hI 0 h_rw rfl (vp_in_nI (show i < 10 by omega) (by omega)) d_P_move_57 (fun S7 H8 locs e_9 hI => ?_)
    have h_rw_o := h_rw
    have e_9 : S7 = va_up S (pp + 1 + l9) (some ((610 + l9), .inl ((g 0), 10, .inl (upd (fun j => nI ((mgF i (pwR x9) (W9 l9)) j).val) (nI i).toNatClampNeg (nI (pwR x9 i).val))))) := e_9
    have h_po : S7 po = some (37, .inr (2, [.ref pn, .ref pp])) := by rw [e_9]; exact mp_keep h_po h_rw (by omega)
    have h_pn : S7 pn = some (38, .inl ((g 0), 3, .inl (fun j => nI ((va_up X l9 x9) j).val))) := by rw [e_9]; exact mp_keep h_pn h_rw (by omega)
    have h_pp : S7 pp = some (39, .inl ((g 1), 3, .inr (.inr (.inr (.inr (rfs (fun ii => pp + 1 + ii) 3)))))) := by rw [e_9]; exact mp_keep h_pp h_rw (by omega)
    have h_rw : S7 (pp + 1 + l9) = some ((610 + l9), .inl ((g 0), 10, .inl (upd (fun j => nI ((mgF i (pwR x9) (W9 l9)) j).val) (nI i).toNatClampNeg (nI (pwR x9 i).val)))) := by rw [e_9]; exact mp_us _ _ _
    have hfr : ∀ b t e9, B b = some (t, e9) → (t ≠ 38) → (t ≠ 610 + l9) → S7 b = some (t, e9) := fun b t e9 h9 k0 k1 => by rw [e_9]; exact mp_keep (hfr b t e9 h9 k0 k1) h_rw_o (by omega)
    rw [nI_clamp (by omega), nIv_up] at h_rw
    have e9h_rw : (fun j => nI (va_up (mgF i (pwR x9) (W9 l9)) i (pwR x9 i) j).val) = (fun j => nI ((mgF (i + 1) (pwR x9) (W9 l9)) j).val) := by rw [mgF_up]
    rw [e9h_rw] at h_rw
    refine lv_iinc (v := nI (i + 1)) (lv' := [(3, .int (nI (i + 1))), (2, .int (nI (x9).val)), (1, .int (nI l9)), (0, .ref po)]) hx hb d_P_move_58 hl (k := 0) rfl (nI_1 _) (by decide) rfl (fun ls hl => ?_)
    refine lv_goto (tgt := 28) hx hb d_P_move_61 (by decide) ?_
    exact ih (i + 1) S7 H8 locs ls (by omega) (Nat.le_succ_of_le h1i) h_po h_pn h_pp h_rw hfr hI (lv_sub hl [0, 1, 2, 3] rfl) kx
set_option maxHeartbeats 4000000 in
set_option maxRecDepth 100000 in
/-- a point moves in one letter -/
theorem c_P_move (l : Launch) (D : mp_G) (g : Nat → ClassId) (S : mp_M) (sz : Nat) (po pn pp : Nat) (X : Nat → fF) (W9 : Nat → Nat → fF) (l9 : Nat) (x9 : fF) (h_po : S po = some (37, .inr (2, [.ref pn, .ref pp]))) (h_pn : S pn = some (38, .inl ((g 0), 3, .inl (fun j => nI (X j).val)))) (h_pp : S pp = some (39, .inl ((g 1), 3, .inr (.inr (.inr (.inr (rfs (fun ii => pp + 1 + ii) 3))))))) (hW : rS g 610 3 10 (fun ii => pp + 1 + ii) (fun ii j => nI (W9 ii j).val) S) (hl9 : l9 < 3) : Met l y_P_move w_P_move ({ frames := 0, cells := 0, slots := 0, locals := 0 }) (va_Pc [.ref po, .int (nI l9), .int (nI (x9).val)] (mp_B0 D classes (tys g) S sz)) (va_Qv (fun (S1 : mp_M) => S1 pn = some (38, .inl ((g 0), 3, .inl (fun j => nI ((va_up X l9 x9) j).val))) ∧ (rS g 610 3 10 (fun ii => pp + 1 + ii) (fun ii j => nI ((va_up W9 l9 (mgF 10 (pwR x9) (W9 l9))) ii j).val) S1) ∧ (∀ b t e9, S b = some (t, e9) → (t ≠ 38) → (t ≠ 610 + l9) → S1 b = some (t, e9))) (mp_B1 D classes S sz) (mp_A S sz)) 0 0 (mp_A S sz) := by
  refine Met.ofW (cc := b_P_move) (maxL := 4) (ret := none) (by decide) rfl ?_
  intro p e s m args below meth c s₁ B hml hv
  obtain ⟨rfl, hsz, hH, hK⟩ := hv
  have hx := B.exec
  have hb := B.bytes
  have hr := B.returns
  have hts := atoms_spec (ws := w_P_move) B.pre
  have hg : ∀ w ∈ gw, w.before _ s = true := fun w h => hts w (List.mem_cons_of_mem _ h)
  have hown : s.vm.findClass R_P = some m.cls := findClass_of_methodNamed B.named
  have hlocks := B.notSynchronized
  subst hsz
  have hI := mp_I.start hH
  have hl := lv_entry ([.ref po, .int (nI l9), .int (nI (x9).val)]) (n := 4) (Nat.le_of_ble_eq_true rfl)
  rw [lg_entry_eq]
  generalize (lg_sl ([.ref po, .int (nI l9), .int (nI (x9).val)]) ++ List.replicate (4 - (lg_sl ([.ref po, .int (nI l9), .int (nI (x9).val)])).length) Slot.unset).toArray = ls at hl ⊢
  have hl : lv_has ls 4 [(0, .ref po), (1, .int (nI l9)), (2, .int (nI (x9).val))] := hl
  have hfr : ∀ b t e9, S b = some (t, e9) → (t ≠ 38) → (t ≠ 610 + l9) → S b = some (t, e9) := fun _ _ _ h9 _ _ => h9
  refine lv_iload_n hx hb d_P_move_0 rfl (lv_at hl 1 rfl) ?_
  refine lv_if_lt (tgt := 9) hx hb d_P_move_1 (by decide) (fun h9 => absurd h9 (nI_pos (by omega))) (fun _ => ?_)
  refine lv_iload_n hx hb d_P_move_4 rfl (lv_at hl 1 rfl) ?_
  refine lv_iconst (v := nI 3) hx hb d_P_move_5 (by decide) ?_
  refine lv_icmp_lt (tgt := 10) hx hb d_P_move_6 (by decide) (fun _ => ?_) (fun h9 => absurd ((nI_ltI (by omega) (by omega)).mpr (by omega)) h9)
  have h_rw : S (pp + 1 + l9) = some ((610 + l9), .inl ((g 0), 10, .inl (fun j => nI ((W9 l9) j).val))) := hW l9 hl9
  refine lv_aload_n hx hb d_P_move_10 rfl (lv_at hl 0 rfl) ?_
  refine mp_get (C := R_P) (T := F_P) (N := 2) (v := .ref pn) hx hb hg i_P hown hK.va hI h_po rfl 0 (by decide) (hg _ q_168) (fun _ h9 => h9) rfl d_P_move_11 ?_
  refine lv_iload_n hx hb d_P_move_14 rfl (lv_at hl 1 rfl) ?_
  refine lv_iload_n hx hb d_P_move_15 rfl (lv_at hl 2 rfl) ?_
  refine mp_iast hx hb hK.va hI 0 h_pn rfl (vp_in_nI (show l9 < 3 by omega) (by omega)) d_P_move_16 (fun S1 H2 locs e_3 hI => ?_)
  have h_pn_o := h_pn
  have e_3 : S1 = va_up S pn (some (38, .inl ((g 0), 3, .inl (upd (fun j => nI (X j).val) (nI l9).toNatClampNeg (nI (x9).val))))) := e_3
  have h_po : S1 po = some (37, .inr (2, [.ref pn, .ref pp])) := by rw [e_3]; exact mp_keep h_po h_pn (by decide)
  have h_pp : S1 pp = some (39, .inl ((g 1), 3, .inr (.inr (.inr (.inr (rfs (fun ii => pp + 1 + ii) 3)))))) := by rw [e_3]; exact mp_keep h_pp h_pn (by decide)
  have h_rw : S1 (pp + 1 + l9) = some ((610 + l9), .inl ((g 0), 10, .inl (fun j => nI ((W9 l9) j).val))) := by rw [e_3]; exact mp_keep h_rw h_pn (by omega)
  have h_pn : S1 pn = some (38, .inl ((g 0), 3, .inl (upd (fun j => nI (X j).val) (nI l9).toNatClampNeg (nI (x9).val)))) := by rw [e_3]; exact mp_us _ _ _
  have hfr : ∀ b t e9, S b = some (t, e9) → (t ≠ 38) → (t ≠ 610 + l9) → S1 b = some (t, e9) := fun b t e9 h9 k0 k1 => by rw [e_3]; exact mp_keep (hfr b t e9 h9 k0 k1) h_pn_o (by omega)
  rw [nI_clamp (by omega), nIv_up] at h_pn
  refine lv_aload_n hx hb d_P_move_17 rfl (lv_at hl 0 rfl) ?_
  refine mp_get (C := R_P) (T := F_P) (N := 2) (v := .ref pp) hx hb hg i_P hown hK.va hI h_po rfl 1 (by decide) (hg _ q_169) (fun _ h9 => h9) rfl d_P_move_18 ?_
  refine lv_iload_n hx hb d_P_move_21 rfl (lv_at hl 1 rfl) ?_
  refine mp_ald2 (b := pp + 1 + l9) hx hb hK.va hI 1 h_pp rfl (vp_in_nI (show l9 < 3 by omega) (by omega)) (by rw [nI_clamp (by omega)]; exact rfs_at (by omega)) d_P_move_22 ?_
  refine lv_iconst (v := nI 0) hx hb d_P_move_23 (by decide) ?_
  refine lv_iconst (v := nI 1) hx hb d_P_move_24 (by decide) ?_
  refine mp_iast hx hb hK.va hI 0 h_rw rfl (vp_in_nI (show 0 < 10 by omega) (by omega)) d_P_move_25 (fun S4 H5 locs e_6 hI => ?_)
  have h_rw_o := h_rw
  have e_6 : S4 = va_up S1 (pp + 1 + l9) (some ((610 + l9), .inl ((g 0), 10, .inl (upd (fun j => nI ((W9 l9) j).val) (nI 0).toNatClampNeg (nI 1))))) := e_6
  have h_po : S4 po = some (37, .inr (2, [.ref pn, .ref pp])) := by rw [e_6]; exact mp_keep h_po h_rw (by omega)
  have h_pn : S4 pn = some (38, .inl ((g 0), 3, .inl (fun j => nI (va_up X l9 x9 j).val))) := by rw [e_6]; exact mp_keep h_pn h_rw (by omega)
  have h_pp : S4 pp = some (39, .inl ((g 1), 3, .inr (.inr (.inr (.inr (rfs (fun ii => pp + 1 + ii) 3)))))) := by rw [e_6]; exact mp_keep h_pp h_rw (by omega)
  have h_rw : S4 (pp + 1 + l9) = some ((610 + l9), .inl ((g 0), 10, .inl (upd (fun j => nI ((W9 l9) j).val) (nI 0).toNatClampNeg (nI 1)))) := by rw [e_6]; exact mp_us _ _ _
  have hfr : ∀ b t e9, S b = some (t, e9) → (t ≠ 38) → (t ≠ 610 + l9) → S4 b = some (t, e9) := fun b t e9 h9 k0 k1 => by rw [e_6]; exact mp_keep (hfr b t e9 h9 k0 k1) h_rw_o (by omega)
  have h_rw := h_rw
  rw [nI_clamp (by omega), nIv_up1] at h_rw
  have e9h_rw : (fun j => nI (va_up (W9 l9) 0 1 j).val) = (fun j => nI ((mgF 1 (pwR x9) (W9 l9)) j).val) := by rw [← mgF_up, mgF_0]; rfl
  rw [e9h_rw] at h_rw
  refine lv_iconst (v := nI 1) hx hb d_P_move_26 (by decide) ?_
  refine lv_istore_n (lv' := [(3, .int (nI 1)), (0, .ref po), (1, .int (nI l9)), (2, .int (nI (x9).val))]) hx hb d_P_move_27 rfl hl (by decide) rfl (fun ls hl => ?_)
  refine lp_P_move (B := S) (po := po) (pn := pn) (pp := pp) (X := X) (W9 := W9) (l9 := l9) (x9 := x9) hx hb hml hg hown hK (Nat.le_of_ble_eq_true rfl) (Nat.le_of_ble_eq_true rfl) (Nat.le_of_ble_eq_true rfl) (Nat.le_of_ble_eq_true rfl) hl9 9 1 S4 H5 _ ls (by omega) (Nat.le_refl 1) h_po h_pn h_pp h_rw hfr hI (lv_sub hl [0, 3, 2, 1] rfl) (fun S7 H8 locs ls h1i j_po j_pn j_pp j_rw hfr hI hl => ?_)
  refine mp_vret hx hb hr hlocks hI (Nat.le_of_ble_eq_true rfl) (Nat.le_of_ble_eq_true rfl) ?_ d_P_move_64
  exact ⟨j_pn, rS_up hW j_rw (fun j hj hne e9 h9 => hfr _ _ _ h9 (by omega) (by omega)), hfr⟩
set_option maxHeartbeats 4000000 in
set_option maxRecDepth 100000 in
/-- a number of the point -/
theorem c_P_number (l : Launch) (D : mp_G) (g : Nat → ClassId) (S : mp_M) (sz : Nat) (po pn pp : Nat) (X : Nat → fF) (l9 : Nat) (h_po : S po = some (37, .inr (2, [.ref pn, .ref pp]))) (h_pn : S pn = some (38, .inl ((g 0), 3, .inl (fun j => nI (X j).val)))) (h_pp : S pp = some (39, .inl ((g 1), 3, .inr (.inr (.inr (.inr (rfs (fun ii => pp + 1 + ii) 3))))))) (hl9 : l9 < 3) : Met l y_P_number w_P_number ({ frames := 0, cells := 0, slots := 0, locals := 0 }) (va_Pc [.ref po, .int (nI l9)] (mp_B0 D classes (tys g) S sz)) (va_Qi (fun (r : Int32) (S1 : mp_M) => r = nI (X l9).val ∧ S1 = S) (mp_B1 D classes S sz) (mp_A S sz)) 0 0 (mp_A S sz) := by
  refine Met.ofW (cc := b_P_number) (maxL := 2) (ret := (some .int)) (by decide) rfl ?_
  intro p e s m args below meth c s₁ B hml hv
  obtain ⟨rfl, hsz, hH, hK⟩ := hv
  have hx := B.exec
  have hb := B.bytes
  have hr := B.returns
  have hts := atoms_spec (ws := w_P_number) B.pre
  have hg : ∀ w ∈ gw, w.before _ s = true := fun w h => hts w (List.mem_cons_of_mem _ h)
  have hown : s.vm.findClass R_P = some m.cls := findClass_of_methodNamed B.named
  have hlocks := B.notSynchronized
  subst hsz
  have hI := mp_I.start hH
  have hl := lv_entry ([.ref po, .int (nI l9)]) (n := 2) (Nat.le_of_ble_eq_true rfl)
  rw [lg_entry_eq]
  generalize (lg_sl ([.ref po, .int (nI l9)]) ++ List.replicate (2 - (lg_sl ([.ref po, .int (nI l9)])).length) Slot.unset).toArray = ls at hl ⊢
  have hl : lv_has ls 2 [(0, .ref po), (1, .int (nI l9))] := hl
  refine lv_iload_n hx hb d_P_number_0 rfl (lv_at hl 1 rfl) ?_
  refine lv_if_lt (tgt := 9) hx hb d_P_number_1 (by decide) (fun h9 => absurd h9 (nI_pos (by omega))) (fun _ => ?_)
  refine lv_iload_n hx hb d_P_number_4 rfl (lv_at hl 1 rfl) ?_
  refine lv_iconst (v := nI 3) hx hb d_P_number_5 (by decide) ?_
  refine lv_icmp_lt (tgt := 13) hx hb d_P_number_6 (by decide) (fun _ => ?_) (fun h9 => absurd ((nI_ltI (by omega) (by omega)).mpr (by omega)) h9)
  refine lv_aload_n hx hb d_P_number_13 rfl (lv_at hl 0 rfl) ?_
  refine mp_get (C := R_P) (T := F_P) (N := 2) (v := .ref pn) hx hb hg i_P hown hK.va hI h_po rfl 0 (by decide) (hg _ q_168) (fun _ h9 => h9) rfl d_P_number_14 ?_
  refine lv_iload_n hx hb d_P_number_17 rfl (lv_at hl 1 rfl) ?_
  refine mp_iald hx hb hK.va hI 0 h_pn rfl (vp_in_nI (show l9 < 3 by omega) (by omega)) d_P_number_18 ?_
  refine lv_topi (fun v1 ev1 => ?_)
  obtain rfl : v1 = nI (X l9).val := ev1.trans (by rw [nI_clamp (by omega)])
  refine mp_iret hx hb hr hlocks hI (Nat.le_of_ble_eq_true rfl) (Nat.le_of_ble_eq_true rfl) ?_ d_P_number_19
  exact ⟨rfl, rfl⟩
set_option maxHeartbeats 4000000 in
set_option maxRecDepth 100000 in
theorem lp_P_value {p : Program} {l : Launch} {e : Env} {R : Room} {s : State} {m : MethodId} {args : Array Value} {below : List Frame} {meth : Method} {c : Code} {Q : State → Prop} {D : mp_G} {g : Nat → ClassId} {A : Nat → Prop} {cells slots : Nat} (hx : p.tables.exec = Jvm.exec) (hb : c.code = b_P_powerValue) (hml : c.maxLocals = 5) (hg : ∀ w ∈ gw, w.before args s = true) (hown : s.vm.findClass R_P = some m.cls) (hK : mp_K D classes (tys g) s) (hRf : 1 ≤ R.frames) (hRl : 23 ≤ R.locals) (hRc : cells ≤ R.cells) (hRs : slots ≤ R.slots) {B : mp_M} {po pn pp : Nat} {X : Nat → fF} {W9 : Nat → Nat → fF} {u : m3} (hP : ptS X W9) (hu : e9 u) : ∀ (k : Nat) (i : Nat) (y9 : fF) (S : mp_M) (H : Heap) (locs : List Loc) (ls : Array Slot), i + k = 3 → (y9 = pw3 X u i) → S po = some (37, .inr (2, [.ref pn, .ref pp])) → S pn = some (38, .inl ((g 0), 3, .inl (fun j => nI (X j).val))) → S pp = some (39, .inl ((g 1), 3, .inr (.inr (.inr (.inr (rfs (fun ii => pp + 1 + ii) 3)))))) → (rS g 610 3 10 (fun ii => pp + 1 + ii) (fun ii j => nI (W9 ii j).val) S) → (∀ b t e9, B b = some (t, e9) → S b = some (t, e9)) → mp_I D classes A s.heap S H locs → lv_has ls 5 [(3, .int (nI i)), (2, .int (nI (y9).val)), (1, .int (nI (kN u.1 u.2.1 u.2.2))), (0, .ref po)] → (∀ (y9 : fF) (S : mp_M) (H : Heap) (locs : List Loc) (ls : Array Slot), (y9 = pw3 X u 3) → S po = some (37, .inr (2, [.ref pn, .ref pp])) → S pn = some (38, .inl ((g 0), 3, .inl (fun j => nI (X j).val))) → S pp = some (39, .inl ((g 1), 3, .inr (.inr (.inr (.inr (rfs (fun ii => pp + 1 + ii) 3)))))) → (rS g 610 3 10 (fun ii => pp + 1 + ii) (fun ii j => nI (W9 ii j).val) S) → (∀ b t e9, B b = some (t, e9) → S b = some (t, e9)) → mp_I D classes A s.heap S H locs → lv_has ls 5 [(3, .int (nI 3)), (2, .int (nI (y9).val)), (1, .int (nI (kN u.1 u.2.1 u.2.2))), (0, .ref po)] → W p l e R s m args below meth c H locs cells slots Q (F0 m 50 ls [])) → W p l e R s m args below meth c H locs cells slots Q (F0 m 4 ls []) := by
  intro k
  induction k with
  | zero =>
    intro i y9 S H locs ls hi hy h_po h_pn h_pp hW hfr hI hl kx
    refine lv_iload_n hx hb d_P_powerValue_4 rfl (lv_at hl 0 rfl) ?_
    refine lv_iconst (v := nI 3) hx hb d_P_powerValue_5 (by decide) ?_
    refine lv_icmp_ge (tgt := 50) hx hb d_P_powerValue_6 (by decide) (fun _ => ?_) (fun h9 => absurd ((nI_leI (by omega) (by omega)).mpr (by omega)) h9)
    obtain rfl : i = 3 := by omega
    exact kx y9 S H locs ls hy h_po h_pn h_pp hW hfr hI (lv_sub hl [0, 1, 2, 3] rfl)
  | succ k ih =>
    intro i y9 S H locs ls hi hy h_po h_pn h_pp hW hfr hI hl kx
    refine lv_iload_n hx hb d_P_powerValue_4 rfl (lv_at hl 0 rfl) ?_
    refine lv_iconst (v := nI 3) hx hb d_P_powerValue_5 (by decide) ?_
    refine lv_icmp_ge (tgt := 50) hx hb d_P_powerValue_6 (by decide) (fun h9 => absurd h9 (by rw [nI_leI (by omega) (by omega)]; omega)) (fun _ => ?_)
    refine lv_iload_n hx hb d_P_powerValue_9 rfl (lv_at hl 2 rfl) ?_
    refine lv_iload_n hx hb d_P_powerValue_10 rfl (lv_at hl 0 rfl) ?_
    obtain ⟨u1, u2, u3⟩ := hu
    have hx9 := exN_9 ⟨u1, u2, u3⟩ i
    refine mp_calli hI (va_runS (As := [.int (nI (kN u.1 u.2.1 u.2.2)), .int (nI i)]) (rest := []) ⟨hx, hb, hml, hown, hg⟩ (c_W_exponent l D g S _ u.1 u.2.1 u.2.2 i (by omega) (by omega) (by omega) (by omega)) ⟨(callB_of 2 hg (wd_goodG q_309) rfl rfl rfl (hg _ q_11) (hg _ q_506) (by decide +kernel) ⟨Nat.le_trans (Nat.le_of_ble_eq_true rfl) hRf, Nat.le_trans (Nat.le_of_ble_eq_true rfl) hRl⟩), hg _ q_308⟩ (mp_pre hI hK [.int (nI (kN u.1 u.2.1 u.2.2)), .int (nI i)]) rfl rfl hl.1 rfl (lv_room (Nat.le_of_ble_eq_true rfl)) d_P_powerValue_11 ⟨by omega, by omega⟩) (fun r4 S1 H2 locs p_3 hI => ?_)
    obtain ⟨er4, eS5⟩ := p_3
    rw [eS5] at hI
    have er4 : r4 = nI (if i = 0 then u.1 else if i = 1 then u.2.1 else u.2.2) := er4
    subst er4
    refine lv_topi (fun v6 ev6 => ?_)
    obtain rfl : v6 = nI (exN u i) := ev6.trans (rfl)
    refine lv_istore (lv' := [(4, .int (nI (exN u i))), (3, .int (nI i)), (2, .int (nI (y9).val)), (1, .int (nI (kN u.1 u.2.1 u.2.2))), (0, .ref po)]) hx hb d_P_powerValue_14 hl (by decide) rfl (fun ls hl => ?_)
    refine lv_iload hx hb d_P_powerValue_16 (lv_at hl 0 rfl) ?_
    refine lv_if_le (tgt := 44) hx hb d_P_powerValue_18 (by decide) (fun c1 => ?_) (fun c1 => ?_)
    · rw [zI_le (by omega)] at c1
      refine lv_iinc (v := nI (i + 1)) (lv' := [(3, .int (nI (i + 1))), (4, .int (nI (exN u i))), (2, .int (nI (y9).val)), (1, .int (nI (kN u.1 u.2.1 u.2.2))), (0, .ref po)]) hx hb d_P_powerValue_44 hl (k := 1) rfl (nI_1 _) (by decide) rfl (fun ls hl => ?_)
      refine lv_goto (tgt := 4) hx hb d_P_powerValue_47 (by decide) ?_
      exact ih (i + 1) y9 S H2 locs ls (by omega) (by rw [hy]; show _ = pw3 X u i * X i ^ exN u i; rw [c1]; grind) h_po h_pn h_pp hW hfr hI (lv_sub hl [0, 2, 3, 4] rfl) kx
    · rw [zI_le (by omega)] at c1
      refine lv_iload hx hb d_P_powerValue_21 (lv_at hl 0 rfl) ?_
      refine lv_bipush (v := nI 9) hx hb d_P_powerValue_23 (by decide) ?_
      refine lv_icmp_gt (tgt := 44) hx hb d_P_powerValue_25 (by decide) (fun h9 => absurd h9 (by rw [nI_ltI (by omega) (by omega)]; omega)) (fun _ => ?_)
      refine lv_iload_n hx hb d_P_powerValue_28 rfl (lv_at hl 2 rfl) ?_
      refine lv_aload_n hx hb d_P_powerValue_29 rfl (lv_at hl 4 rfl) ?_
      refine mp_get (C := R_P) (T := F_P) (N := 2) (v := .ref pp) hx hb hg i_P hown hK.va hI h_po rfl 1 (by decide) (hg _ q_169) (fun _ h9 => h9) rfl d_P_powerValue_30 ?_
      refine lv_iload_n hx hb d_P_powerValue_33 rfl (lv_at hl 1 rfl) ?_
      have h_rw : S (pp + 1 + i) = some ((610 + i), .inl ((g 0), 10, .inl (fun j => nI ((W9 i) j).val))) := hW i (by omega)
      refine mp_ald2 (b := pp + 1 + i) hx hb hK.va hI 1 h_pp rfl (vp_in_nI (show i < 3 by omega) (by omega)) (by rw [nI_clamp (by omega)]; exact rfs_at (by omega)) d_P_powerValue_34 ?_
      refine lv_iload hx hb d_P_powerValue_35 (lv_at hl 0 rfl) ?_
      refine mp_iald hx hb hK.va hI 0 h_rw rfl (vp_in_nI (show exN u i < 10 by omega) (by omega)) d_P_powerValue_37 ?_
      refine lv_topi (fun v7 ev7 => ?_)
      obtain rfl : v7 = nI ((W9 i) (exN u i)).val := ev7.trans (by rw [nI_clamp (by omega)])
      refine lv_imul hx hb d_P_powerValue_38 ?_
      refine lv_topi (fun v8 ev8 => ?_)
      obtain rfl : v8 = nI (((y9).val) * (((W9 i) (exN u i)).val)) := ev8.trans (pk_mul _ _)
      refine lv_sipush (v := nI 32003) hx hb d_P_powerValue_39 (by decide) ?_
      refine lv_irem hx hb d_P_powerValue_42 (by decide) ?_
      refine lv_topi (fun v9 ev9 => ?_)
      obtain rfl : v9 = nI ((((y9).val) * (((W9 i) (exN u i)).val)) % 32003) := ev9.trans (pk_rem (by first | exact fb_1 _ _ | exact fb_2 _ _ _ | exact fb_3 _ _ _ | exact fb_4 _ _ | exact fb_5 _ _ _ | omega) (by omega) (by omega))
      refine lv_topi (fun v10 ev10 => ?_)
      obtain rfl : v10 = nI ((y9 * ((W9 i) (exN u i)))).val := ev10.trans (congrArg nI (fv_mod (by simp only [fc_add, fc_mul, fc_of, fc_ng, fc_0, fc_1])))
      refine lv_istore_n (lv' := [(2, .int (nI ((y9 * ((W9 i) (exN u i)))).val)), (4, .int (nI (exN u i))), (3, .int (nI i)), (1, .int (nI (kN u.1 u.2.1 u.2.2))), (0, .ref po)]) hx hb d_P_powerValue_43 rfl hl (by decide) rfl (fun ls hl => ?_)
      refine lv_iinc (v := nI (i + 1)) (lv' := [(3, .int (nI (i + 1))), (2, .int (nI ((y9 * ((W9 i) (exN u i)))).val)), (4, .int (nI (exN u i))), (1, .int (nI (kN u.1 u.2.1 u.2.2))), (0, .ref po)]) hx hb d_P_powerValue_44 hl (k := 2) rfl (nI_1 _) (by decide) rfl (fun ls hl => ?_)
      refine lv_goto (tgt := 4) hx hb d_P_powerValue_47 (by decide) ?_
      exact ih (i + 1) (y9 * W9 i (exN u i)) S H2 locs ls (by omega) (by rw [hy, hP i (by omega) _ hx9]; rfl) h_po h_pn h_pp hW hfr hI (lv_sub hl [0, 1, 3, 4] rfl) kx
set_option maxHeartbeats 4000000 in
set_option maxRecDepth 100000 in
/-- what a power is worth -/
theorem c_P_value (l : Launch) (D : mp_G) (g : Nat → ClassId) (S : mp_M) (sz : Nat) (po pn pp : Nat) (X : Nat → fF) (W9 : Nat → Nat → fF) (u : m3) (h_po : S po = some (37, .inr (2, [.ref pn, .ref pp]))) (h_pn : S pn = some (38, .inl ((g 0), 3, .inl (fun j => nI (X j).val)))) (h_pp : S pp = some (39, .inl ((g 1), 3, .inr (.inr (.inr (.inr (rfs (fun ii => pp + 1 + ii) 3))))))) (hW : rS g 610 3 10 (fun ii => pp + 1 + ii) (fun ii j => nI (W9 ii j).val) S) (hP : ptS X W9) (hu : e9 u) : Met l y_P_powerValue w_P_powerValue ({ frames := 1, cells := 0, slots := 0, locals := 23 }) (va_Pc [.ref po, .int (nI (kN u.1 u.2.1 u.2.2))] (mp_B0 D classes (tys g) S sz)) (va_Qi (fun (r : Int32) (S1 : mp_M) => r = nI (ev (X 0) (X 1) (X 2) u).val ∧ (∀ b t e9, S b = some (t, e9) → S1 b = some (t, e9))) (mp_B1 D classes S sz) (mp_A S sz)) 0 0 (mp_A S sz) := by
  refine Met.ofW (cc := b_P_powerValue) (maxL := 5) (ret := (some .int)) (by decide) rfl ?_
  intro p e s m args below meth c s₁ B hml hv
  obtain ⟨rfl, hsz, hH, hK⟩ := hv
  have hx := B.exec
  have hb := B.bytes
  have hr := B.returns
  have hts := atoms_spec (ws := w_P_powerValue) B.pre
  have hg : ∀ w ∈ gw, w.before _ s = true := fun w h => hts w (List.mem_cons_of_mem _ h)
  have hown : s.vm.findClass R_P = some m.cls := findClass_of_methodNamed B.named
  have hlocks := B.notSynchronized
  subst hsz
  have hI := mp_I.start hH
  have hl := lv_entry ([.ref po, .int (nI (kN u.1 u.2.1 u.2.2))]) (n := 5) (Nat.le_of_ble_eq_true rfl)
  rw [lg_entry_eq]
  generalize (lg_sl ([.ref po, .int (nI (kN u.1 u.2.1 u.2.2))]) ++ List.replicate (5 - (lg_sl ([.ref po, .int (nI (kN u.1 u.2.1 u.2.2))])).length) Slot.unset).toArray = ls at hl ⊢
  have hl : lv_has ls 5 [(0, .ref po), (1, .int (nI (kN u.1 u.2.1 u.2.2)))] := hl
  have hfr : ∀ b t e9, S b = some (t, e9) → S b = some (t, e9) := fun _ _ _ h9 => h9
  refine lv_iconst (v := nI 1) hx hb d_P_powerValue_0 (by decide) ?_
  refine lv_istore_n (lv' := [(2, .int (nI 1)), (0, .ref po), (1, .int (nI (kN u.1 u.2.1 u.2.2)))]) hx hb d_P_powerValue_1 rfl hl (by decide) rfl (fun ls hl => ?_)
  refine lv_iconst (v := nI 0) hx hb d_P_powerValue_2 (by decide) ?_
  refine lv_istore_n (lv' := [(3, .int (nI 0)), (2, .int (nI 1)), (0, .ref po), (1, .int (nI (kN u.1 u.2.1 u.2.2)))]) hx hb d_P_powerValue_3 rfl hl (by decide) rfl (fun ls hl => ?_)
  refine lp_P_value (B := S) (po := po) (pn := pn) (pp := pp) (X := X) (W9 := W9) (u := u) hx hb hml hg hown hK (Nat.le_of_ble_eq_true rfl) (Nat.le_of_ble_eq_true rfl) (Nat.le_of_ble_eq_true rfl) (Nat.le_of_ble_eq_true rfl) hP hu 3 0 1 S s.heap _ ls (by omega) rfl h_po h_pn h_pp hW hfr hI (lv_sub hl [0, 1, 3, 2] rfl) (fun y9 S1 H2 locs ls hy j_po j_pn j_pp hW hfr hI hl => ?_)
  refine lv_iload_n hx hb d_P_powerValue_50 rfl (lv_at hl 1 rfl) ?_
  refine mp_iret hx hb hr hlocks hI (Nat.le_of_ble_eq_true rfl) (Nat.le_of_ble_eq_true rfl) ?_ d_P_powerValue_51
  exact ⟨by rw [hy, pw3_ev], hfr⟩
set_option maxHeartbeats 4000000 in
set_option maxRecDepth 100000 in
theorem lp_Y_value {p : Program} {l : Launch} {e : Env} {R : Room} {s : State} {m : MethodId} {args : Array Value} {below : List Frame} {meth : Method} {c : Code} {Q : State → Prop} {D : mp_G} {g : Nat → ClassId} {A : Nat → Prop} {cells slots : Nat} (hx : p.tables.exec = Jvm.exec) (hb : c.code = b_Y_valueAt) (hml : c.maxLocals = 4) (hg : ∀ w ∈ gw, w.before args s = true) (hown : s.vm.findClass R_Y = some m.cls) (hK : mp_K D classes (tys g) s) (hRf : 2 ≤ R.frames) (hRl : 47 ≤ R.locals) (hRc : cells ≤ R.cells) (hRs : slots ≤ R.slots) {B : mp_M} {po pn pp : Nat} {X : Nat → fF} {W9 : Nat → Nat → fF} {yo yk yn U cp z : Nat} {kf nf : Nat → Int32} {mo : Nat → m3} {co : Nat → fF} (hP : ptS X W9) (hU : 39 < U ∧ U + 2 < 610) (hz : z ≤ cp) (hcp : cp ≤ 2048) (hk : ∀ k, k < z → kf k = nI (kN (mo k).1 (mo k).2.1 (mo k).2.2) ∧ nf k = nI (co k).val ∧ e9 (mo k)) : ∀ (k : Nat) (i : Nat) (y9 : fF) (S : mp_M) (H : Heap) (locs : List Loc) (ls : Array Slot), i + k = z → (y9 = sm i (fun k => co k * ev (X 0) (X 1) (X 2) (mo k))) → S po = some (37, .inr (2, [.ref pn, .ref pp])) → S pn = some (38, .inl ((g 0), 3, .inl (fun j => nI (X j).val))) → S pp = some (39, .inl ((g 1), 3, .inr (.inr (.inr (.inr (rfs (fun ii => pp + 1 + ii) 3)))))) → S yo = some (U, .inr (3, [.ref yk, .ref yn, .int (nI z)])) → S yk = some ((U + 1), .inl ((g 0), cp, .inl kf)) → S yn = some ((U + 2), .inl ((g 0), cp, .inl nf)) → (rS g 610 3 10 (fun ii => pp + 1 + ii) (fun ii j => nI (W9 ii j).val) S) → (∀ b t e9, B b = some (t, e9) → S b = some (t, e9)) → mp_I D classes A s.heap S H locs → lv_has ls 4 [(3, .int (nI i)), (2, .int (nI (y9).val)), (1, .ref po), (0, .ref yo)] → (∀ (y9 : fF) (S : mp_M) (H : Heap) (locs : List Loc) (ls : Array Slot), (y9 = sm z (fun k => co k * ev (X 0) (X 1) (X 2) (mo k))) → S po = some (37, .inr (2, [.ref pn, .ref pp])) → S pn = some (38, .inl ((g 0), 3, .inl (fun j => nI (X j).val))) → S pp = some (39, .inl ((g 1), 3, .inr (.inr (.inr (.inr (rfs (fun ii => pp + 1 + ii) 3)))))) → S yo = some (U, .inr (3, [.ref yk, .ref yn, .int (nI z)])) → S yk = some ((U + 1), .inl ((g 0), cp, .inl kf)) → S yn = some ((U + 2), .inl ((g 0), cp, .inl nf)) → (rS g 610 3 10 (fun ii => pp + 1 + ii) (fun ii j => nI (W9 ii j).val) S) → (∀ b t e9, B b = some (t, e9) → S b = some (t, e9)) → mp_I D classes A s.heap S H locs → lv_has ls 4 [(3, .int (nI z)), (2, .int (nI (y9).val)), (1, .ref po), (0, .ref yo)] → W p l e R s m args below meth c H locs cells slots Q (F0 m 42 ls [])) → W p l e R s m args below meth c H locs cells slots Q (F0 m 4 ls []) := by
  intro k
  induction k with
  | zero =>
    intro i y9 S H locs ls hi hy h_po h_pn h_pp h_yo h_yk h_yn hW hfr hI hl kx
    refine lv_iload_n hx hb d_Y_valueAt_4 rfl (lv_at hl 0 rfl) ?_
    refine lv_aload_n hx hb d_Y_valueAt_5 rfl (lv_at hl 3 rfl) ?_
    refine mp_get (C := R_Y) (T := F_Y) (N := 3) (v := .int (nI z)) hx hb hg i_Y hown hK.va hI h_yo rfl 2 (by decide) (hg _ q_51) (fun _ h9 => h9) rfl d_Y_valueAt_6 ?_
    refine lv_icmp_ge (tgt := 42) hx hb d_Y_valueAt_9 (by decide) (fun _ => ?_) (fun h9 => absurd ((nI_leI (by omega) (by omega)).mpr (by omega)) h9)
    obtain rfl : i = z := by omega
    exact kx y9 S H locs ls hy h_po h_pn h_pp h_yo h_yk h_yn hW hfr hI (lv_sub hl [0, 1, 2, 3] rfl)
  | succ k ih =>
    intro i y9 S H locs ls hi hy h_po h_pn h_pp h_yo h_yk h_yn hW hfr hI hl kx
    refine lv_iload_n hx hb d_Y_valueAt_4 rfl (lv_at hl 0 rfl) ?_
    refine lv_aload_n hx hb d_Y_valueAt_5 rfl (lv_at hl 3 rfl) ?_
    refine mp_get (C := R_Y) (T := F_Y) (N := 3) (v := .int (nI z)) hx hb hg i_Y hown hK.va hI h_yo rfl 2 (by decide) (hg _ q_51) (fun _ h9 => h9) rfl d_Y_valueAt_6 ?_
    refine lv_icmp_ge (tgt := 42) hx hb d_Y_valueAt_9 (by decide) (fun h9 => absurd h9 (by rw [nI_leI (by omega) (by omega)]; omega)) (fun _ => ?_)
    obtain ⟨k1, k2, k3⟩ := hk i (by omega)
    refine lv_iload_n hx hb d_Y_valueAt_12 rfl (lv_at hl 1 rfl) ?_
    refine lv_aload_n hx hb d_Y_valueAt_13 rfl (lv_at hl 3 rfl) ?_
    refine mp_get (C := R_Y) (T := F_Y) (N := 3) (v := .ref yn) hx hb hg i_Y hown hK.va hI h_yo rfl 1 (by decide) (hg _ q_48) (fun _ h9 => h9) rfl d_Y_valueAt_14 ?_
    refine lv_iload_n hx hb d_Y_valueAt_17 rfl (lv_at hl 0 rfl) ?_
    refine mp_iald hx hb hK.va hI 0 h_yn rfl (vp_in_nI (show i < cp by omega) (by omega)) d_Y_valueAt_18 ?_
    refine lv_topi (fun v1 ev1 => ?_)
    obtain rfl : v1 = nI (co i).val := ev1.trans (by rw [nI_clamp (by omega)]; exact k2)
    refine lv_aload_n hx hb d_Y_valueAt_19 rfl (lv_at hl 2 rfl) ?_
    refine lv_aload_n hx hb d_Y_valueAt_20 rfl (lv_at hl 3 rfl) ?_
    refine mp_get (C := R_Y) (T := F_Y) (N := 3) (v := .ref yk) hx hb hg i_Y hown hK.va hI h_yo rfl 0 (by decide) (hg _ q_45) (fun _ h9 => h9) rfl d_Y_valueAt_21 ?_
    refine lv_iload_n hx hb d_Y_valueAt_24 rfl (lv_at hl 0 rfl) ?_
    refine mp_iald hx hb hK.va hI 0 h_yk rfl (vp_in_nI (show i < cp by omega) (by omega)) d_Y_valueAt_25 ?_
    refine lv_topi (fun v2 ev2 => ?_)
    obtain rfl : v2 = nI (kN (mo i).1 (mo i).2.1 (mo i).2.2) := ev2.trans (by rw [nI_clamp (by omega)]; exact k1)
    refine mp_calli hI (va_runV (As := [.int (nI (kN (mo i).1 (mo i).2.1 (mo i).2.2))]) (rest := [.int (nI (co i).val), .int (nI (y9).val)]) ⟨hx, hb, hml, hown, hg⟩ (c_P_value l D g S _ po pn pp X W9 (mo i) h_po h_pn h_pp hW hP k3) ⟨(callB_of 1 hg (wd_goodG q_505) rfl rfl rfl (hg _ q_19) (hg _ q_502) (by decide +kernel) ⟨Nat.le_trans (Nat.le_of_ble_eq_true rfl) hRf, Nat.le_trans (Nat.le_of_ble_eq_true rfl) hRl⟩), hg _ q_503, hg _ q_504⟩ (mp_preV (C := R_P) (T := F_P) hI hK h_po rfl [.int (nI (kN (mo i).1 (mo i).2.1 (mo i).2.2))]) rfl rfl hl.1 rfl (lv_room (Nat.le_of_ble_eq_true rfl)) d_Y_valueAt_26 ⟨by omega, by omega⟩) (fun r6 S3 H4 locs p_5 hI => ?_)
    obtain ⟨er6, fq⟩ := p_5
    have er6 : r6 = nI (ev (X 0) (X 1) (X 2) (mo i)).val := er6
    subst er6
    have h_po : S3 po = some (37, .inr (2, [.ref pn, .ref pp])) := fq po _ _ h_po
    have h_pn : S3 pn = some (38, .inl ((g 0), 3, .inl (fun j => nI (X j).val))) := fq pn _ _ h_pn
    have h_pp : S3 pp = some (39, .inl ((g 1), 3, .inr (.inr (.inr (.inr (rfs (fun ii => pp + 1 + ii) 3)))))) := fq pp _ _ h_pp
    have h_yo : S3 yo = some (U, .inr (3, [.ref yk, .ref yn, .int (nI z)])) := fq yo _ _ h_yo
    have h_yk : S3 yk = some ((U + 1), .inl ((g 0), cp, .inl kf)) := fq yk _ _ h_yk
    have h_yn : S3 yn = some ((U + 2), .inl ((g 0), cp, .inl nf)) := fq yn _ _ h_yn
    have hfr : ∀ b t e9, B b = some (t, e9) → S3 b = some (t, e9) := fun b t e9 h9 => by have h8 := hfr b t e9 h9; exact fq b _ _ h8
    have hW := rS_kept hW (S1 := S3) (fun b t9 e9 hb9 h1 h2 => by have h8 : S3 b = some (t9, e9) := fq b _ _ hb9; rw [h8, hb9])
    refine lv_imul hx hb d_Y_valueAt_29 ?_
    refine lv_topi (fun v7 ev7 => ?_)
    obtain rfl : v7 = nI (((co i).val) * ((ev (X 0) (X 1) (X 2) (mo i)).val)) := ev7.trans (pk_mul _ _)
    refine lv_iadd hx hb d_Y_valueAt_30 ?_
    refine lv_topi (fun v8 ev8 => ?_)
    obtain rfl : v8 = nI (((y9).val) + (((co i).val) * ((ev (X 0) (X 1) (X 2) (mo i)).val))) := ev8.trans (nI_add _ _)
    refine lv_sipush (v := nI 32003) hx hb d_Y_valueAt_31 (by decide) ?_
    refine lv_irem hx hb d_Y_valueAt_34 (by decide) ?_
    refine lv_topi (fun v9 ev9 => ?_)
    obtain rfl : v9 = nI ((((y9).val) + (((co i).val) * ((ev (X 0) (X 1) (X 2) (mo i)).val))) % 32003) := ev9.trans (pk_rem (by first | exact fb_1 _ _ | exact fb_2 _ _ _ | exact fb_3 _ _ _ | exact fb_4 _ _ | exact fb_5 _ _ _ | omega) (by omega) (by omega))
    refine lv_topi (fun v10 ev10 => ?_)
    obtain rfl : v10 = nI ((y9 + ((co i) * (ev (X 0) (X 1) (X 2) (mo i))))).val := ev10.trans (congrArg nI (fv_mod (by simp only [fc_add, fc_mul, fc_of, fc_ng, fc_0, fc_1])))
    refine lv_istore_n (lv' := [(2, .int (nI ((y9 + ((co i) * (ev (X 0) (X 1) (X 2) (mo i))))).val)), (3, .int (nI i)), (1, .ref po), (0, .ref yo)]) hx hb d_Y_valueAt_35 rfl hl (by decide) rfl (fun ls hl => ?_)
    refine lv_iinc (v := nI (i + 1)) (lv' := [(3, .int (nI (i + 1))), (2, .int (nI ((y9 + ((co i) * (ev (X 0) (X 1) (X 2) (mo i))))).val)), (1, .ref po), (0, .ref yo)]) hx hb d_Y_valueAt_36 hl (k := 1) rfl (nI_1 _) (by decide) rfl (fun ls hl => ?_)
    refine lv_goto (tgt := 4) hx hb d_Y_valueAt_39 (by decide) ?_
    exact ih (i + 1) (y9 + co i * ev (X 0) (X 1) (X 2) (mo i)) S3 H4 locs ls (by omega) (by rw [hy]; rfl) h_po h_pn h_pp h_yo h_yk h_yn hW hfr hI (lv_sub hl [0, 1, 2, 3] rfl) kx
set_option maxHeartbeats 4000000 in
set_option maxRecDepth 100000 in
/-- what a polynomial is worth at a point -/
theorem c_Y_valueAt (l : Launch) (D : mp_G) (g : Nat → ClassId) (S : mp_M) (sz : Nat) (po pn pp : Nat) (X : Nat → fF) (W9 : Nat → Nat → fF) (yo yk yn U cp z : Nat) (kf nf : Nat → Int32) (mo : Nat → m3) (co : Nat → fF) (h_po : S po = some (37, .inr (2, [.ref pn, .ref pp]))) (h_pn : S pn = some (38, .inl ((g 0), 3, .inl (fun j => nI (X j).val)))) (h_pp : S pp = some (39, .inl ((g 1), 3, .inr (.inr (.inr (.inr (rfs (fun ii => pp + 1 + ii) 3))))))) (h_yo : S yo = some (U, .inr (3, [.ref yk, .ref yn, .int (nI z)]))) (h_yk : S yk = some ((U + 1), .inl ((g 0), cp, .inl kf))) (h_yn : S yn = some ((U + 2), .inl ((g 0), cp, .inl nf))) (hW : rS g 610 3 10 (fun ii => pp + 1 + ii) (fun ii j => nI (W9 ii j).val) S) (hP : ptS X W9) (hU : 39 < U ∧ U + 2 < 610) (hz : z ≤ cp) (hcp : cp ≤ 2048) (hk : ∀ k, k < z → kf k = nI (kN (mo k).1 (mo k).2.1 (mo k).2.2) ∧ nf k = nI (co k).val ∧ e9 (mo k)) : Met l y_Y_valueAt w_Y_valueAt ({ frames := 2, cells := 0, slots := 0, locals := 47 }) (va_Pc [.ref yo, .ref po] (mp_B0 D classes (tys g) S sz)) (va_Qi (fun (r : Int32) (S1 : mp_M) => r = nI (sm z (fun k => co k * ev (X 0) (X 1) (X 2) (mo k))).val ∧ (∀ b t e9, S b = some (t, e9) → S1 b = some (t, e9))) (mp_B1 D classes S sz) (mp_A S sz)) 0 0 (mp_A S sz) := by
  refine Met.ofW (cc := b_Y_valueAt) (maxL := 4) (ret := (some .int)) (by decide) rfl ?_
  intro p e s m args below meth c s₁ B hml hv
  obtain ⟨rfl, hsz, hH, hK⟩ := hv
  have hx := B.exec
  have hb := B.bytes
  have hr := B.returns
  have hts := atoms_spec (ws := w_Y_valueAt) B.pre
  have hg : ∀ w ∈ gw, w.before _ s = true := fun w h => hts w (List.mem_cons_of_mem _ h)
  have hown : s.vm.findClass R_Y = some m.cls := findClass_of_methodNamed B.named
  have hlocks := B.notSynchronized
  subst hsz
  have hI := mp_I.start hH
  have hl := lv_entry ([.ref yo, .ref po]) (n := 4) (Nat.le_of_ble_eq_true rfl)
  rw [lg_entry_eq]
  generalize (lg_sl ([.ref yo, .ref po]) ++ List.replicate (4 - (lg_sl ([.ref yo, .ref po])).length) Slot.unset).toArray = ls at hl ⊢
  have hl : lv_has ls 4 [(0, .ref yo), (1, .ref po)] := hl
  have hfr : ∀ b t e9, S b = some (t, e9) → S b = some (t, e9) := fun _ _ _ h9 => h9
  refine lv_iconst (v := nI 0) hx hb d_Y_valueAt_0 (by decide) ?_
  refine lv_istore_n (lv' := [(2, .int (nI 0)), (0, .ref yo), (1, .ref po)]) hx hb d_Y_valueAt_1 rfl hl (by decide) rfl (fun ls hl => ?_)
  refine lv_iconst (v := nI 0) hx hb d_Y_valueAt_2 (by decide) ?_
  refine lv_istore_n (lv' := [(3, .int (nI 0)), (2, .int (nI 0)), (0, .ref yo), (1, .ref po)]) hx hb d_Y_valueAt_3 rfl hl (by decide) rfl (fun ls hl => ?_)
  refine lp_Y_value (B := S) (po := po) (pn := pn) (pp := pp) (X := X) (W9 := W9) (yo := yo) (yk := yk) (yn := yn) (U := U) (cp := cp) (z := z) (kf := kf) (nf := nf) (mo := mo) (co := co) hx hb hml hg hown hK (Nat.le_of_ble_eq_true rfl) (Nat.le_of_ble_eq_true rfl) (Nat.le_of_ble_eq_true rfl) (Nat.le_of_ble_eq_true rfl) hP hU hz hcp hk z 0 0 S s.heap _ ls (by omega) rfl h_po h_pn h_pp h_yo h_yk h_yn hW hfr hI (lv_sub hl [0, 1, 3, 2] rfl) (fun y9 S1 H2 locs ls hy j_po j_pn j_pp j_yo j_yk j_yn hW hfr hI hl => ?_)
  refine lv_iload_n hx hb d_Y_valueAt_42 rfl (lv_at hl 1 rfl) ?_
  refine mp_iret hx hb hr hlocks hI (Nat.le_of_ble_eq_true rfl) (Nat.le_of_ble_eq_true rfl) ?_ d_Y_valueAt_43
  exact ⟨by rw [hy], hfr⟩
set_option maxHeartbeats 4000000 in
set_option maxRecDepth 100000 in
theorem lp_K_van {p : Program} {l : Launch} {e : Env} {R : Room} {s : State} {m : MethodId} {args : Array Value} {below : List Frame} {meth : Method} {c : Code} {Q : State → Prop} {D : mp_G} {g : Nat → ClassId} {A : Nat → Prop} {cells slots : Nat} (hx : p.tables.exec = Jvm.exec) (hb : c.code = b_K_vanishesAt) (hml : c.maxLocals = 3) (hg : ∀ w ∈ gw, w.before args s = true) (hown : s.vm.findClass R_K = some m.cls) (hK : mp_K D classes (tys g) s) (hRf : 3 ≤ R.frames) (hRl : 70 ≤ R.locals) (hRc : cells ≤ R.cells) (hRs : slots ≤ R.slots) {B : mp_M} {po pn pp : Nat} {X : Nat → fF} {W9 : Nat → Nat → fF} {lo ma hd n : Nat} {me mk mn mcap mz : Nat → Nat} {mkf mnf : Nat → Nat → Int32} {hf : Nat → Int32} {h : Nat → m3} {z : Nat → Nat} {mo : Nat → Nat → m3} {co : Nat → Nat → fF} (hP : ptS X W9) (hB : lsB n h z mo co mcap mz mkf mnf hf) : ∀ (k : Nat) (i : Nat) (S : mp_M) (H : Heap) (locs : List Loc) (ls : Array Slot), i + k = n → (∀ j, j < i → sm (z j) (fun k => co j k * ev (X 0) (X 1) (X 2) (mo j k)) = 0) → S po = some (37, .inr (2, [.ref pn, .ref pp])) → S pn = some (38, .inl ((g 0), 3, .inl (fun j => nI (X j).val))) → S pp = some (39, .inl ((g 1), 3, .inr (.inr (.inr (.inr (rfs (fun ii => pp + 1 + ii) 3)))))) → S lo = some (2, .inr (9, [.ref ma, .ref hd, .int (nI n)])) → S ma = some (4, .inl ((g 2), 12, .inr (.inr (.inr (.inr (rfs me 12)))))) → (rS g 610 3 10 (fun ii => pp + 1 + ii) (fun ii j => nI (W9 ii j).val) S) → (yS g 300 12 me mk mn mcap mz mkf mnf S) → (∀ b t e9, B b = some (t, e9) → S b = some (t, e9)) → mp_I D classes A s.heap S H locs → lv_has ls 3 [(2, .int (nI i)), (1, .ref po), (0, .ref lo)] → (∀ (S : mp_M) (H : Heap) (locs : List Loc) (ls : Array Slot), (∀ j, j < n → sm (z j) (fun k => co j k * ev (X 0) (X 1) (X 2) (mo j k)) = 0) → S po = some (37, .inr (2, [.ref pn, .ref pp])) → S pn = some (38, .inl ((g 0), 3, .inl (fun j => nI (X j).val))) → S pp = some (39, .inl ((g 1), 3, .inr (.inr (.inr (.inr (rfs (fun ii => pp + 1 + ii) 3)))))) → S lo = some (2, .inr (9, [.ref ma, .ref hd, .int (nI n)])) → S ma = some (4, .inl ((g 2), 12, .inr (.inr (.inr (.inr (rfs me 12)))))) → (rS g 610 3 10 (fun ii => pp + 1 + ii) (fun ii j => nI (W9 ii j).val) S) → (yS g 300 12 me mk mn mcap mz mkf mnf S) → (∀ b t e9, B b = some (t, e9) → S b = some (t, e9)) → mp_I D classes A s.heap S H locs → lv_has ls 3 [(2, .int (nI n)), (1, .ref po), (0, .ref lo)] → W p l e R s m args below meth c H locs cells slots Q (F0 m 31 ls [])) → (∀ (S : mp_M) (H : Heap) (locs : List Loc) (ls : Array Slot), ((¬ ∀ j, j < n → sm (z j) (fun k => co j k * ev (X 0) (X 1) (X 2) (mo j k)) = 0)) → S po = some (37, .inr (2, [.ref pn, .ref pp])) → S pn = some (38, .inl ((g 0), 3, .inl (fun j => nI (X j).val))) → S pp = some (39, .inl ((g 1), 3, .inr (.inr (.inr (.inr (rfs (fun ii => pp + 1 + ii) 3)))))) → S lo = some (2, .inr (9, [.ref ma, .ref hd, .int (nI n)])) → S ma = some (4, .inl ((g 2), 12, .inr (.inr (.inr (.inr (rfs me 12)))))) → (rS g 610 3 10 (fun ii => pp + 1 + ii) (fun ii j => nI (W9 ii j).val) S) → (yS g 300 12 me mk mn mcap mz mkf mnf S) → (∀ b t e9, B b = some (t, e9) → S b = some (t, e9)) → mp_I D classes A s.heap S H locs → lv_has ls 3 [(0, .ref lo)] → W p l e R s m args below meth c H locs cells slots Q (F0 m 23 ls [])) → W p l e R s m args below meth c H locs cells slots Q (F0 m 2 ls []) := by
  intro k
  induction k with
  | zero =>
    intro i S H locs ls hi hz h_po h_pn h_pp h_lo h_ma hW hY hfr hI hl kx ky
    have hn12 := hB.2.1
    refine lv_iload_n hx hb d_K_vanishesAt_2 rfl (lv_at hl 0 rfl) ?_
    refine lv_aload_n hx hb d_K_vanishesAt_3 rfl (lv_at hl 2 rfl) ?_
    refine mp_get (C := R_K) (T := F_K) (N := 3) (v := .int (nI n)) hx hb hg i_K hown hK.va hI h_lo rfl 2 (by decide) (hg _ q_66) (fun _ h9 => h9) rfl d_K_vanishesAt_4 ?_
    refine lv_icmp_ge (tgt := 31) hx hb d_K_vanishesAt_7 (by decide) (fun _ => ?_) (fun h9 => absurd ((nI_leI (by omega) (by omega)).mpr (by omega)) h9)
    obtain rfl : i = n := by omega
    exact kx S H locs ls hz h_po h_pn h_pp h_lo h_ma hW hY hfr hI (lv_sub hl [0, 1, 2] rfl)
  | succ k ih =>
    intro i S H locs ls hi hz h_po h_pn h_pp h_lo h_ma hW hY hfr hI hl kx ky
    have hn12 := hB.2.1
    refine lv_iload_n hx hb d_K_vanishesAt_2 rfl (lv_at hl 0 rfl) ?_
    refine lv_aload_n hx hb d_K_vanishesAt_3 rfl (lv_at hl 2 rfl) ?_
    refine mp_get (C := R_K) (T := F_K) (N := 3) (v := .int (nI n)) hx hb hg i_K hown hK.va hI h_lo rfl 2 (by decide) (hg _ q_66) (fun _ h9 => h9) rfl d_K_vanishesAt_4 ?_
    refine lv_icmp_ge (tgt := 31) hx hb d_K_vanishesAt_7 (by decide) (fun h9 => absurd h9 (by rw [nI_leI (by omega) (by omega)]; omega)) (fun _ => ?_)
    obtain ⟨m1, m2, m3, m4, m5, m6⟩ := hB.2.2 i (by omega)
    obtain ⟨y1, y2, y3⟩ := hY i (by omega)
    rw [m1] at y1
    refine lv_aload_n hx hb d_K_vanishesAt_10 rfl (lv_at hl 2 rfl) ?_
    refine mp_get (C := R_K) (T := F_K) (N := 3) (v := .ref ma) hx hb hg i_K hown hK.va hI h_lo rfl 0 (by decide) (hg _ q_61) (fun _ h9 => h9) rfl d_K_vanishesAt_11 ?_
    refine lv_iload_n hx hb d_K_vanishesAt_14 rfl (lv_at hl 0 rfl) ?_
    refine mp_aldq (b := me i) hx hb hK.va hI 2 h_ma rfl (vp_in_nI (show i < 12 by omega) (by omega)) (by rw [nI_clamp (by omega)]; exact rfs_at (by omega)) d_K_vanishesAt_15 ?_
    refine lv_aload_n hx hb d_K_vanishesAt_16 rfl (lv_at hl 1 rfl) ?_
    refine mp_calli hI (va_runV (As := [.ref po]) (rest := []) ⟨hx, hb, hml, hown, hg⟩ (c_Y_valueAt l D g S _ po pn pp X W9 (me i) (mk i) (mn i) (300 + 3 * i) (mcap i) (z i) (mkf i) (mnf i) (mo i) (co i) h_po h_pn h_pp y1 y2 y3 hW hP (by omega) m2 m3 m6) ⟨(callB_of 1 hg (wd_goodG q_501) rfl rfl rfl (hg _ q_3) (hg _ q_498) (by decide +kernel) ⟨Nat.le_trans (Nat.le_of_ble_eq_true rfl) hRf, Nat.le_trans (Nat.le_of_ble_eq_true rfl) hRl⟩), hg _ q_499, hg _ q_500⟩ (mp_preV (C := R_Y) (T := F_Y) hI hK y1 rfl [.ref po]) rfl rfl hl.1 rfl (lv_room (Nat.le_of_ble_eq_true rfl)) d_K_vanishesAt_17 ⟨by omega, by omega⟩) (fun r4 S1 H2 locs p_3 hI => ?_)
    obtain ⟨er4, fq⟩ := p_3
    have er4 : r4 = nI (sm (z i) (fun k => co i k * ev (X 0) (X 1) (X 2) (mo i k))).val := er4
    subst er4
    have h_po : S1 po = some (37, .inr (2, [.ref pn, .ref pp])) := fq po _ _ h_po
    have h_pn : S1 pn = some (38, .inl ((g 0), 3, .inl (fun j => nI (X j).val))) := fq pn _ _ h_pn
    have h_pp : S1 pp = some (39, .inl ((g 1), 3, .inr (.inr (.inr (.inr (rfs (fun ii => pp + 1 + ii) 3)))))) := fq pp _ _ h_pp
    have h_lo : S1 lo = some (2, .inr (9, [.ref ma, .ref hd, .int (nI n)])) := fq lo _ _ h_lo
    have h_ma : S1 ma = some (4, .inl ((g 2), 12, .inr (.inr (.inr (.inr (rfs me 12)))))) := fq ma _ _ h_ma
    have hfr : ∀ b t e9, B b = some (t, e9) → S1 b = some (t, e9) := fun b t e9 h9 => by have h8 := hfr b t e9 h9; exact fq b _ _ h8
    have hW := rS_kept hW (S1 := S1) (fun b t9 e9 hb9 h1 h2 => by have h8 : S1 b = some (t9, e9) := fq b _ _ hb9; rw [h8, hb9])
    have hY := yS_kept hY (S1 := S1) (fun b t9 e9 hb9 h1 h2 => by have h8 : S1 b = some (t9, e9) := fq b _ _ hb9; rw [h8, hb9])
    refine lv_if_eq (tgt := 25) hx hb d_K_vanishesAt_20 (by decide) (fun c1 => ?_) (fun c1 => ?_)
    · rw [zI_eq (by omega)] at c1
      refine lv_iinc (v := nI (i + 1)) (lv' := [(2, .int (nI (i + 1))), (1, .ref po), (0, .ref lo)]) hx hb d_K_vanishesAt_25 hl (k := 0) rfl (nI_1 _) (by decide) rfl (fun ls hl => ?_)
      refine lv_goto (tgt := 2) hx hb d_K_vanishesAt_28 (by decide) ?_
      exact ih (i + 1) S1 H2 locs ls (by omega) (fun j hj => by by_cases e : j = i; exact (by rw [e]; exact Fin.ext c1); exact hz j (by omega)) h_po h_pn h_pp h_lo h_ma hW hY hfr hI (lv_sub hl [0, 1, 2] rfl) kx ky
    · rw [zI_eq (by omega)] at c1
      exact ky S1 H2 locs ls (fun q => c1 (by rw [q i (by omega)]; rfl)) h_po h_pn h_pp h_lo h_ma hW hY hfr hI (lv_sub hl [2] rfl)
set_option maxHeartbeats 4000000 in
set_option maxRecDepth 100000 in
/-- whether all are 0 at a point -/
theorem c_K_vanishesAt (l : Launch) (D : mp_G) (g : Nat → ClassId) (S : mp_M) (sz : Nat) (po pn pp : Nat) (X : Nat → fF) (W9 : Nat → Nat → fF) (lo ma hd n : Nat) (me mk mn mcap mz : Nat → Nat) (mkf mnf : Nat → Nat → Int32) (hf : Nat → Int32) (h : Nat → m3) (z : Nat → Nat) (mo : Nat → Nat → m3) (co : Nat → Nat → fF) (h_po : S po = some (37, .inr (2, [.ref pn, .ref pp]))) (h_pn : S pn = some (38, .inl ((g 0), 3, .inl (fun j => nI (X j).val)))) (h_pp : S pp = some (39, .inl ((g 1), 3, .inr (.inr (.inr (.inr (rfs (fun ii => pp + 1 + ii) 3))))))) (h_lo : S lo = some (2, .inr (9, [.ref ma, .ref hd, .int (nI n)]))) (h_ma : S ma = some (4, .inl ((g 2), 12, .inr (.inr (.inr (.inr (rfs me 12))))))) (hW : rS g 610 3 10 (fun ii => pp + 1 + ii) (fun ii j => nI (W9 ii j).val) S) (hY : yS g 300 12 me mk mn mcap mz mkf mnf S) (hP : ptS X W9) (hB : lsB n h z mo co mcap mz mkf mnf hf) : Met l y_K_vanishesAt w_K_vanishesAt ({ frames := 3, cells := 0, slots := 0, locals := 70 }) (va_Pc [.ref lo, .ref po] (mp_B0 D classes (tys g) S sz)) (va_Qi (fun (r : Int32) (S1 : mp_M) => ((r = 1 ∧ ∀ j, j < n → sm (z j) (fun k => co j k * ev (X 0) (X 1) (X 2) (mo j k)) = 0) ∨ (r = 0 ∧ (¬ ∀ j, j < n → sm (z j) (fun k => co j k * ev (X 0) (X 1) (X 2) (mo j k)) = 0))) ∧ (∀ b t e9, S b = some (t, e9) → S1 b = some (t, e9))) (mp_B1 D classes S sz) (mp_A S sz)) 0 0 (mp_A S sz) := by
  refine Met.ofW (cc := b_K_vanishesAt) (maxL := 3) (ret := (some .boolean)) (by decide) rfl ?_
  intro p e s m args below meth c s₁ B hml hv
  obtain ⟨rfl, hsz, hH, hK⟩ := hv
  have hx := B.exec
  have hb := B.bytes
  have hr := B.returns
  have hts := atoms_spec (ws := w_K_vanishesAt) B.pre
  have hg : ∀ w ∈ gw, w.before _ s = true := fun w h => hts w (List.mem_cons_of_mem _ h)
  have hown : s.vm.findClass R_K = some m.cls := findClass_of_methodNamed B.named
  have hlocks := B.notSynchronized
  subst hsz
  have hI := mp_I.start hH
  have hl := lv_entry ([.ref lo, .ref po]) (n := 3) (Nat.le_of_ble_eq_true rfl)
  rw [lg_entry_eq]
  generalize (lg_sl ([.ref lo, .ref po]) ++ List.replicate (3 - (lg_sl ([.ref lo, .ref po])).length) Slot.unset).toArray = ls at hl ⊢
  have hl : lv_has ls 3 [(0, .ref lo), (1, .ref po)] := hl
  have hfr : ∀ b t e9, S b = some (t, e9) → S b = some (t, e9) := fun _ _ _ h9 => h9
  have hn12 := hB.2.1
  refine lv_iconst (v := nI 0) hx hb d_K_vanishesAt_0 (by decide) ?_
  refine lv_istore_n (lv' := [(2, .int (nI 0)), (0, .ref lo), (1, .ref po)]) hx hb d_K_vanishesAt_1 rfl hl (by decide) rfl (fun ls hl => ?_)
  refine lp_K_van (B := S) (po := po) (pn := pn) (pp := pp) (X := X) (W9 := W9) (lo := lo) (ma := ma) (hd := hd) (n := n) (me := me) (mk := mk) (mn := mn) (mcap := mcap) (mz := mz) (mkf := mkf) (mnf := mnf) (hf := hf) (h := h) (z := z) (mo := mo) (co := co) hx hb hml hg hown hK (Nat.le_of_ble_eq_true rfl) (Nat.le_of_ble_eq_true rfl) (Nat.le_of_ble_eq_true rfl) (Nat.le_of_ble_eq_true rfl) hP hB n 0 S s.heap _ ls (by omega) (fun j hj => absurd hj (Nat.not_lt_zero j)) h_po h_pn h_pp h_lo h_ma hW hY hfr hI (lv_sub hl [0, 2, 1] rfl) (fun S1 H2 locs ls hz j_po j_pn j_pp j_lo j_ma hW hY hfr hI hl => ?_) (fun S9 H9 locs ls hno j_po j_pn j_pp j_lo j_ma hW hY hfr hI hl => ?_)
  · refine lv_iconst (v := nI 1) hx hb d_K_vanishesAt_31 (by decide) ?_
    refine mp_zret hx hb hr hlocks hI (Nat.le_of_ble_eq_true rfl) (Nat.le_of_ble_eq_true rfl) ?_ (by decide) d_K_vanishesAt_32
    exact ⟨Or.inl ⟨rfl, hz⟩, hfr⟩
  · refine lv_iconst (v := nI 0) hx hb d_K_vanishesAt_23 (by decide) ?_
    refine mp_zret hx hb hr hlocks hI (Nat.le_of_ble_eq_true rfl) (Nat.le_of_ble_eq_true rfl) ?_ (by decide) d_K_vanishesAt_24
    exact ⟨Or.inr ⟨rfl, hno⟩, hfr⟩
