/-! The reference asks whether all are 0 at a point. -/
theorem d_M_areAll_0 : decode b_M_areAll 0 = .ok (.iconst 0, 1) := by decide +kernel
theorem d_M_areAll_1 : decode b_M_areAll 1 = .ok (.istore 4, 2) := by decide +kernel
theorem d_M_areAll_3 : decode b_M_areAll 3 = .ok (.iload 4, 2) := by decide +kernel
theorem d_M_areAll_5 : decode b_M_areAll 5 = .ok (.aload_n 0, 1) := by decide +kernel
theorem d_M_areAll_6 : decode b_M_areAll 6 = .ok (.getfield 125, 3) := by decide +kernel
theorem d_M_areAll_9 : decode b_M_areAll 9 = .ok (.if_icmp .ge 82, 3) := by decide +kernel
theorem d_M_areAll_12 : decode b_M_areAll 12 = .ok (.iconst 0, 1) := by decide +kernel
theorem d_M_areAll_13 : decode b_M_areAll 13 = .ok (.istore 5, 2) := by decide +kernel
theorem d_M_areAll_15 : decode b_M_areAll 15 = .ok (.sipush 1000, 3) := by decide +kernel
theorem d_M_areAll_18 : decode b_M_areAll 18 = .ok (.iload 4, 2) := by decide +kernel
theorem d_M_areAll_20 : decode b_M_areAll 20 = .ok (.imul, 1) := by decide +kernel
theorem d_M_areAll_21 : decode b_M_areAll 21 = .ok (.istore 6, 2) := by decide +kernel
theorem d_M_areAll_23 : decode b_M_areAll 23 = .ok (.iload 6, 2) := by decide +kernel
theorem d_M_areAll_25 : decode b_M_areAll 25 = .ok (.sipush 1000, 3) := by decide +kernel
theorem d_M_areAll_28 : decode b_M_areAll 28 = .ok (.iload 4, 2) := by decide +kernel
theorem d_M_areAll_30 : decode b_M_areAll 30 = .ok (.imul, 1) := by decide +kernel
theorem d_M_areAll_31 : decode b_M_areAll 31 = .ok (.aload_n 0, 1) := by decide +kernel
theorem d_M_areAll_32 : decode b_M_areAll 32 = .ok (.getfield 14, 3) := by decide +kernel
theorem d_M_areAll_35 : decode b_M_areAll 35 = .ok (.iload 4, 2) := by decide +kernel
theorem d_M_areAll_37 : decode b_M_areAll 37 = .ok (.iaload, 1) := by decide +kernel
theorem d_M_areAll_38 : decode b_M_areAll 38 = .ok (.iadd, 1) := by decide +kernel
theorem d_M_areAll_39 : decode b_M_areAll 39 = .ok (.if_icmp .ge 39, 3) := by decide +kernel
theorem d_M_areAll_42 : decode b_M_areAll 42 = .ok (.iload 5, 2) := by decide +kernel
theorem d_M_areAll_44 : decode b_M_areAll 44 = .ok (.aload_n 0, 1) := by decide +kernel
theorem d_M_areAll_45 : decode b_M_areAll 45 = .ok (.getfield 20, 3) := by decide +kernel
theorem d_M_areAll_48 : decode b_M_areAll 48 = .ok (.iload 6, 2) := by decide +kernel
theorem d_M_areAll_50 : decode b_M_areAll 50 = .ok (.iaload, 1) := by decide +kernel
theorem d_M_areAll_51 : decode b_M_areAll 51 = .ok (.aload_n 0, 1) := by decide +kernel
theorem d_M_areAll_52 : decode b_M_areAll 52 = .ok (.getfield 17, 3) := by decide +kernel
theorem d_M_areAll_55 : decode b_M_areAll 55 = .ok (.iload 6, 2) := by decide +kernel
theorem d_M_areAll_57 : decode b_M_areAll 57 = .ok (.iaload, 1) := by decide +kernel
theorem d_M_areAll_58 : decode b_M_areAll 58 = .ok (.iload_n 1, 1) := by decide +kernel
theorem d_M_areAll_59 : decode b_M_areAll 59 = .ok (.iload_n 2, 1) := by decide +kernel
theorem d_M_areAll_60 : decode b_M_areAll 60 = .ok (.iload_n 3, 1) := by decide +kernel
theorem d_M_areAll_61 : decode b_M_areAll 61 = .ok (.invokestatic 191, 3) := by decide +kernel
theorem d_M_areAll_64 : decode b_M_areAll 64 = .ok (.invokestatic 87, 3) := by decide +kernel
theorem d_M_areAll_67 : decode b_M_areAll 67 = .ok (.invokestatic 174, 3) := by decide +kernel
theorem d_M_areAll_70 : decode b_M_areAll 70 = .ok (.istore 5, 2) := by decide +kernel
theorem d_M_areAll_72 : decode b_M_areAll 72 = .ok (.iinc 6 1, 3) := by decide +kernel
theorem d_M_areAll_75 : decode b_M_areAll 75 = .ok (.goto (-52), 3) := by decide +kernel
theorem d_M_areAll_78 : decode b_M_areAll 78 = .ok (.iload 5, 2) := by decide +kernel
theorem d_M_areAll_80 : decode b_M_areAll 80 = .ok (.ifCond .eq 5, 3) := by decide +kernel
theorem d_M_areAll_83 : decode b_M_areAll 83 = .ok (.iconst 0, 1) := by decide +kernel
theorem d_M_areAll_84 : decode b_M_areAll 84 = .ok (.ireturn, 1) := by decide +kernel
theorem d_M_areAll_85 : decode b_M_areAll 85 = .ok (.iinc 4 1, 3) := by decide +kernel
theorem d_M_areAll_88 : decode b_M_areAll 88 = .ok (.goto (-85), 3) := by decide +kernel
theorem d_M_areAll_91 : decode b_M_areAll 91 = .ok (.iconst 1, 1) := by decide +kernel
theorem d_M_areAll_92 : decode b_M_areAll 92 = .ok (.ireturn, 1) := by decide +kernel
set_option maxHeartbeats 4000000 in
set_option maxRecDepth 100000 in
theorem lp_M_all1 {p : Program} {l : Launch} {e : Env} {R : Room} {s : State} {m : MethodId} {args : Array Value} {below : List Frame} {meth : Method} {c : Code} {Q : State → Prop} {D : mp_G} {g : Nat → ClassId} {A : Nat → Prop} {cells slots : Nat} (hx : p.tables.exec = Jvm.exec) (hb : c.code = b_M_areAll) (hml : c.maxLocals = 7) (hg : ∀ w ∈ gw, w.before args s = true) (hown : s.vm.findClass R_M = some m.cls) (hK : mp_K D classes (tys g) s) (hRf : 3 ≤ R.frames) (hRl : 67 ≤ R.locals) (hRc : cells ≤ R.cells) (hRs : slots ≤ R.slots) {B : mp_M} {o te tp tn n : Nat} {mv0 mv1 mv2 mv3 mv4 mv9 mv10 mv11 mv12 mv13 mv14 mv15 mv16 mv17 mv18 mv19 mv20 mv21 mv22 mv23 mv24 mv25 mv26 mv27 mv28 mv29 mv30 : Value} {tf tpf tnf : Nat → Int32} {z2 : Nat → Nat} {mo2 : Nat → Nat → m3} {co2 : Nat → Nat → fF} {x9 y9 w9 : fF} {f : Nat} (hn : n ≤ 12) (hk : ∀ i, i < n → tf i = nI (z2 i) ∧ z2 i ≤ 1000 ∧ ∀ k, k < z2 i → tpf (1000 * i + k) = nI (pN (mo2 i k).1 (mo2 i k).2.1 (mo2 i k).2.2) ∧ tnf (1000 * i + k) = nI (co2 i k).val ∧ e9 (mo2 i k)) (hf9 : f < n) : ∀ (k : Nat) (i : Nat) (v9 : fF) (S : mp_M) (H : Heap) (locs : List Loc) (ls : Array Slot), i + k = z2 f → (v9 = sm i (fun k => co2 f k * ev x9 y9 w9 (mo2 f k))) → S o = some (2000, .inr (10, [mv0, mv1, mv2, mv3, mv4, .int (nI n), .ref te, .ref tp, .ref tn, mv9, mv10, mv11, mv12, mv13, mv14, mv15, mv16, mv17, mv18, mv19, mv20, mv21, mv22, mv23, mv24, mv25, mv26, mv27, mv28, mv29, mv30])) → S te = some (2002, .inl ((g 0), 12, .inl tf)) → S tp = some (2003, .inl ((g 0), 12000, .inl tpf)) → S tn = some (2004, .inl ((g 0), 12000, .inl tnf)) → (∀ b t e9, B b = some (t, e9) → S b = some (t, e9)) → mp_I D classes A s.heap S H locs → lv_has ls 7 [(6, .int (nI (1000 * f + i))), (5, .int (nI (v9).val)), (4, .int (nI f)), (3, .int (nI (w9).val)), (2, .int (nI (y9).val)), (1, .int (nI (x9).val)), (0, .ref o)] → (∀ (v9 : fF) (S : mp_M) (H : Heap) (locs : List Loc) (ls : Array Slot), (v9 = sm (z2 f) (fun k => co2 f k * ev x9 y9 w9 (mo2 f k))) → S o = some (2000, .inr (10, [mv0, mv1, mv2, mv3, mv4, .int (nI n), .ref te, .ref tp, .ref tn, mv9, mv10, mv11, mv12, mv13, mv14, mv15, mv16, mv17, mv18, mv19, mv20, mv21, mv22, mv23, mv24, mv25, mv26, mv27, mv28, mv29, mv30])) → S te = some (2002, .inl ((g 0), 12, .inl tf)) → S tp = some (2003, .inl ((g 0), 12000, .inl tpf)) → S tn = some (2004, .inl ((g 0), 12000, .inl tnf)) → (∀ b t e9, B b = some (t, e9) → S b = some (t, e9)) → mp_I D classes A s.heap S H locs → lv_has ls 7 [(6, .int (nI (1000 * f + (z2 f)))), (5, .int (nI (v9).val)), (4, .int (nI f)), (3, .int (nI (w9).val)), (2, .int (nI (y9).val)), (1, .int (nI (x9).val)), (0, .ref o)] → W p l e R s m args below meth c H locs cells slots Q (F0 m 78 ls [])) → W p l e R s m args below meth c H locs cells slots Q (F0 m 23 ls []) := by
  intro k
  induction k with
  | zero =>
    intro i v9 S H locs ls hi hv h_o h_te h_tp h_tn hfr hI hl kx
    have hz := (hk f hf9).2.1
    refine lv_iload hx hb d_M_areAll_23 (lv_at hl 0 rfl) ?_
    refine lv_sipush (v := nI 1000) hx hb d_M_areAll_25 (by decide) ?_
    refine lv_iload hx hb d_M_areAll_28 (lv_at hl 2 rfl) ?_
    refine lv_imul hx hb d_M_areAll_30 ?_
    refine lv_topi (fun v1 ev1 => ?_)
    obtain rfl : v1 = nI (1000 * f) := ev1.trans (pk_mul _ _)
    refine lv_aload_n hx hb d_M_areAll_31 rfl (lv_at hl 6 rfl) ?_
    refine mp_get (C := R_M) (T := F_M) (N := 31) (v := .ref te) hx hb hg i_M hown hK.va hI h_o rfl 6 (by decide) (hg _ q_810) (fun _ h9 => h9) rfl d_M_areAll_32 ?_
    refine lv_iload hx hb d_M_areAll_35 (lv_at hl 2 rfl) ?_
    refine mp_iald hx hb hK.va hI 0 h_te rfl (vp_in_nI (show f < 12 by omega) (by omega)) d_M_areAll_37 ?_
    refine lv_topi (fun v2 ev2 => ?_)
    obtain rfl : v2 = nI (z2 f) := ev2.trans (by rw [nI_clamp (by omega)]; exact (hk f hf9).1)
    refine lv_iadd hx hb d_M_areAll_38 ?_
    refine lv_topi (fun v3 ev3 => ?_)
    obtain rfl : v3 = nI ((1000 * f) + (z2 f)) := ev3.trans (nI_add _ _)
    refine lv_icmp_ge (tgt := 78) hx hb d_M_areAll_39 (by decide) (fun _ => ?_) (fun h9 => absurd ((nI_leI (by omega) (by omega)).mpr (by omega)) h9)
    obtain rfl : i = z2 f := by omega
    exact kx v9 S H locs ls hv h_o h_te h_tp h_tn hfr hI (lv_sub hl [0, 1, 2, 3, 4, 5, 6] rfl)
  | succ k ih =>
    intro i v9 S H locs ls hi hv h_o h_te h_tp h_tn hfr hI hl kx
    obtain ⟨_, hz, hk2⟩ := hk f hf9
    refine lv_iload hx hb d_M_areAll_23 (lv_at hl 0 rfl) ?_
    refine lv_sipush (v := nI 1000) hx hb d_M_areAll_25 (by decide) ?_
    refine lv_iload hx hb d_M_areAll_28 (lv_at hl 2 rfl) ?_
    refine lv_imul hx hb d_M_areAll_30 ?_
    refine lv_topi (fun v1 ev1 => ?_)
    obtain rfl : v1 = nI (1000 * f) := ev1.trans (pk_mul _ _)
    refine lv_aload_n hx hb d_M_areAll_31 rfl (lv_at hl 6 rfl) ?_
    refine mp_get (C := R_M) (T := F_M) (N := 31) (v := .ref te) hx hb hg i_M hown hK.va hI h_o rfl 6 (by decide) (hg _ q_810) (fun _ h9 => h9) rfl d_M_areAll_32 ?_
    refine lv_iload hx hb d_M_areAll_35 (lv_at hl 2 rfl) ?_
    refine mp_iald hx hb hK.va hI 0 h_te rfl (vp_in_nI (show f < 12 by omega) (by omega)) d_M_areAll_37 ?_
    refine lv_topi (fun v2 ev2 => ?_)
    obtain rfl : v2 = nI (z2 f) := ev2.trans (by rw [nI_clamp (by omega)]; exact (hk f hf9).1)
    refine lv_iadd hx hb d_M_areAll_38 ?_
    refine lv_topi (fun v3 ev3 => ?_)
    obtain rfl : v3 = nI ((1000 * f) + (z2 f)) := ev3.trans (nI_add _ _)
    refine lv_icmp_ge (tgt := 78) hx hb d_M_areAll_39 (by decide) (fun h9 => absurd h9 (by rw [nI_leI (by omega) (by omega)]; omega)) (fun _ => ?_)
    obtain ⟨k1, k2, k3⟩ := hk2 i (by omega)
    obtain ⟨e1, e2, e3⟩ := k3
    refine lv_iload hx hb d_M_areAll_42 (lv_at hl 1 rfl) ?_
    refine lv_aload_n hx hb d_M_areAll_44 rfl (lv_at hl 6 rfl) ?_
    refine mp_get (C := R_M) (T := F_M) (N := 31) (v := .ref tn) hx hb hg i_M hown hK.va hI h_o rfl 8 (by decide) (hg _ q_812) (fun _ h9 => h9) rfl d_M_areAll_45 ?_
    refine lv_iload hx hb d_M_areAll_48 (lv_at hl 0 rfl) ?_
    refine mp_iald hx hb hK.va hI 0 h_tn rfl (vp_in_nI (show 1000 * f + i < 12000 by omega) (by omega)) d_M_areAll_50 ?_
    refine lv_topi (fun v4 ev4 => ?_)
    obtain rfl : v4 = nI (co2 f i).val := ev4.trans (by rw [nI_clamp (by omega)]; exact k2)
    refine lv_aload_n hx hb d_M_areAll_51 rfl (lv_at hl 6 rfl) ?_
    refine mp_get (C := R_M) (T := F_M) (N := 31) (v := .ref tp) hx hb hg i_M hown hK.va hI h_o rfl 7 (by decide) (hg _ q_811) (fun _ h9 => h9) rfl d_M_areAll_52 ?_
    refine lv_iload hx hb d_M_areAll_55 (lv_at hl 0 rfl) ?_
    refine mp_iald hx hb hK.va hI 0 h_tp rfl (vp_in_nI (show 1000 * f + i < 12000 by omega) (by omega)) d_M_areAll_57 ?_
    refine lv_topi (fun v5 ev5 => ?_)
    obtain rfl : v5 = nI (pN (mo2 f i).1 (mo2 f i).2.1 (mo2 f i).2.2) := ev5.trans (by rw [nI_clamp (by omega)]; exact k1)
    refine lv_iload_n hx hb d_M_areAll_58 rfl (lv_at hl 5 rfl) ?_
    refine lv_iload_n hx hb d_M_areAll_59 rfl (lv_at hl 4 rfl) ?_
    refine lv_iload_n hx hb d_M_areAll_60 rfl (lv_at hl 3 rfl) ?_
    refine mp_calli hI (va_runS (As := [.int (nI (pN (mo2 f i).1 (mo2 f i).2.1 (mo2 f i).2.2)), .int (nI (x9).val), .int (nI (y9).val), .int (nI (w9).val)]) (rest := [.int (nI (co2 f i).val), .int (nI (v9).val)]) ⟨hx, hb, hml, hown, hg⟩ (c_M_worth l D g S _ (pN (mo2 f i).1 (mo2 f i).2.1 (mo2 f i).2.2) x9 y9 w9 (pN_lt e1 e2 e3)) ⟨(callB_of 4 hg (wd_goodG q_1048) rfl rfl rfl (hg _ q_5) (hg _ q_1046) (by decide +kernel) ⟨Nat.le_trans (Nat.le_of_ble_eq_true rfl) hRf, Nat.le_trans (Nat.le_of_ble_eq_true rfl) hRl⟩), hg _ q_1047⟩ (mp_pre hI hK [.int (nI (pN (mo2 f i).1 (mo2 f i).2.1 (mo2 f i).2.2)), .int (nI (x9).val), .int (nI (y9).val), .int (nI (w9).val)]) rfl rfl hl.1 rfl (lv_room (Nat.le_of_ble_eq_true rfl)) d_M_areAll_61 ⟨by omega, by omega⟩) (fun r9 S6 H7 locs p_8 hI => ?_)
    obtain ⟨er9, fq⟩ := p_8
    have er9 : r9 = nI (ev x9 y9 w9 (mo2 f i)).val := by rw [er9, Em_pN ⟨e1, e2, e3⟩]
    subst er9
    have h_o : S6 o = some (2000, .inr (10, [mv0, mv1, mv2, mv3, mv4, .int (nI n), .ref te, .ref tp, .ref tn, mv9, mv10, mv11, mv12, mv13, mv14, mv15, mv16, mv17, mv18, mv19, mv20, mv21, mv22, mv23, mv24, mv25, mv26, mv27, mv28, mv29, mv30])) := fq o _ _ h_o
    have h_te : S6 te = some (2002, .inl ((g 0), 12, .inl tf)) := fq te _ _ h_te
    have h_tp : S6 tp = some (2003, .inl ((g 0), 12000, .inl tpf)) := fq tp _ _ h_tp
    have h_tn : S6 tn = some (2004, .inl ((g 0), 12000, .inl tnf)) := fq tn _ _ h_tn
    have hfr : ∀ b t e9, B b = some (t, e9) → S6 b = some (t, e9) := fun b t e9 h9 => by have h8 := hfr b t e9 h9; exact fq b _ _ h8
    refine mp_calli hI (va_runS (As := [.int (nI (co2 f i).val), .int (nI (ev x9 y9 w9 (mo2 f i)).val)]) (rest := [.int (nI (v9).val)]) ⟨hx, hb, hml, hown, hg⟩ (c_M_times l D g S6 _ (co2 f i).val (ev x9 y9 w9 (mo2 f i)).val (by omega) (by omega)) ⟨(callB_of 2 hg (wd_goodG q_927) rfl rfl rfl (hg _ q_5) (hg _ q_925) (by decide +kernel) ⟨Nat.le_trans (Nat.le_of_ble_eq_true rfl) hRf, Nat.le_trans (Nat.le_of_ble_eq_true rfl) hRl⟩), hg _ q_926⟩ (mp_pre hI hK [.int (nI (co2 f i).val), .int (nI (ev x9 y9 w9 (mo2 f i)).val)]) rfl rfl hl.1 rfl (lv_room (Nat.le_of_ble_eq_true rfl)) d_M_areAll_64 ⟨by omega, by omega⟩) (fun r13 S10 H11 locs p_12 hI => ?_)
    obtain ⟨er13, eS14⟩ := p_12
    rw [eS14] at hI
    have er13 : r13 = nI ((co2 f i).val * (ev x9 y9 w9 (mo2 f i)).val % 32003) := er13
    subst er13
    refine lv_topi (fun v15 ev15 => ?_)
    obtain rfl : v15 = nI ((co2 f i) * (ev x9 y9 w9 (mo2 f i))).val := ev15.trans (congrArg nI (fv_mul _ _))
    refine mp_calli hI (va_runS (As := [.int (nI (v9).val), .int (nI ((co2 f i) * (ev x9 y9 w9 (mo2 f i))).val)]) (rest := []) ⟨hx, hb, hml, hown, hg⟩ (c_M_plus l D g S6 _ (v9).val ((co2 f i) * (ev x9 y9 w9 (mo2 f i))).val (by omega) (by omega)) ⟨(callB_of 2 hg (wd_goodG q_1025) rfl rfl rfl (hg _ q_5) (hg _ q_1023) (by decide +kernel) ⟨Nat.le_trans (Nat.le_of_ble_eq_true rfl) hRf, Nat.le_trans (Nat.le_of_ble_eq_true rfl) hRl⟩), hg _ q_1024⟩ (mp_pre hI hK [.int (nI (v9).val), .int (nI ((co2 f i) * (ev x9 y9 w9 (mo2 f i))).val)]) rfl rfl hl.1 rfl (lv_room (Nat.le_of_ble_eq_true rfl)) d_M_areAll_67 ⟨by omega, by omega⟩) (fun r19 S16 H17 locs p_18 hI => ?_)
    obtain ⟨er19, eS20⟩ := p_18
    rw [eS20] at hI
    have er19 : r19 = nI (((v9).val + ((co2 f i) * (ev x9 y9 w9 (mo2 f i))).val) % 32003) := er19
    subst er19
    refine lv_topi (fun v21 ev21 => ?_)
    obtain rfl : v21 = nI (v9 + ((co2 f i) * (ev x9 y9 w9 (mo2 f i)))).val := ev21.trans (congrArg nI (fv_add _ _))
    refine lv_istore (lv' := [(5, .int (nI (v9 + ((co2 f i) * (ev x9 y9 w9 (mo2 f i)))).val)), (6, .int (nI (1000 * f + i))), (4, .int (nI f)), (3, .int (nI (w9).val)), (2, .int (nI (y9).val)), (1, .int (nI (x9).val)), (0, .ref o)]) hx hb d_M_areAll_70 hl (by decide) rfl (fun ls hl => ?_)
    refine lv_iinc (v := nI ((1000 * f + i) + 1)) (lv' := [(6, .int (nI ((1000 * f + i) + 1))), (5, .int (nI (v9 + ((co2 f i) * (ev x9 y9 w9 (mo2 f i)))).val)), (4, .int (nI f)), (3, .int (nI (w9).val)), (2, .int (nI (y9).val)), (1, .int (nI (x9).val)), (0, .ref o)]) hx hb d_M_areAll_72 hl (k := 1) rfl (nI_1 _) (by decide) rfl (fun ls hl => ?_)
    refine lv_goto (tgt := 23) hx hb d_M_areAll_75 (by decide) ?_
    exact ih (i + 1) (v9 + (co2 f i) * (ev x9 y9 w9 (mo2 f i))) S6 H17 locs ls (by omega) (by rw [hv]; rfl) h_o h_te h_tp h_tn hfr hI (lv_sub hl [0, 1, 2, 3, 4, 5, 6] rfl) kx
set_option maxHeartbeats 4000000 in
set_option maxRecDepth 100000 in
theorem lp_M_all2 {p : Program} {l : Launch} {e : Env} {R : Room} {s : State} {m : MethodId} {args : Array Value} {below : List Frame} {meth : Method} {c : Code} {Q : State → Prop} {D : mp_G} {g : Nat → ClassId} {A : Nat → Prop} {cells slots : Nat} (hx : p.tables.exec = Jvm.exec) (hb : c.code = b_M_areAll) (hml : c.maxLocals = 7) (hg : ∀ w ∈ gw, w.before args s = true) (hown : s.vm.findClass R_M = some m.cls) (hK : mp_K D classes (tys g) s) (hRf : 3 ≤ R.frames) (hRl : 67 ≤ R.locals) (hRc : cells ≤ R.cells) (hRs : slots ≤ R.slots) {B : mp_M} {o te tp tn n : Nat} {mv0 mv1 mv2 mv3 mv4 mv9 mv10 mv11 mv12 mv13 mv14 mv15 mv16 mv17 mv18 mv19 mv20 mv21 mv22 mv23 mv24 mv25 mv26 mv27 mv28 mv29 mv30 : Value} {tf tpf tnf : Nat → Int32} {z2 : Nat → Nat} {mo2 : Nat → Nat → m3} {co2 : Nat → Nat → fF} {x9 y9 w9 : fF} (hn : n ≤ 12) (hk : ∀ i, i < n → tf i = nI (z2 i) ∧ z2 i ≤ 1000 ∧ ∀ k, k < z2 i → tpf (1000 * i + k) = nI (pN (mo2 i k).1 (mo2 i k).2.1 (mo2 i k).2.2) ∧ tnf (1000 * i + k) = nI (co2 i k).val ∧ e9 (mo2 i k)) : ∀ (k : Nat) (i : Nat) (S : mp_M) (H : Heap) (locs : List Loc) (ls : Array Slot), i + k = n → (∀ j, j < i → sm (z2 j) (fun k => co2 j k * ev x9 y9 w9 (mo2 j k)) = 0) → S o = some (2000, .inr (10, [mv0, mv1, mv2, mv3, mv4, .int (nI n), .ref te, .ref tp, .ref tn, mv9, mv10, mv11, mv12, mv13, mv14, mv15, mv16, mv17, mv18, mv19, mv20, mv21, mv22, mv23, mv24, mv25, mv26, mv27, mv28, mv29, mv30])) → S te = some (2002, .inl ((g 0), 12, .inl tf)) → S tp = some (2003, .inl ((g 0), 12000, .inl tpf)) → S tn = some (2004, .inl ((g 0), 12000, .inl tnf)) → (∀ b t e9, B b = some (t, e9) → S b = some (t, e9)) → mp_I D classes A s.heap S H locs → lv_has ls 7 [(4, .int (nI i)), (3, .int (nI (w9).val)), (2, .int (nI (y9).val)), (1, .int (nI (x9).val)), (0, .ref o)] → (∀ (S : mp_M) (H : Heap) (locs : List Loc) (ls : Array Slot), (∀ j, j < n → sm (z2 j) (fun k => co2 j k * ev x9 y9 w9 (mo2 j k)) = 0) → S o = some (2000, .inr (10, [mv0, mv1, mv2, mv3, mv4, .int (nI n), .ref te, .ref tp, .ref tn, mv9, mv10, mv11, mv12, mv13, mv14, mv15, mv16, mv17, mv18, mv19, mv20, mv21, mv22, mv23, mv24, mv25, mv26, mv27, mv28, mv29, mv30])) → S te = some (2002, .inl ((g 0), 12, .inl tf)) → S tp = some (2003, .inl ((g 0), 12000, .inl tpf)) → S tn = some (2004, .inl ((g 0), 12000, .inl tnf)) → (∀ b t e9, B b = some (t, e9) → S b = some (t, e9)) → mp_I D classes A s.heap S H locs → lv_has ls 7 [(4, .int (nI n)), (3, .int (nI (w9).val)), (2, .int (nI (y9).val)), (1, .int (nI (x9).val)), (0, .ref o)] → W p l e R s m args below meth c H locs cells slots Q (F0 m 91 ls [])) → (∀ (S : mp_M) (H : Heap) (locs : List Loc) (ls : Array Slot), (¬ (∀ j, j < n → sm (z2 j) (fun k => co2 j k * ev x9 y9 w9 (mo2 j k)) = 0)) → S o = some (2000, .inr (10, [mv0, mv1, mv2, mv3, mv4, .int (nI n), .ref te, .ref tp, .ref tn, mv9, mv10, mv11, mv12, mv13, mv14, mv15, mv16, mv17, mv18, mv19, mv20, mv21, mv22, mv23, mv24, mv25, mv26, mv27, mv28, mv29, mv30])) → S te = some (2002, .inl ((g 0), 12, .inl tf)) → S tp = some (2003, .inl ((g 0), 12000, .inl tpf)) → S tn = some (2004, .inl ((g 0), 12000, .inl tnf)) → (∀ b t e9, B b = some (t, e9) → S b = some (t, e9)) → mp_I D classes A s.heap S H locs → lv_has ls 7 [(0, .ref o)] → W p l e R s m args below meth c H locs cells slots Q (F0 m 83 ls [])) → W p l e R s m args below meth c H locs cells slots Q (F0 m 3 ls []) := by
  intro k
  induction k with
  | zero =>
    intro i S H locs ls hi hz h_o h_te h_tp h_tn hfr hI hl kx ky
    refine lv_iload hx hb d_M_areAll_3 (lv_at hl 0 rfl) ?_
    refine lv_aload_n hx hb d_M_areAll_5 rfl (lv_at hl 4 rfl) ?_
    refine mp_get (C := R_M) (T := F_M) (N := 31) (v := .int (nI n)) hx hb hg i_M hown hK.va hI h_o rfl 5 (by decide) (hg _ q_809) (fun _ h9 => h9) rfl d_M_areAll_6 ?_
    refine lv_icmp_ge (tgt := 91) hx hb d_M_areAll_9 (by decide) (fun _ => ?_) (fun h9 => absurd ((nI_leI (by omega) (by omega)).mpr (by omega)) h9)
    obtain rfl : i = n := by omega
    exact kx S H locs ls hz h_o h_te h_tp h_tn hfr hI (lv_sub hl [0, 1, 2, 3, 4] rfl)
  | succ k ih =>
    intro i S H locs ls hi hz h_o h_te h_tp h_tn hfr hI hl kx ky
    refine lv_iload hx hb d_M_areAll_3 (lv_at hl 0 rfl) ?_
    refine lv_aload_n hx hb d_M_areAll_5 rfl (lv_at hl 4 rfl) ?_
    refine mp_get (C := R_M) (T := F_M) (N := 31) (v := .int (nI n)) hx hb hg i_M hown hK.va hI h_o rfl 5 (by decide) (hg _ q_809) (fun _ h9 => h9) rfl d_M_areAll_6 ?_
    refine lv_icmp_ge (tgt := 91) hx hb d_M_areAll_9 (by decide) (fun h9 => absurd h9 (by rw [nI_leI (by omega) (by omega)]; omega)) (fun _ => ?_)
    refine lv_iconst (v := nI 0) hx hb d_M_areAll_12 (by decide) ?_
    refine lv_istore (lv' := [(5, .int (nI 0)), (4, .int (nI i)), (3, .int (nI (w9).val)), (2, .int (nI (y9).val)), (1, .int (nI (x9).val)), (0, .ref o)]) hx hb d_M_areAll_13 hl (by decide) rfl (fun ls hl => ?_)
    refine lv_sipush (v := nI 1000) hx hb d_M_areAll_15 (by decide) ?_
    refine lv_iload hx hb d_M_areAll_18 (lv_at hl 1 rfl) ?_
    refine lv_imul hx hb d_M_areAll_20 ?_
    refine lv_topi (fun v1 ev1 => ?_)
    obtain rfl : v1 = nI (1000 * i) := ev1.trans (pk_mul _ _)
    refine lv_istore (lv' := [(6, .int (nI (1000 * i))), (5, .int (nI 0)), (4, .int (nI i)), (3, .int (nI (w9).val)), (2, .int (nI (y9).val)), (1, .int (nI (x9).val)), (0, .ref o)]) hx hb d_M_areAll_21 hl (by decide) rfl (fun ls hl => ?_)
    refine lp_M_all1 (B := B) (o := o) (te := te) (tp := tp) (tn := tn) (n := n) (mv0 := mv0) (mv1 := mv1) (mv2 := mv2) (mv3 := mv3) (mv4 := mv4) (mv9 := mv9) (mv10 := mv10) (mv11 := mv11) (mv12 := mv12) (mv13 := mv13) (mv14 := mv14) (mv15 := mv15) (mv16 := mv16) (mv17 := mv17) (mv18 := mv18) (mv19 := mv19) (mv20 := mv20) (mv21 := mv21) (mv22 := mv22) (mv23 := mv23) (mv24 := mv24) (mv25 := mv25) (mv26 := mv26) (mv27 := mv27) (mv28 := mv28) (mv29 := mv29) (mv30 := mv30) (tf := tf) (tpf := tpf) (tnf := tnf) (z2 := z2) (mo2 := mo2) (co2 := co2) (x9 := x9) (y9 := y9) (w9 := w9) (f := i) hx hb hml hg hown hK (Nat.le_trans (Nat.le_of_ble_eq_true rfl) hRf) (Nat.le_trans (Nat.le_of_ble_eq_true rfl) hRl) (by omega) (by omega) hn hk (by omega) (z2 i) 0 0 S H _ ls (by omega) rfl h_o h_te h_tp h_tn hfr hI (lv_sub hl [0, 1, 2, 3, 4, 5, 6] rfl) (fun v9 S2 H3 locs ls hv j_o j_te j_tp j_tn hfr hI hl => ?_)
    refine lv_iload hx hb d_M_areAll_78 (lv_at hl 1 rfl) ?_
    refine lv_if_eq (tgt := 85) hx hb d_M_areAll_80 (by decide) (fun c1 => ?_) (fun c1 => ?_)
    · rw [zI_eq (by omega)] at c1
      refine lv_iinc (v := nI (i + 1)) (lv' := [(4, .int (nI (i + 1))), (6, .int (nI (1000 * i + (z2 i)))), (5, .int (nI (v9).val)), (3, .int (nI (w9).val)), (2, .int (nI (y9).val)), (1, .int (nI (x9).val)), (0, .ref o)]) hx hb d_M_areAll_85 hl (k := 2) rfl (nI_1 _) (by decide) rfl (fun ls hl => ?_)
      refine lv_goto (tgt := 3) hx hb d_M_areAll_88 (by decide) ?_
      exact ih (i + 1) S2 H3 locs ls (by omega) (fun j hj => by by_cases e9 : j = i; exact (by rw [e9, ← hv]; exact Fin.ext c1); exact hz j (by omega)) j_o j_te j_tp j_tn hfr hI (lv_sub hl [0, 3, 4, 5, 6] rfl) kx ky
    · rw [zI_eq (by omega)] at c1
      exact ky S2 H3 locs ls (fun q9 => c1 (by rw [hv, q9 i (by omega)]; rfl)) j_o j_te j_tp j_tn hfr hI (lv_sub hl [6] rfl)
set_option maxHeartbeats 4000000 in
set_option maxRecDepth 100000 in
/-- whether all are 0 there, in the reference -/
theorem c_M_areAll (l : Launch) (D : mp_G) (g : Nat → ClassId) (S : mp_M) (sz : Nat) (o te tp tn n : Nat) (mv0 mv1 mv2 mv3 mv4 mv9 mv10 mv11 mv12 mv13 mv14 mv15 mv16 mv17 mv18 mv19 mv20 mv21 mv22 mv23 mv24 mv25 mv26 mv27 mv28 mv29 mv30 : Value) (tf tpf tnf : Nat → Int32) (z2 : Nat → Nat) (mo2 : Nat → Nat → m3) (co2 : Nat → Nat → fF) (x9 y9 w9 : fF) (h_o : S o = some (2000, .inr (10, [mv0, mv1, mv2, mv3, mv4, .int (nI n), .ref te, .ref tp, .ref tn, mv9, mv10, mv11, mv12, mv13, mv14, mv15, mv16, mv17, mv18, mv19, mv20, mv21, mv22, mv23, mv24, mv25, mv26, mv27, mv28, mv29, mv30]))) (h_te : S te = some (2002, .inl ((g 0), 12, .inl tf))) (h_tp : S tp = some (2003, .inl ((g 0), 12000, .inl tpf))) (h_tn : S tn = some (2004, .inl ((g 0), 12000, .inl tnf))) (hn : n ≤ 12) (hk : ∀ i, i < n → tf i = nI (z2 i) ∧ z2 i ≤ 1000 ∧ ∀ k, k < z2 i → tpf (1000 * i + k) = nI (pN (mo2 i k).1 (mo2 i k).2.1 (mo2 i k).2.2) ∧ tnf (1000 * i + k) = nI (co2 i k).val ∧ e9 (mo2 i k)) : Met l y_M_areAll w_M_areAll ({ frames := 3, cells := 0, slots := 0, locals := 67 }) (va_Pc [.ref o, .int (nI (x9).val), .int (nI (y9).val), .int (nI (w9).val)] (mp_B0 D classes (tys g) S sz)) (va_Qi (fun (r : Int32) (S1 : mp_M) => ((r = 1 ∧ ∀ j, j < n → sm (z2 j) (fun k => co2 j k * ev x9 y9 w9 (mo2 j k)) = 0) ∨ (r = 0 ∧ ¬ (∀ j, j < n → sm (z2 j) (fun k => co2 j k * ev x9 y9 w9 (mo2 j k)) = 0))) ∧ (∀ b t e9, S b = some (t, e9) → S1 b = some (t, e9))) (mp_B1 D classes S sz) (mp_A S sz)) 0 0 (mp_A S sz) := by
  refine Met.ofW (cc := b_M_areAll) (maxL := 7) (ret := (some .boolean)) (by decide) rfl ?_
  intro p e s m args below meth c s₁ B hml hv
  obtain ⟨rfl, hsz, hH, hK⟩ := hv
  have hx := B.exec
  have hb := B.bytes
  have hr := B.returns
  have hts := atoms_spec (ws := w_M_areAll) B.pre
  have hg : ∀ w ∈ gw, w.before _ s = true := fun w h => hts w (List.mem_cons_of_mem _ h)
  have hown : s.vm.findClass R_M = some m.cls := findClass_of_methodNamed B.named
  have hlocks := B.notSynchronized
  subst hsz
  have hI := mp_I.start hH
  have hl := lv_entry ([.ref o, .int (nI (x9).val), .int (nI (y9).val), .int (nI (w9).val)]) (n := 7) (Nat.le_of_ble_eq_true rfl)
  rw [lg_entry_eq]
  generalize (lg_sl ([.ref o, .int (nI (x9).val), .int (nI (y9).val), .int (nI (w9).val)]) ++ List.replicate (7 - (lg_sl ([.ref o, .int (nI (x9).val), .int (nI (y9).val), .int (nI (w9).val)])).length) Slot.unset).toArray = ls at hl ⊢
  have hl : lv_has ls 7 [(0, .ref o), (1, .int (nI (x9).val)), (2, .int (nI (y9).val)), (3, .int (nI (w9).val))] := hl
  have hfr : ∀ b t e9, S b = some (t, e9) → S b = some (t, e9) := fun _ _ _ h9 => h9
  refine lv_iconst (v := nI 0) hx hb d_M_areAll_0 (by decide) ?_
  refine lv_istore (lv' := [(4, .int (nI 0)), (0, .ref o), (1, .int (nI (x9).val)), (2, .int (nI (y9).val)), (3, .int (nI (w9).val))]) hx hb d_M_areAll_1 hl (by decide) rfl (fun ls hl => ?_)
  refine lp_M_all2 (B := S) (o := o) (te := te) (tp := tp) (tn := tn) (n := n) (mv0 := mv0) (mv1 := mv1) (mv2 := mv2) (mv3 := mv3) (mv4 := mv4) (mv9 := mv9) (mv10 := mv10) (mv11 := mv11) (mv12 := mv12) (mv13 := mv13) (mv14 := mv14) (mv15 := mv15) (mv16 := mv16) (mv17 := mv17) (mv18 := mv18) (mv19 := mv19) (mv20 := mv20) (mv21 := mv21) (mv22 := mv22) (mv23 := mv23) (mv24 := mv24) (mv25 := mv25) (mv26 := mv26) (mv27 := mv27) (mv28 := mv28) (mv29 := mv29) (mv30 := mv30) (tf := tf) (tpf := tpf) (tnf := tnf) (z2 := z2) (mo2 := mo2) (co2 := co2) (x9 := x9) (y9 := y9) (w9 := w9) hx hb hml hg hown hK (Nat.le_of_ble_eq_true rfl) (Nat.le_of_ble_eq_true rfl) (Nat.le_of_ble_eq_true rfl) (Nat.le_of_ble_eq_true rfl) hn hk n 0 S s.heap _ ls (by omega) (fun j hj => absurd hj (Nat.not_lt_zero j)) h_o h_te h_tp h_tn hfr hI (lv_sub hl [0, 4, 3, 2, 1] rfl) (fun S1 H2 locs ls hz j_o j_te j_tp j_tn hfr hI hl => ?_) (fun S9 H9 locs ls hno j_o j_te j_tp j_tn hfr hI hl => ?_)
  · refine lv_iconst (v := nI 1) hx hb d_M_areAll_91 (by decide) ?_
    refine mp_zret hx hb hr hlocks hI (Nat.le_of_ble_eq_true rfl) (Nat.le_of_ble_eq_true rfl) ?_ (by decide) d_M_areAll_92
    exact ⟨Or.inl ⟨rfl, hz⟩, hfr⟩
  · refine lv_iconst (v := nI 0) hx hb d_M_areAll_83 (by decide) ?_
    refine mp_zret hx hb hr hlocks hI (Nat.le_of_ble_eq_true rfl) (Nat.le_of_ble_eq_true rfl) ?_ (by decide) d_M_areAll_84
    exact ⟨Or.inr ⟨rfl, hno⟩, hfr⟩
