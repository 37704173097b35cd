/-! The reference asks each two heads. -/
theorem d_M_isBasis_10 : decode b_M_isBasis 10 = .ok (.iload_n 1, 1) := by decide +kernel
theorem d_M_isBasis_11 : decode b_M_isBasis 11 = .ok (.iconst 1, 1) := by decide +kernel
theorem d_M_isBasis_12 : decode b_M_isBasis 12 = .ok (.iadd, 1) := by decide +kernel
theorem d_M_isBasis_13 : decode b_M_isBasis 13 = .ok (.istore_n 2, 1) := by decide +kernel
theorem d_M_isBasis_14 : decode b_M_isBasis 14 = .ok (.iload_n 2, 1) := by decide +kernel
theorem d_M_isBasis_15 : decode b_M_isBasis 15 = .ok (.aload_n 0, 1) := by decide +kernel
theorem d_M_isBasis_16 : decode b_M_isBasis 16 = .ok (.getfield 125, 3) := by decide +kernel
theorem d_M_isBasis_19 : decode b_M_isBasis 19 = .ok (.if_icmp .ge 20, 3) := by decide +kernel
theorem d_M_isBasis_22 : decode b_M_isBasis 22 = .ok (.aload_n 0, 1) := by decide +kernel
theorem d_M_isBasis_23 : decode b_M_isBasis 23 = .ok (.iload_n 1, 1) := by decide +kernel
theorem d_M_isBasis_24 : decode b_M_isBasis 24 = .ok (.iload_n 2, 1) := by decide +kernel
theorem d_M_isBasis_25 : decode b_M_isBasis 25 = .ok (.invokevirtual 161, 3) := by decide +kernel
theorem d_M_isBasis_28 : decode b_M_isBasis 28 = .ok (.ifCond .ne 5, 3) := by decide +kernel
theorem d_M_isBasis_31 : decode b_M_isBasis 31 = .ok (.iconst 0, 1) := by decide +kernel
theorem d_M_isBasis_32 : decode b_M_isBasis 32 = .ok (.ireturn, 1) := by decide +kernel
theorem d_M_isBasis_33 : decode b_M_isBasis 33 = .ok (.iinc 2 1, 3) := by decide +kernel
theorem d_M_isBasis_36 : decode b_M_isBasis 36 = .ok (.goto (-22), 3) := by decide +kernel
theorem d_M_isBasis_39 : decode b_M_isBasis 39 = .ok (.iinc 1 1, 3) := by decide +kernel
theorem d_M_isBasis_42 : decode b_M_isBasis 42 = .ok (.goto (-40), 3) := by decide +kernel
set_option maxHeartbeats 4000000 in
set_option maxRecDepth 100000 in
theorem lp_M_basI {p : Program} {l : Launch} {e : Env} {R : Room} {s : State} {m : MethodId} {args : Array Value} {below : List Frame} {meth : Method} {c : Code} {Q : State → Prop} {D : mp_G} {g : Nat → ClassId} {A : Nat → Prop} {cells slots : Nat} (hx : p.tables.exec = Jvm.exec) (hb : c.code = b_M_isBasis) (hml : c.maxLocals = 3) (hg : ∀ w ∈ gw, w.before args s = true) (hown : s.vm.findClass R_M = some m.cls) (hK : mp_K D classes (tys g) s) (hRf : 5 ≤ R.frames) (hRl : 120 ≤ R.locals) (hRc : cells ≤ R.cells) (hRs : slots ≤ R.slots) {B : mp_M} {o cu te tp tn hd hv9 n : Nat} {mv0 mv1 mv2 mv3 mv4 mv12 mv13 mv14 mv15 mv16 mv17 mv18 mv19 mv20 mv21 mv22 mv23 mv24 mv25 mv26 mv27 mv28 mv29 mv30 : Value} {tf tpf tnf hf hif : Nat → Int32} {h : Nat → m3} {z : Nat → Nat} {mo : Nat → Nat → m3} {co : Nat → Nat → fF} {z2 : Nat → Nat} {mo2 : Nat → Nat → m3} {co2 : Nat → Nat → fF} {ld : Nat → fF} {i : Nat} (hM : lsM n h z mo co z2 mo2 co2 ld tf tpf tnf hf hif) (hi9 : i < n) : ∀ (k : Nat) (jj : Nat) (CU : Nat → fF) (S : mp_M) (H : Heap) (locs : List Loc) (ls : Array Slot), i < jj ∧ jj + k = n → (trn 21952 CU) → (∀ j9, i < j9 → j9 < jj → sh3 (h i) (h j9) → pvN n h z mo co i j9) → S o = some (2000, .inr (10, [mv0, mv1, mv2, mv3, mv4, .int (nI n), .ref te, .ref tp, .ref tn, .ref hd, .ref hv9, .ref cu, mv12, mv13, mv14, mv15, mv16, mv17, mv18, mv19, mv20, mv21, mv22, mv23, mv24, mv25, mv26, mv27, mv28, mv29, mv30])) → S cu = some (2007, .inl ((g 0), 21952, .inl (fun j => nI (CU j).val))) → S te = some (2002, .inl ((g 0), 12, .inl tf)) → S tp = some (2003, .inl ((g 0), 12000, .inl tpf)) → S tn = some (2004, .inl ((g 0), 12000, .inl tnf)) → S hd = some (2005, .inl ((g 0), 12, .inl hf)) → S hv9 = some (2006, .inl ((g 0), 12, .inl hif)) → (∀ b t e9, B b = some (t, e9) → (t ≠ 2007) → S b = some (t, e9)) → mp_I D classes A s.heap S H locs → lv_has ls 3 [(2, .int (nI jj)), (1, .int (nI i)), (0, .ref o)] → (∀ (CU : Nat → fF) (S : mp_M) (H : Heap) (locs : List Loc) (ls : Array Slot), (trn 21952 CU) → (∀ j9, i < j9 → j9 < n → sh3 (h i) (h j9) → pvN n h z mo co i j9) → S o = some (2000, .inr (10, [mv0, mv1, mv2, mv3, mv4, .int (nI n), .ref te, .ref tp, .ref tn, .ref hd, .ref hv9, .ref cu, mv12, mv13, mv14, mv15, mv16, mv17, mv18, mv19, mv20, mv21, mv22, mv23, mv24, mv25, mv26, mv27, mv28, mv29, mv30])) → S cu = some (2007, .inl ((g 0), 21952, .inl (fun j => nI (CU j).val))) → S te = some (2002, .inl ((g 0), 12, .inl tf)) → S tp = some (2003, .inl ((g 0), 12000, .inl tpf)) → S tn = some (2004, .inl ((g 0), 12000, .inl tnf)) → S hd = some (2005, .inl ((g 0), 12, .inl hf)) → S hv9 = some (2006, .inl ((g 0), 12, .inl hif)) → (∀ b t e9, B b = some (t, e9) → (t ≠ 2007) → S b = some (t, e9)) → mp_I D classes A s.heap S H locs → lv_has ls 3 [(2, .int (nI n)), (1, .int (nI i)), (0, .ref o)] → W p l e R s m args below meth c H locs cells slots Q (F0 m 39 ls [])) → (∀ (CU : Nat → fF) (S : mp_M) (H : Heap) (locs : List Loc) (ls : Array Slot), (trn 21952 CU) → ((¬ bas n h z mo co)) → S o = some (2000, .inr (10, [mv0, mv1, mv2, mv3, mv4, .int (nI n), .ref te, .ref tp, .ref tn, .ref hd, .ref hv9, .ref cu, mv12, mv13, mv14, mv15, mv16, mv17, mv18, mv19, mv20, mv21, mv22, mv23, mv24, mv25, mv26, mv27, mv28, mv29, mv30])) → S cu = some (2007, .inl ((g 0), 21952, .inl (fun j => nI (CU j).val))) → S te = some (2002, .inl ((g 0), 12, .inl tf)) → S tp = some (2003, .inl ((g 0), 12000, .inl tpf)) → S tn = some (2004, .inl ((g 0), 12000, .inl tnf)) → S hd = some (2005, .inl ((g 0), 12, .inl hf)) → S hv9 = some (2006, .inl ((g 0), 12, .inl hif)) → (∀ b t e9, B b = some (t, e9) → (t ≠ 2007) → S b = some (t, e9)) → mp_I D classes A s.heap S H locs → lv_has ls 3 [(0, .ref o)] → W p l e R s m args below meth c H locs cells slots Q (F0 m 31 ls [])) → W p l e R s m args below meth c H locs cells slots Q (F0 m 14 ls []) := by
  intro k
  induction k with
  | zero =>
    intro jj CU S H locs ls hi tC hdn h_o h_cu h_te h_tp h_tn h_hd h_hv9 hfr hI hl kx ky
    have hn12 := hM.2.1
    obtain ⟨hi8, hi⟩ := hi
    refine lv_iload_n hx hb d_M_isBasis_14 rfl (lv_at hl 0 rfl) ?_
    refine lv_aload_n hx hb d_M_isBasis_15 rfl (lv_at hl 2 rfl) ?_
    refine mp_get (C := R_M) (T := F_M) (N := 31) (v := .int (nI n)) hx hb hg i_M hown hK.va hI h_o rfl 5 (by decide) (hg _ q_809) (fun _ h9 => h9) rfl d_M_isBasis_16 ?_
    refine lv_icmp_ge (tgt := 39) hx hb d_M_isBasis_19 (by decide) (fun _ => ?_) (fun h9 => absurd ((nI_leI (by omega) (by omega)).mpr (by omega)) h9)
    obtain rfl : jj = n := by omega
    exact kx CU S H locs ls tC hdn h_o h_cu h_te h_tp h_tn h_hd h_hv9 hfr hI (lv_sub hl [0, 1, 2] rfl)
  | succ k ih =>
    intro jj CU S H locs ls hi tC hdn h_o h_cu h_te h_tp h_tn h_hd h_hv9 hfr hI hl kx ky
    have hn12 := hM.2.1
    obtain ⟨hi8, hi⟩ := hi
    refine lv_iload_n hx hb d_M_isBasis_14 rfl (lv_at hl 0 rfl) ?_
    refine lv_aload_n hx hb d_M_isBasis_15 rfl (lv_at hl 2 rfl) ?_
    refine mp_get (C := R_M) (T := F_M) (N := 31) (v := .int (nI n)) hx hb hg i_M hown hK.va hI h_o rfl 5 (by decide) (hg _ q_809) (fun _ h9 => h9) rfl d_M_isBasis_16 ?_
    refine lv_icmp_ge (tgt := 39) hx hb d_M_isBasis_19 (by decide) (fun h9 => absurd h9 (by rw [nI_leI (by omega) (by omega)]; omega)) (fun _ => ?_)
    refine lv_aload_n hx hb d_M_isBasis_22 rfl (lv_at hl 2 rfl) ?_
    refine lv_iload_n hx hb d_M_isBasis_23 rfl (lv_at hl 1 rfl) ?_
    refine lv_iload_n hx hb d_M_isBasis_24 rfl (lv_at hl 0 rfl) ?_
    refine mp_calli hI (va_runV (As := [.int (nI i), .int (nI jj)]) (rest := []) ⟨hx, hb, hml, hown, hg⟩ (c_M_meets l D g S _ o cu te tp tn hd hv9 n mv0 mv1 mv2 mv3 mv4 mv12 mv13 mv14 mv15 mv16 mv17 mv18 mv19 mv20 mv21 mv22 mv23 mv24 mv25 mv26 mv27 mv28 mv29 mv30 tf tpf tnf hf hif h z mo co z2 mo2 co2 ld i jj CU h_o h_cu h_te h_tp h_tn h_hd h_hv9 hM hi9 (by omega) tC) ⟨(callB_of 2 hg (wd_goodG q_970) rfl rfl rfl (hg _ q_5) (hg _ q_967) (by decide +kernel) ⟨Nat.le_trans (Nat.le_of_ble_eq_true rfl) hRf, Nat.le_trans (Nat.le_of_ble_eq_true rfl) hRl⟩), hg _ q_969, hg _ qs_29⟩ (mp_preV (C := R_M) (T := F_M) hI hK h_o rfl [.int (nI i), .int (nI jj)]) rfl rfl hl.1 rfl (lv_room (Nat.le_of_ble_eq_true rfl)) d_M_isBasis_25 ⟨by omega, by omega⟩) (fun r4 S1 H2 locs p_3 hI => ?_)
    obtain ⟨CU2, q_cu, tC2, hres, fq⟩ := p_3
    have h_o : S1 o = some (2000, .inr (10, [mv0, mv1, mv2, mv3, mv4, .int (nI n), .ref te, .ref tp, .ref tn, .ref hd, .ref hv9, .ref cu, mv12, mv13, mv14, mv15, mv16, mv17, mv18, mv19, mv20, mv21, mv22, mv23, mv24, mv25, mv26, mv27, mv28, mv29, mv30])) := fq o _ _ h_o (by omega)
    have h_te : S1 te = some (2002, .inl ((g 0), 12, .inl tf)) := fq te _ _ h_te (by omega)
    have h_tp : S1 tp = some (2003, .inl ((g 0), 12000, .inl tpf)) := fq tp _ _ h_tp (by omega)
    have h_tn : S1 tn = some (2004, .inl ((g 0), 12000, .inl tnf)) := fq tn _ _ h_tn (by omega)
    have h_hd : S1 hd = some (2005, .inl ((g 0), 12, .inl hf)) := fq hd _ _ h_hd (by omega)
    have h_hv9 : S1 hv9 = some (2006, .inl ((g 0), 12, .inl hif)) := fq hv9 _ _ h_hv9 (by omega)
    have hfr : ∀ b t e9, B b = some (t, e9) → (t ≠ 2007) → S1 b = some (t, e9) := fun b t e9 h9 k0 => by have h8 := hfr b t e9 h9 k0; exact fq b _ _ h8 (by omega)
    have h_cu := q_cu
    rcases hres with ⟨rfl, hpv⟩ | ⟨rfl, hsh, hpv⟩
    · refine lv_if_ne (tgt := 33) hx hb d_M_isBasis_28 (by decide) (fun _ => ?_) (fun h9 => absurd h9 (by decide))
      refine lv_iinc (v := nI (jj + 1)) (lv' := [(2, .int (nI (jj + 1))), (1, .int (nI i)), (0, .ref o)]) hx hb d_M_isBasis_33 hl (k := 0) rfl (nI_1 _) (by decide) rfl (fun ls hl => ?_)
      refine lv_goto (tgt := 14) hx hb d_M_isBasis_36 (by decide) ?_
      exact ih (jj + 1) CU2 S1 H2 locs ls ⟨by omega, by omega⟩ tC2 (fun j9 h1 h2 h3 => by by_cases e9 : j9 = jj; exact (by rw [e9]; exact hpv (by rw [← e9]; exact h3)); exact hdn j9 h1 (by omega) h3) h_o h_cu h_te h_tp h_tn h_hd h_hv9 hfr hI (lv_sub hl [0, 1, 2] rfl) kx ky
    · refine lv_if_ne (tgt := 33) hx hb d_M_isBasis_28 (by decide) (fun h9 => absurd h9 (by decide)) (fun _ => ?_)
      exact ky CU2 S1 H2 locs ls tC2 (fun q9 => hpv (q9 i jj (by omega) (by omega) hsh)) h_o h_cu h_te h_tp h_tn h_hd h_hv9 hfr hI (lv_sub hl [2] rfl)
set_option maxHeartbeats 4000000 in
set_option maxRecDepth 100000 in
theorem lp_M_basO {p : Program} {l : Launch} {e : Env} {R : Room} {s : State} {m : MethodId} {args : Array Value} {below : List Frame} {meth : Method} {c : Code} {Q : State → Prop} {D : mp_G} {g : Nat → ClassId} {A : Nat → Prop} {cells slots : Nat} (hx : p.tables.exec = Jvm.exec) (hb : c.code = b_M_isBasis) (hml : c.maxLocals = 3) (hg : ∀ w ∈ gw, w.before args s = true) (hown : s.vm.findClass R_M = some m.cls) (hK : mp_K D classes (tys g) s) (hRf : 5 ≤ R.frames) (hRl : 120 ≤ R.locals) (hRc : cells ≤ R.cells) (hRs : slots ≤ R.slots) {B : mp_M} {o cu te tp tn hd hv9 n : Nat} {mv0 mv1 mv2 mv3 mv4 mv12 mv13 mv14 mv15 mv16 mv17 mv18 mv19 mv20 mv21 mv22 mv23 mv24 mv25 mv26 mv27 mv28 mv29 mv30 : Value} {tf tpf tnf hf hif : Nat → Int32} {h : Nat → m3} {z : Nat → Nat} {mo : Nat → Nat → m3} {co : Nat → Nat → fF} {z2 : Nat → Nat} {mo2 : Nat → Nat → m3} {co2 : Nat → Nat → fF} {ld : Nat → fF} (hM : lsM n h z mo co z2 mo2 co2 ld tf tpf tnf hf hif) : ∀ (k : Nat) (i : Nat) (CU : Nat → fF) (S : mp_M) (H : Heap) (locs : List Loc) (ls : Array Slot), i + k = n → (trn 21952 CU) → (∀ a9 b9, a9 < b9 → b9 < n → a9 < i → sh3 (h a9) (h b9) → pvN n h z mo co a9 b9) → S o = some (2000, .inr (10, [mv0, mv1, mv2, mv3, mv4, .int (nI n), .ref te, .ref tp, .ref tn, .ref hd, .ref hv9, .ref cu, mv12, mv13, mv14, mv15, mv16, mv17, mv18, mv19, mv20, mv21, mv22, mv23, mv24, mv25, mv26, mv27, mv28, mv29, mv30])) → S cu = some (2007, .inl ((g 0), 21952, .inl (fun j => nI (CU j).val))) → S te = some (2002, .inl ((g 0), 12, .inl tf)) → S tp = some (2003, .inl ((g 0), 12000, .inl tpf)) → S tn = some (2004, .inl ((g 0), 12000, .inl tnf)) → S hd = some (2005, .inl ((g 0), 12, .inl hf)) → S hv9 = some (2006, .inl ((g 0), 12, .inl hif)) → (∀ b t e9, B b = some (t, e9) → (t ≠ 2007) → S b = some (t, e9)) → mp_I D classes A s.heap S H locs → lv_has ls 3 [(1, .int (nI i)), (0, .ref o)] → (∀ (CU : Nat → fF) (S : mp_M) (H : Heap) (locs : List Loc) (ls : Array Slot), (trn 21952 CU) → (∀ a9 b9, a9 < b9 → b9 < n → a9 < n → sh3 (h a9) (h b9) → pvN n h z mo co a9 b9) → S o = some (2000, .inr (10, [mv0, mv1, mv2, mv3, mv4, .int (nI n), .ref te, .ref tp, .ref tn, .ref hd, .ref hv9, .ref cu, mv12, mv13, mv14, mv15, mv16, mv17, mv18, mv19, mv20, mv21, mv22, mv23, mv24, mv25, mv26, mv27, mv28, mv29, mv30])) → S cu = some (2007, .inl ((g 0), 21952, .inl (fun j => nI (CU j).val))) → S te = some (2002, .inl ((g 0), 12, .inl tf)) → S tp = some (2003, .inl ((g 0), 12000, .inl tpf)) → S tn = some (2004, .inl ((g 0), 12000, .inl tnf)) → S hd = some (2005, .inl ((g 0), 12, .inl hf)) → S hv9 = some (2006, .inl ((g 0), 12, .inl hif)) → (∀ b t e9, B b = some (t, e9) → (t ≠ 2007) → S b = some (t, e9)) → mp_I D classes A s.heap S H locs → lv_has ls 3 [(1, .int (nI n)), (0, .ref o)] → W p l e R s m args below meth c H locs cells slots Q (F0 m 45 ls [])) → (∀ (CU : Nat → fF) (S : mp_M) (H : Heap) (locs : List Loc) (ls : Array Slot), (trn 21952 CU) → ((¬ bas n h z mo co)) → S o = some (2000, .inr (10, [mv0, mv1, mv2, mv3, mv4, .int (nI n), .ref te, .ref tp, .ref tn, .ref hd, .ref hv9, .ref cu, mv12, mv13, mv14, mv15, mv16, mv17, mv18, mv19, mv20, mv21, mv22, mv23, mv24, mv25, mv26, mv27, mv28, mv29, mv30])) → S cu = some (2007, .inl ((g 0), 21952, .inl (fun j => nI (CU j).val))) → S te = some (2002, .inl ((g 0), 12, .inl tf)) → S tp = some (2003, .inl ((g 0), 12000, .inl tpf)) → S tn = some (2004, .inl ((g 0), 12000, .inl tnf)) → S hd = some (2005, .inl ((g 0), 12, .inl hf)) → S hv9 = some (2006, .inl ((g 0), 12, .inl hif)) → (∀ b t e9, B b = some (t, e9) → (t ≠ 2007) → S b = some (t, e9)) → mp_I D classes A s.heap S H locs → lv_has ls 3 [(0, .ref o)] → W p l e R s m args below meth c H locs cells slots Q (F0 m 31 ls [])) → W p l e R s m args below meth c H locs cells slots Q (F0 m 2 ls []) := by
  intro k
  induction k with
  | zero =>
    intro i CU S H locs ls hi tC hdo h_o h_cu h_te h_tp h_tn h_hd h_hv9 hfr hI hl kx ky
    have hn12 := hM.2.1
    refine lv_iload_n hx hb d_M_isBasis_2 rfl (lv_at hl 0 rfl) ?_
    refine lv_aload_n hx hb d_M_isBasis_3 rfl (lv_at hl 1 rfl) ?_
    refine mp_get (C := R_M) (T := F_M) (N := 31) (v := .int (nI n)) hx hb hg i_M hown hK.va hI h_o rfl 5 (by decide) (hg _ q_809) (fun _ h9 => h9) rfl d_M_isBasis_4 ?_
    refine lv_icmp_ge (tgt := 45) hx hb d_M_isBasis_7 (by decide) (fun _ => ?_) (fun h9 => absurd ((nI_leI (by omega) (by omega)).mpr (by omega)) h9)
    obtain rfl : i = n := by omega
    exact kx CU S H locs ls tC hdo h_o h_cu h_te h_tp h_tn h_hd h_hv9 hfr hI (lv_sub hl [0, 1] rfl)
  | succ k ih =>
    intro i CU S H locs ls hi tC hdo h_o h_cu h_te h_tp h_tn h_hd h_hv9 hfr hI hl kx ky
    have hn12 := hM.2.1
    refine lv_iload_n hx hb d_M_isBasis_2 rfl (lv_at hl 0 rfl) ?_
    refine lv_aload_n hx hb d_M_isBasis_3 rfl (lv_at hl 1 rfl) ?_
    refine mp_get (C := R_M) (T := F_M) (N := 31) (v := .int (nI n)) hx hb hg i_M hown hK.va hI h_o rfl 5 (by decide) (hg _ q_809) (fun _ h9 => h9) rfl d_M_isBasis_4 ?_
    refine lv_icmp_ge (tgt := 45) hx hb d_M_isBasis_7 (by decide) (fun h9 => absurd h9 (by rw [nI_leI (by omega) (by omega)]; omega)) (fun _ => ?_)
    refine lv_iload_n hx hb d_M_isBasis_10 rfl (lv_at hl 0 rfl) ?_
    refine lv_iconst (v := nI 1) hx hb d_M_isBasis_11 (by decide) ?_
    refine lv_iadd hx hb d_M_isBasis_12 ?_
    refine lv_topi (fun v1 ev1 => ?_)
    obtain rfl : v1 = nI (i + 1) := ev1.trans (nI_add _ _)
    refine lv_istore_n (lv' := [(2, .int (nI (i + 1))), (1, .int (nI i)), (0, .ref o)]) hx hb d_M_isBasis_13 rfl hl (by decide) rfl (fun ls hl => ?_)
    refine lp_M_basI (B := B) (o := o) (cu := cu) (te := te) (tp := tp) (tn := tn) (hd := hd) (hv9 := hv9) (n := n) (mv0 := mv0) (mv1 := mv1) (mv2 := mv2) (mv3 := mv3) (mv4 := mv4) (mv12 := mv12) (mv13 := mv13) (mv14 := mv14) (mv15 := mv15) (mv16 := mv16) (mv17 := mv17) (mv18 := mv18) (mv19 := mv19) (mv20 := mv20) (mv21 := mv21) (mv22 := mv22) (mv23 := mv23) (mv24 := mv24) (mv25 := mv25) (mv26 := mv26) (mv27 := mv27) (mv28 := mv28) (mv29 := mv29) (mv30 := mv30) (tf := tf) (tpf := tpf) (tnf := tnf) (hf := hf) (hif := hif) (h := h) (z := z) (mo := mo) (co := co) (z2 := z2) (mo2 := mo2) (co2 := co2) (ld := ld) (i := i) hx hb hml hg hown hK (Nat.le_trans (Nat.le_of_ble_eq_true rfl) hRf) (Nat.le_trans (Nat.le_of_ble_eq_true rfl) hRl) (by omega) (by omega) hM (by omega) (n - (i + 1)) (i + 1) CU S H _ ls ⟨by omega, by omega⟩ tC (fun j9 h1 h2 => absurd h1 (by omega)) h_o h_cu h_te h_tp h_tn h_hd h_hv9 hfr hI (lv_sub hl [0, 1, 2] rfl) (fun CU2 S2 H3 locs ls tC2 hdi j_o j_cu j_te j_tp j_tn j_hd j_hv9 hfr hI hl => ?_) (fun CU2 S9 H9 locs ls tC2 hno j_o j_cu j_te j_tp j_tn j_hd j_hv9 hfr hI hl => ky CU2 S9 H9 locs ls tC2 hno j_o j_cu j_te j_tp j_tn j_hd j_hv9 hfr hI hl)
    refine lv_iinc (v := nI (i + 1)) (lv' := [(1, .int (nI (i + 1))), (2, .int (nI n)), (0, .ref o)]) hx hb d_M_isBasis_39 hl (k := 1) rfl (nI_1 _) (by decide) rfl (fun ls hl => ?_)
    refine lv_goto (tgt := 2) hx hb d_M_isBasis_42 (by decide) ?_
    exact ih (i + 1) CU2 S2 H3 locs ls (by omega) tC2 (fun a9 b9 h1 h2 h3 h4 => by by_cases e9 : a9 = i; exact (by rw [e9]; exact hdi b9 (by omega) h2 (by rw [← e9]; exact h4)); exact hdo a9 b9 h1 h2 (by omega) h4) j_o j_cu j_te j_tp j_tn j_hd j_hv9 hfr hI (lv_sub hl [0, 2] rfl) kx ky
set_option maxHeartbeats 4000000 in
set_option maxRecDepth 100000 in
/-- whether the list is a basis, in the reference -/
theorem c_M_isBasis (l : Launch) (D : mp_G) (g : Nat → ClassId) (S : mp_M) (sz : Nat) (o cu te tp tn hd hv9 n : Nat) (mv0 mv1 mv2 mv3 mv4 mv12 mv13 mv14 mv15 mv16 mv17 mv18 mv19 mv20 mv21 mv22 mv23 mv24 mv25 mv26 mv27 mv28 mv29 mv30 : Value) (tf tpf tnf hf hif : Nat → Int32) (h : Nat → m3) (z : Nat → Nat) (mo : Nat → Nat → m3) (co : Nat → Nat → fF) (z2 : Nat → Nat) (mo2 : Nat → Nat → m3) (co2 : Nat → Nat → fF) (ld : Nat → fF) (CU : Nat → fF) (h_o : S o = some (2000, .inr (10, [mv0, mv1, mv2, mv3, mv4, .int (nI n), .ref te, .ref tp, .ref tn, .ref hd, .ref hv9, .ref cu, mv12, mv13, mv14, mv15, mv16, mv17, mv18, mv19, mv20, mv21, mv22, mv23, mv24, mv25, mv26, mv27, mv28, mv29, mv30]))) (h_cu : S cu = some (2007, .inl ((g 0), 21952, .inl (fun j => nI (CU j).val)))) (h_te : S te = some (2002, .inl ((g 0), 12, .inl tf))) (h_tp : S tp = some (2003, .inl ((g 0), 12000, .inl tpf))) (h_tn : S tn = some (2004, .inl ((g 0), 12000, .inl tnf))) (h_hd : S hd = some (2005, .inl ((g 0), 12, .inl hf))) (h_hv9 : S hv9 = some (2006, .inl ((g 0), 12, .inl hif))) (hM : lsM n h z mo co z2 mo2 co2 ld tf tpf tnf hf hif) (tC : trn 21952 CU) : Met l y_M_isBasis w_M_isBasis ({ frames := 5, cells := 0, slots := 0, locals := 120 }) (va_Pc [.ref o] (mp_B0 D classes (tys g) S sz)) (va_Qi (fun (r : Int32) (S1 : mp_M) => ∃ CU1 : Nat → fF, S1 cu = some (2007, .inl ((g 0), 21952, .inl (fun j => nI (CU1 j).val))) ∧ trn 21952 CU1 ∧ ((r = 1 ∧ bas n h z mo co) ∨ (r = 0 ∧ ¬ bas n h z mo co)) ∧ (∀ b t e9, S b = some (t, e9) → (t ≠ 2007) → S1 b = some (t, e9))) (mp_B1 D classes S sz) (mp_A S sz)) 0 0 (mp_A S sz) := by
  refine Met.ofW (cc := b_M_isBasis) (maxL := 3) (ret := (some .boolean)) (by decide) rfl ?_
  intro p e s m args below meth c s₁ B hml hv
  obtain ⟨rfl, hsz, hH, hK⟩ := hv
  have hx := B.exec
  have hb := B.bytes
  have hr := B.returns
  have hts := atoms_spec (ws := w_M_isBasis) B.pre
  have hg : ∀ w ∈ gw, w.before _ s = true := fun w h => hts w (List.mem_cons_of_mem _ h)
  have hown : s.vm.findClass R_M = some m.cls := findClass_of_methodNamed B.named
  have hlocks := B.notSynchronized
  subst hsz
  have hI := mp_I.start hH
  have hl := lv_entry ([.ref o]) (n := 3) (Nat.le_of_ble_eq_true rfl)
  rw [lg_entry_eq]
  generalize (lg_sl ([.ref o]) ++ List.replicate (3 - (lg_sl ([.ref o])).length) Slot.unset).toArray = ls at hl ⊢
  have hl : lv_has ls 3 [(0, .ref o)] := hl
  have hfr : ∀ b t e9, S b = some (t, e9) → (t ≠ 2007) → S b = some (t, e9) := fun _ _ _ h9 _ => h9
  have hn12 := hM.2.1
  refine lv_iconst (v := nI 0) hx hb d_M_isBasis_0 (by decide) ?_
  refine lv_istore_n (lv' := [(1, .int (nI 0)), (0, .ref o)]) hx hb d_M_isBasis_1 rfl hl (by decide) rfl (fun ls hl => ?_)
  refine lp_M_basO (B := S) (o := o) (cu := cu) (te := te) (tp := tp) (tn := tn) (hd := hd) (hv9 := hv9) (n := n) (mv0 := mv0) (mv1 := mv1) (mv2 := mv2) (mv3 := mv3) (mv4 := mv4) (mv12 := mv12) (mv13 := mv13) (mv14 := mv14) (mv15 := mv15) (mv16 := mv16) (mv17 := mv17) (mv18 := mv18) (mv19 := mv19) (mv20 := mv20) (mv21 := mv21) (mv22 := mv22) (mv23 := mv23) (mv24 := mv24) (mv25 := mv25) (mv26 := mv26) (mv27 := mv27) (mv28 := mv28) (mv29 := mv29) (mv30 := mv30) (tf := tf) (tpf := tpf) (tnf := tnf) (hf := hf) (hif := hif) (h := h) (z := z) (mo := mo) (co := co) (z2 := z2) (mo2 := mo2) (co2 := co2) (ld := ld) hx hb hml hg hown hK (Nat.le_of_ble_eq_true rfl) (Nat.le_of_ble_eq_true rfl) (Nat.le_of_ble_eq_true rfl) (Nat.le_of_ble_eq_true rfl) hM n 0 CU S s.heap _ ls (by omega) tC (fun a9 b9 h1 h2 h3 => absurd h3 (Nat.not_lt_zero _)) h_o h_cu h_te h_tp h_tn h_hd h_hv9 hfr hI (lv_sub hl [0, 1] rfl) (fun CU1 S1 H2 locs ls tC2 hdo j_o j_cu j_te j_tp j_tn j_hd j_hv9 hfr hI hl => ?_) (fun CU1 S9 H9 locs ls tC2 hno j_o j_cu j_te j_tp j_tn j_hd j_hv9 hfr hI hl => ?_)
  · refine lv_iconst (v := nI 1) hx hb d_M_isBasis_45 (by decide) ?_
    refine mp_zret hx hb hr hlocks hI (Nat.le_of_ble_eq_true rfl) (Nat.le_of_ble_eq_true rfl) ?_ (by decide) d_M_isBasis_46
    exact ⟨CU1, j_cu, tC2, Or.inl ⟨rfl, fun i j h1 h2 h3 => hdo i j h1 h2 (by omega) h3⟩, hfr⟩
  · refine lv_iconst (v := nI 0) hx hb d_M_isBasis_31 (by decide) ?_
    refine mp_zret hx hb hr hlocks hI (Nat.le_of_ble_eq_true rfl) (Nat.le_of_ble_eq_true rfl) ?_ (by decide) d_M_isBasis_32
    exact ⟨CU1, j_cu, tC2, Or.inr ⟨rfl, hno⟩, hfr⟩
