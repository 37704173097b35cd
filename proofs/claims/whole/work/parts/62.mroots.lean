/-- the roots so far: below Q, in order, from the place b on -/
def rmS (f : fF → fF) (Q n b : Nat) (RO : Nat → Nat) : Prop := colS (fun y => f (fc y) = 0) Q n (fun j => RO (b + j))
theorem rm_le {D : Nat} {f : fF → fF} (hf : PM D f) {Q n b : Nat} {RO : Nat → Nat} (h : rmS f Q n b RO) (hQ : Q ≤ 32003) : n ≤ D := by
  obtain ⟨h1, h2, _⟩ := h
  have a1 : ∀ i, i < n → RO (b + i) < Q := fun i hi => (h1 i hi).1
  have a2 : ∀ i j, i < j → j < n → RO (b + i) < RO (b + j) := h2
  refine PM_le hf (N := n) (ρ := fun j => fc (RO (b + j))) (fun i hi => (h1 i hi).2) (fun i j hi hj e => ?_)
  have e1 : RO (b + i) = RO (b + j) := fc_inj (by have := a1 i hi; omega) (by have := a1 j hj; omega) e
  rcases Nat.lt_trichotomy i j with q | q | q
  · have := a2 i j q hj; omega
  · exact q
  · have := a2 j i q hi; omega
theorem rm_yes {f : fF → fF} {Q n b : Nat} {RO : Nat → Nat} (h : rmS f Q n b RO) (hy : f (fc Q) = 0) : rmS f (Q + 1) (n + 1) b (va_up RO (b + n) Q) := colS_yes h hy (fun k hk => mp_un (by omega)) (mp_us _ _ _)
theorem rm_no {f : fF → fF} {Q n b : Nat} {RO : Nat → Nat} (h : rmS f Q n b RO) (hy : ¬ f (fc Q) = 0) : rmS f (Q + 1) n b RO := colS_no h hy
theorem rm_rt {f : fF → fF} {n b : Nat} {RO : Nat → Nat} (h : rmS f 32003 n b RO) : rtS n (fun j => RO (b + j)) f := by
  obtain ⟨h1, h2, h3⟩ := h
  refine ⟨h2, fun y => ⟨?_, fun ⟨hy, hf⟩ => h3 y hy hf⟩⟩
  rintro ⟨j, hj, rfl⟩
  exact h1 j hj
theorem rt_none {cf : Nat → fF} (h : cf 0 = 1) (r : Nat → Nat) : rtS 0 r (fun a => pe 1 cf a) := by
  refine ⟨fun i j _ hj => absurd hj (Nat.not_lt_zero j), fun y => ⟨fun ⟨j, hj, _⟩ => absurd hj (Nat.not_lt_zero j), fun ⟨_, hf⟩ => ?_⟩⟩
  have h2 : pe 1 cf (fc y) = 1 := by rw [pe_s, h]; show sm 0 _ + _ = _; rw [sm_0]; grind
  exact absurd (h2.symm.trans hf) (by decide)

theorem d_M_findRoots_0 : decode b_M_findRoots 0 = .ok (.aload_n 0, 1) := by decide +kernel
theorem d_M_findRoots_1 : decode b_M_findRoots 1 = .ok (.getfield 44, 3) := by decide +kernel
theorem d_M_findRoots_4 : decode b_M_findRoots 4 = .ok (.iload_n 1, 1) := by decide +kernel
theorem d_M_findRoots_5 : decode b_M_findRoots 5 = .ok (.iconst 0, 1) := by decide +kernel
theorem d_M_findRoots_6 : decode b_M_findRoots 6 = .ok (.iastore, 1) := by decide +kernel
theorem d_M_findRoots_7 : decode b_M_findRoots 7 = .ok (.iconst 0, 1) := by decide +kernel
theorem d_M_findRoots_8 : decode b_M_findRoots 8 = .ok (.istore_n 2, 1) := by decide +kernel
theorem d_M_findRoots_9 : decode b_M_findRoots 9 = .ok (.iload_n 2, 1) := by decide +kernel
theorem d_M_findRoots_10 : decode b_M_findRoots 10 = .ok (.sipush 32003, 3) := by decide +kernel
theorem d_M_findRoots_13 : decode b_M_findRoots 13 = .ok (.if_icmp .ge 54, 3) := by decide +kernel
theorem d_M_findRoots_16 : decode b_M_findRoots 16 = .ok (.aload_n 0, 1) := by decide +kernel
theorem d_M_findRoots_17 : decode b_M_findRoots 17 = .ok (.getfield 38, 3) := by decide +kernel
theorem d_M_findRoots_20 : decode b_M_findRoots 20 = .ok (.iload_n 1, 1) := by decide +kernel
theorem d_M_findRoots_21 : decode b_M_findRoots 21 = .ok (.iaload, 1) := by decide +kernel
theorem d_M_findRoots_22 : decode b_M_findRoots 22 = .ok (.ifCond .le 45, 3) := by decide +kernel
theorem d_M_findRoots_25 : decode b_M_findRoots 25 = .ok (.aload_n 0, 1) := by decide +kernel
theorem d_M_findRoots_26 : decode b_M_findRoots 26 = .ok (.iload_n 1, 1) := by decide +kernel
theorem d_M_findRoots_27 : decode b_M_findRoots 27 = .ok (.iload_n 2, 1) := by decide +kernel
theorem d_M_findRoots_28 : decode b_M_findRoots 28 = .ok (.invokevirtual 185, 3) := by decide +kernel
theorem d_M_findRoots_31 : decode b_M_findRoots 31 = .ok (.ifCond .ne 30, 3) := by decide +kernel
theorem d_M_findRoots_34 : decode b_M_findRoots 34 = .ok (.aload_n 0, 1) := by decide +kernel
theorem d_M_findRoots_35 : decode b_M_findRoots 35 = .ok (.getfield 47, 3) := by decide +kernel
theorem d_M_findRoots_38 : decode b_M_findRoots 38 = .ok (.bipush 17, 2) := by decide +kernel
theorem d_M_findRoots_40 : decode b_M_findRoots 40 = .ok (.iload_n 1, 1) := by decide +kernel
theorem d_M_findRoots_41 : decode b_M_findRoots 41 = .ok (.imul, 1) := by decide +kernel
theorem d_M_findRoots_42 : decode b_M_findRoots 42 = .ok (.aload_n 0, 1) := by decide +kernel
theorem d_M_findRoots_43 : decode b_M_findRoots 43 = .ok (.getfield 44, 3) := by decide +kernel
theorem d_M_findRoots_46 : decode b_M_findRoots 46 = .ok (.iload_n 1, 1) := by decide +kernel
theorem d_M_findRoots_47 : decode b_M_findRoots 47 = .ok (.iaload, 1) := by decide +kernel
theorem d_M_findRoots_48 : decode b_M_findRoots 48 = .ok (.iadd, 1) := by decide +kernel
theorem d_M_findRoots_49 : decode b_M_findRoots 49 = .ok (.iload_n 2, 1) := by decide +kernel
theorem d_M_findRoots_50 : decode b_M_findRoots 50 = .ok (.iastore, 1) := by decide +kernel
theorem d_M_findRoots_51 : decode b_M_findRoots 51 = .ok (.aload_n 0, 1) := by decide +kernel
theorem d_M_findRoots_52 : decode b_M_findRoots 52 = .ok (.getfield 44, 3) := by decide +kernel
theorem d_M_findRoots_55 : decode b_M_findRoots 55 = .ok (.iload_n 1, 1) := by decide +kernel
theorem d_M_findRoots_56 : decode b_M_findRoots 56 = .ok (.dup2, 1) := by decide +kernel
theorem d_M_findRoots_57 : decode b_M_findRoots 57 = .ok (.iaload, 1) := by decide +kernel
theorem d_M_findRoots_58 : decode b_M_findRoots 58 = .ok (.iconst 1, 1) := by decide +kernel
theorem d_M_findRoots_59 : decode b_M_findRoots 59 = .ok (.iadd, 1) := by decide +kernel
theorem d_M_findRoots_60 : decode b_M_findRoots 60 = .ok (.iastore, 1) := by decide +kernel
theorem d_M_findRoots_61 : decode b_M_findRoots 61 = .ok (.iinc 2 1, 3) := by decide +kernel
theorem d_M_findRoots_64 : decode b_M_findRoots 64 = .ok (.goto (-55), 3) := by decide +kernel
theorem d_M_findRoots_67 : decode b_M_findRoots 67 = .ok (.return_, 1) := by decide +kernel
set_option maxHeartbeats 4000000 in
set_option maxRecDepth 100000 in
theorem lp_M_findRoots {p : Program} {l : Launch} {e : Env} {R : Room} {s : State} {m : MethodId} {args : Array Value} {below : List Frame} {meth : Method} {c : Code} {Q : State → Prop} {D : mp_G} {g : Nat → ClassId} {A : Nat → Prop} {cells slots : Nat} (hx : p.tables.exec = Jvm.exec) (hb : c.code = b_M_findRoots) (hml : c.maxLocals = 3) (hg : ∀ w ∈ gw, w.before args s = true) (hown : s.vm.findClass R_M = some m.cls) (hK : mp_K D classes (tys g) s) (hRf : 2 ≤ R.frames) (hRl : 45 ≤ R.locals) (hRc : cells ≤ R.cells) (hRs : slots ≤ R.slots) {B : mp_M} {o dg le rm ro l9 D9 : Nat} {mv0 mv1 mv2 mv3 mv4 mv5 mv6 mv7 mv8 mv9 mv10 mv11 mv12 mv13 mv14 mv15 mv16 mv21 mv22 mv23 mv24 mv25 mv26 mv27 mv28 mv29 mv30 : Value} {dgf lef : Nat → Int32} {cf : Nat → fF} {rmf : Nat → Nat} {R0 : Nat → Nat} (hl9 : l9 < 3) (hD : D9 ≤ 16) (hdg : dgf l9 = nI D9) (hle : ∀ k, k < D9 + 1 → lef (17 * l9 + k) = nI (cf k).val) (hcf : cf D9 = 1) : ∀ (k : Nat) (i : Nat) (n9 : Nat) (RO : Nat → Nat) (S : mp_M) (H : Heap) (locs : List Loc) (ls : Array Slot), i + k = 32003 → (rmS (fun a => pe (D9 + 1) cf a) i n9 (17 * l9) RO) → (∀ j, (j < 17 * l9 ∨ 17 * l9 + 17 ≤ j) → RO j = R0 j) → S o = some (2000, .inr (10, [mv0, mv1, mv2, mv3, mv4, mv5, mv6, mv7, mv8, mv9, mv10, mv11, mv12, mv13, mv14, mv15, mv16, .ref dg, .ref le, .ref rm, .ref ro, mv21, mv22, mv23, mv24, mv25, mv26, mv27, mv28, mv29, mv30])) → S dg = some (2010, .inl ((g 0), 3, .inl dgf)) → S le = some (2011, .inl ((g 0), 51, .inl lef)) → S rm = some (2012, .inl ((g 0), 3, .inl (fun j => nI ((va_up rmf l9 n9) j)))) → S ro = some (2013, .inl ((g 0), 51, .inl (fun j => nI (RO j)))) → (∀ b t e9, B b = some (t, e9) → (t ≠ 2012) → (t ≠ 2013) → S b = some (t, e9)) → mp_I D classes A s.heap S H locs → lv_has ls 3 [(2, .int (nI i)), (1, .int (nI l9)), (0, .ref o)] → (∀ (n9 : Nat) (RO : Nat → Nat) (S : mp_M) (H : Heap) (locs : List Loc) (ls : Array Slot), (rmS (fun a => pe (D9 + 1) cf a) 32003 n9 (17 * l9) RO) → (∀ j, (j < 17 * l9 ∨ 17 * l9 + 17 ≤ j) → RO j = R0 j) → S o = some (2000, .inr (10, [mv0, mv1, mv2, mv3, mv4, mv5, mv6, mv7, mv8, mv9, mv10, mv11, mv12, mv13, mv14, mv15, mv16, .ref dg, .ref le, .ref rm, .ref ro, mv21, mv22, mv23, mv24, mv25, mv26, mv27, mv28, mv29, mv30])) → S dg = some (2010, .inl ((g 0), 3, .inl dgf)) → S le = some (2011, .inl ((g 0), 51, .inl lef)) → S rm = some (2012, .inl ((g 0), 3, .inl (fun j => nI ((va_up rmf l9 n9) j)))) → S ro = some (2013, .inl ((g 0), 51, .inl (fun j => nI (RO j)))) → (∀ b t e9, B b = some (t, e9) → (t ≠ 2012) → (t ≠ 2013) → S b = some (t, e9)) → mp_I D classes A s.heap S H locs → lv_has ls 3 [(2, .int (nI 32003)), (1, .int (nI l9)), (0, .ref o)] → W p l e R s m args below meth c H locs cells slots Q (F0 m 67 ls [])) → (∀ (n9 : Nat) (RO : Nat → Nat) (S : mp_M) (H : Heap) (locs : List Loc) (ls : Array Slot), (D9 = 0 ∧ n9 = 0) → (∀ j, (j < 17 * l9 ∨ 17 * l9 + 17 ≤ j) → RO j = R0 j) → S o = some (2000, .inr (10, [mv0, mv1, mv2, mv3, mv4, mv5, mv6, mv7, mv8, mv9, mv10, mv11, mv12, mv13, mv14, mv15, mv16, .ref dg, .ref le, .ref rm, .ref ro, mv21, mv22, mv23, mv24, mv25, mv26, mv27, mv28, mv29, mv30])) → S dg = some (2010, .inl ((g 0), 3, .inl dgf)) → S le = some (2011, .inl ((g 0), 51, .inl lef)) → S rm = some (2012, .inl ((g 0), 3, .inl (fun j => nI ((va_up rmf l9 n9) j)))) → S ro = some (2013, .inl ((g 0), 51, .inl (fun j => nI (RO j)))) → (∀ b t e9, B b = some (t, e9) → (t ≠ 2012) → (t ≠ 2013) → S b = some (t, e9)) → mp_I D classes A s.heap S H locs → lv_has ls 3 [(1, .int (nI l9)), (0, .ref o)] → W p l e R s m args below meth c H locs cells slots Q (F0 m 67 ls [])) → W p l e R s m args below meth c H locs cells slots Q (F0 m 9 ls []) := by
  intro k
  induction k with
  | zero =>
    intro i n9 RO S H locs ls hi hrm hou h_o h_dg h_le h_rm h_ro hfr hI hl kx ky
    refine lv_iload_n hx hb d_M_findRoots_9 rfl (lv_at hl 0 rfl) ?_
    refine lv_sipush (v := nI 32003) hx hb d_M_findRoots_10 (by decide) ?_
    refine lv_icmp_ge (tgt := 67) hx hb d_M_findRoots_13 (by decide) (fun _ => ?_) (fun h9 => absurd ((nI_leI (by omega) (by omega)).mpr (by omega)) h9)
    obtain rfl : i = 32003 := by omega
    exact kx n9 RO S H locs ls hrm hou h_o h_dg h_le h_rm h_ro hfr hI (lv_sub hl [0, 1, 2] rfl)
  | succ k ih =>
    intro i n9 RO S H locs ls hi hrm hou h_o h_dg h_le h_rm h_ro hfr hI hl kx ky
    have hPM : PM D9 (fun a => pe (D9 + 1) cf a) := ⟨cf, fun a => by show pe (D9 + 1) cf a = _; rw [pe_s, hcf]; grind⟩
    have hnD := rm_le hPM hrm (by omega)
    refine lv_iload_n hx hb d_M_findRoots_9 rfl (lv_at hl 0 rfl) ?_
    refine lv_sipush (v := nI 32003) hx hb d_M_findRoots_10 (by decide) ?_
    refine lv_icmp_ge (tgt := 67) hx hb d_M_findRoots_13 (by decide) (fun h9 => absurd h9 (by rw [nI_leI (by omega) (by omega)]; omega)) (fun _ => ?_)
    refine lv_aload_n hx hb d_M_findRoots_16 rfl (lv_at hl 2 rfl) ?_
    refine mp_get (C := R_M) (T := F_M) (N := 31) (v := .ref dg) hx hb hg i_M hown hK.va hI h_o rfl 17 (by decide) (hg _ q_821) (fun _ h9 => h9) rfl d_M_findRoots_17 ?_
    refine lv_iload_n hx hb d_M_findRoots_20 rfl (lv_at hl 1 rfl) ?_
    refine mp_iald hx hb hK.va hI 0 h_dg rfl (vp_in_nI (show l9 < 3 by omega) (by omega)) d_M_findRoots_21 ?_
    refine lv_topi (fun v1 ev1 => ?_)
    obtain rfl : v1 = nI D9 := ev1.trans (by rw [nI_clamp (by omega)]; exact hdg)
    refine lv_if_le (tgt := 67) hx hb d_M_findRoots_22 (by decide) (fun c1 => ?_) (fun c1 => ?_)
    · rw [zI_le (by omega)] at c1
      exact ky n9 RO S H locs ls ⟨by omega, by omega⟩ hou h_o h_dg h_le h_rm h_ro hfr hI (lv_sub hl [1, 2] rfl)
    · rw [zI_le (by omega)] at c1
      refine lv_aload_n hx hb d_M_findRoots_25 rfl (lv_at hl 2 rfl) ?_
      refine lv_iload_n hx hb d_M_findRoots_26 rfl (lv_at hl 1 rfl) ?_
      refine lv_iload_n hx hb d_M_findRoots_27 rfl (lv_at hl 0 rfl) ?_
      refine lv_topi (fun v2 ev2 => ?_)
      obtain rfl : v2 = nI (fc i).val := ev2.trans (by rw [fc_v, Nat.mod_eq_of_lt (by omega)])
      refine mp_calli hI (va_runV (As := [.int (nI l9), .int (nI (fc i).val)]) (rest := []) ⟨hx, hb, hml, hown, hg⟩ (c_M_leastAt l D g S _ o dg le l9 D9 mv0 mv1 mv2 mv3 mv4 mv5 mv6 mv7 mv8 mv9 mv10 mv11 mv12 mv13 mv14 mv15 mv16 (.ref rm) (.ref ro) mv21 mv22 mv23 mv24 mv25 mv26 mv27 mv28 mv29 mv30 dgf lef cf (fc i) h_o h_dg h_le hl9 hD hdg hle) ⟨(callB_of 2 hg (wd_goodG q_1033) rfl rfl rfl (hg _ q_5) (hg _ q_1030) (by decide +kernel) ⟨Nat.le_trans (Nat.le_of_ble_eq_true rfl) hRf, Nat.le_trans (Nat.le_of_ble_eq_true rfl) hRl⟩), hg _ q_1032, hg _ qs_41⟩ (mp_preV (C := R_M) (T := F_M) hI hK h_o rfl [.int (nI l9), .int (nI (fc i).val)]) rfl rfl hl.1 rfl (lv_room (Nat.le_of_ble_eq_true rfl)) d_M_findRoots_28 ⟨by omega, by omega⟩) (fun r6 S3 H4 locs p_5 hI => ?_)
      obtain ⟨er6, fq⟩ := p_5
      have er6 : r6 = nI (pe (D9 + 1) cf (fc i)).val := er6
      subst er6
      have h_o : S3 o = some (2000, .inr (10, [mv0, mv1, mv2, mv3, mv4, mv5, mv6, mv7, mv8, mv9, mv10, mv11, mv12, mv13, mv14, mv15, mv16, .ref dg, .ref le, .ref rm, .ref ro, mv21, mv22, mv23, mv24, mv25, mv26, mv27, mv28, mv29, mv30])) := fq o _ _ h_o
      have h_dg : S3 dg = some (2010, .inl ((g 0), 3, .inl dgf)) := fq dg _ _ h_dg
      have h_le : S3 le = some (2011, .inl ((g 0), 51, .inl lef)) := fq le _ _ h_le
      have h_rm : S3 rm = some (2012, .inl ((g 0), 3, .inl (fun j => nI ((va_up rmf l9 n9) j)))) := fq rm _ _ h_rm
      have h_ro : S3 ro = some (2013, .inl ((g 0), 51, .inl (fun j => nI (RO j)))) := fq ro _ _ h_ro
      have hfr : ∀ b t e9, B b = some (t, e9) → (t ≠ 2012) → (t ≠ 2013) → S3 b = some (t, e9) := fun b t e9 h9 k0 k1 => by have h8 := hfr b t e9 h9 k0 k1; exact fq b _ _ h8
      refine lv_if_ne (tgt := 61) hx hb d_M_findRoots_31 (by decide) (fun c2 => ?_) (fun c2 => ?_)
      · rw [zI_eq (by omega)] at c2
        refine lv_iinc (v := nI (i + 1)) (lv' := [(2, .int (nI (i + 1))), (1, .int (nI l9)), (0, .ref o)]) hx hb d_M_findRoots_61 hl (k := 0) rfl (nI_1 _) (by decide) rfl (fun ls hl => ?_)
        refine lv_goto (tgt := 9) hx hb d_M_findRoots_64 (by decide) ?_
        exact ih (i + 1) n9 RO S3 H4 locs ls (by omega) (rm_no hrm (fun q9 => c2 (by rw [q9]; rfl))) hou h_o h_dg h_le h_rm h_ro hfr hI (lv_sub hl [0, 1, 2] rfl) kx ky
      · rw [zI_eq (by omega)] at c2
        have hy9 : pe (D9 + 1) cf (fc i) = 0 := Fin.ext c2
        have hk := rm_yes hrm hy9
        have hn2 := rm_le hPM hk (by omega)
        refine lv_aload_n hx hb d_M_findRoots_34 rfl (lv_at hl 2 rfl) ?_
        refine mp_get (C := R_M) (T := F_M) (N := 31) (v := .ref ro) hx hb hg i_M hown hK.va hI h_o rfl 20 (by decide) (hg _ q_824) (fun _ h9 => h9) rfl d_M_findRoots_35 ?_
        refine lv_bipush (v := nI 17) hx hb d_M_findRoots_38 (by decide) ?_
        refine lv_iload_n hx hb d_M_findRoots_40 rfl (lv_at hl 1 rfl) ?_
        refine lv_imul hx hb d_M_findRoots_41 ?_
        refine lv_topi (fun v7 ev7 => ?_)
        obtain rfl : v7 = nI (17 * l9) := ev7.trans (pk_mul _ _)
        refine lv_aload_n hx hb d_M_findRoots_42 rfl (lv_at hl 2 rfl) ?_
        refine mp_get (C := R_M) (T := F_M) (N := 31) (v := .ref rm) hx hb hg i_M hown hK.va hI h_o rfl 19 (by decide) (hg _ q_823) (fun _ h9 => h9) rfl d_M_findRoots_43 ?_
        refine lv_iload_n hx hb d_M_findRoots_46 rfl (lv_at hl 1 rfl) ?_
        refine mp_iald hx hb hK.va hI 0 h_rm rfl (vp_in_nI (show l9 < 3 by omega) (by omega)) d_M_findRoots_47 ?_
        refine lv_topi (fun v8 ev8 => ?_)
        obtain rfl : v8 = nI n9 := ev8.trans (by rw [nI_clamp (by omega), mp_us])
        refine lv_iadd hx hb d_M_findRoots_48 ?_
        refine lv_topi (fun v9 ev9 => ?_)
        obtain rfl : v9 = nI ((17 * l9) + n9) := ev9.trans (nI_add _ _)
        refine lv_iload_n hx hb d_M_findRoots_49 rfl (lv_at hl 0 rfl) ?_
        refine mp_iast hx hb hK.va hI 0 h_ro rfl (vp_in_nI (show (17 * l9) + n9 < 51 by omega) (by omega)) d_M_findRoots_50 (fun S10 H11 locs e_12 hI => ?_)
        have h_ro_o := h_ro
        have e_12 : S10 = va_up S3 ro (some (2013, .inl ((g 0), 51, .inl (upd (fun j => nI (RO j)) (nI ((17 * l9) + n9)).toNatClampNeg (nI i))))) := e_12
        have h_o : S10 o = some (2000, .inr (10, [mv0, mv1, mv2, mv3, mv4, mv5, mv6, mv7, mv8, mv9, mv10, mv11, mv12, mv13, mv14, mv15, mv16, .ref dg, .ref le, .ref rm, .ref ro, mv21, mv22, mv23, mv24, mv25, mv26, mv27, mv28, mv29, mv30])) := by rw [e_12]; exact mp_keep h_o h_ro (by decide)
        have h_dg : S10 dg = some (2010, .inl ((g 0), 3, .inl dgf)) := by rw [e_12]; exact mp_keep h_dg h_ro (by decide)
        have h_le : S10 le = some (2011, .inl ((g 0), 51, .inl lef)) := by rw [e_12]; exact mp_keep h_le h_ro (by decide)
        have h_rm : S10 rm = some (2012, .inl ((g 0), 3, .inl (fun j => nI ((va_up rmf l9 n9) j)))) := by rw [e_12]; exact mp_keep h_rm h_ro (by decide)
        have h_ro : S10 ro = some (2013, .inl ((g 0), 51, .inl (upd (fun j => nI (RO j)) (nI ((17 * l9) + n9)).toNatClampNeg (nI i)))) := by rw [e_12]; exact mp_us _ _ _
        have hfr : ∀ b t e9, B b = some (t, e9) → (t ≠ 2012) → (t ≠ 2013) → S10 b = some (t, e9) := fun b t e9 h9 k0 k1 => by rw [e_12]; exact mp_keep (hfr b t e9 h9 k0 k1) h_ro_o (by omega)
        rw [nI_clamp (by omega), nIf_up] at h_ro
        refine lv_aload_n hx hb d_M_findRoots_51 rfl (lv_at hl 2 rfl) ?_
        refine mp_get (C := R_M) (T := F_M) (N := 31) (v := .ref rm) hx hb hg i_M hown hK.va hI h_o rfl 19 (by decide) (hg _ q_823) (fun _ h9 => h9) rfl d_M_findRoots_52 ?_
        refine lv_iload_n hx hb d_M_findRoots_55 rfl (lv_at hl 1 rfl) ?_
        refine lv_dup2_11 hx hb d_M_findRoots_56 rfl rfl ?_
        refine mp_iald hx hb hK.va hI 0 h_rm rfl (vp_in_nI (show l9 < 3 by omega) (by omega)) d_M_findRoots_57 ?_
        refine lv_topi (fun v13 ev13 => ?_)
        obtain rfl : v13 = nI n9 := ev13.trans (by rw [nI_clamp (by omega), mp_us])
        refine lv_iconst (v := nI 1) hx hb d_M_findRoots_58 (by decide) ?_
        refine lv_iadd hx hb d_M_findRoots_59 ?_
        refine lv_topi (fun v14 ev14 => ?_)
        obtain rfl : v14 = nI (n9 + 1) := ev14.trans (nI_add _ _)
        refine mp_iast hx hb hK.va hI 0 h_rm rfl (vp_in_nI (show l9 < 3 by omega) (by omega)) d_M_findRoots_60 (fun S15 H16 locs e_17 hI => ?_)
        have h_rm_o := h_rm
        have e_17 : S15 = va_up S10 rm (some (2012, .inl ((g 0), 3, .inl (upd (fun j => nI ((va_up rmf l9 n9) j)) (nI l9).toNatClampNeg (nI (n9 + 1)))))) := e_17
        have h_o : S15 o = some (2000, .inr (10, [mv0, mv1, mv2, mv3, mv4, mv5, mv6, mv7, mv8, mv9, mv10, mv11, mv12, mv13, mv14, mv15, mv16, .ref dg, .ref le, .ref rm, .ref ro, mv21, mv22, mv23, mv24, mv25, mv26, mv27, mv28, mv29, mv30])) := by rw [e_17]; exact mp_keep h_o h_rm (by decide)
        have h_dg : S15 dg = some (2010, .inl ((g 0), 3, .inl dgf)) := by rw [e_17]; exact mp_keep h_dg h_rm (by decide)
        have h_le : S15 le = some (2011, .inl ((g 0), 51, .inl lef)) := by rw [e_17]; exact mp_keep h_le h_rm (by decide)
        have h_ro : S15 ro = some (2013, .inl ((g 0), 51, .inl (fun j => nI (va_up RO ((17 * l9) + n9) i j)))) := by rw [e_17]; exact mp_keep h_ro h_rm (by decide)
        have h_rm : S15 rm = some (2012, .inl ((g 0), 3, .inl (upd (fun j => nI ((va_up rmf l9 n9) j)) (nI l9).toNatClampNeg (nI (n9 + 1))))) := by rw [e_17]; exact mp_us _ _ _
        have hfr : ∀ b t e9, B b = some (t, e9) → (t ≠ 2012) → (t ≠ 2013) → S15 b = some (t, e9) := fun b t e9 h9 k0 k1 => by rw [e_17]; exact mp_keep (hfr b t e9 h9 k0 k1) h_rm_o (by omega)
        rw [nI_clamp (by omega), nIf_up] at h_rm
        have e9h_rm : (fun j => nI (va_up (va_up rmf l9 n9) l9 (n9 + 1) j)) = (fun j => nI ((va_up rmf l9 (n9 + 1)) j)) := by funext q9; by_cases w8 : q9 = l9; exact (by rw [w8, mp_us, mp_us]); exact (by rw [mp_un w8, mp_un w8, mp_un w8])
        rw [e9h_rm] at h_rm
        refine lv_iinc (v := nI (i + 1)) (lv' := [(2, .int (nI (i + 1))), (1, .int (nI l9)), (0, .ref o)]) hx hb d_M_findRoots_61 hl (k := 0) rfl (nI_1 _) (by decide) rfl (fun ls hl => ?_)
        refine lv_goto (tgt := 9) hx hb d_M_findRoots_64 (by decide) ?_
        exact ih (i + 1) (n9 + 1) (va_up RO (17 * l9 + n9) i) S15 H16 locs ls (by omega) hk (fun j hj => by rw [mp_un (by omega)]; exact hou j hj) h_o h_dg h_le h_rm h_ro hfr hI (lv_sub hl [0, 1, 2] rfl) kx ky
set_option maxHeartbeats 4000000 in
set_option maxRecDepth 100000 in
/-- the roots of a least polynomial, in the reference -/
theorem c_M_findRoots (l : Launch) (D : mp_G) (g : Nat → ClassId) (S : mp_M) (sz : Nat) (o dg le rm ro l9 D9 : Nat) (mv0 mv1 mv2 mv3 mv4 mv5 mv6 mv7 mv8 mv9 mv10 mv11 mv12 mv13 mv14 mv15 mv16 mv21 mv22 mv23 mv24 mv25 mv26 mv27 mv28 mv29 mv30 : Value) (dgf lef : Nat → Int32) (cf : Nat → fF) (rmf : Nat → Nat) (RO : Nat → Nat) (h_o : S o = some (2000, .inr (10, [mv0, mv1, mv2, mv3, mv4, mv5, mv6, mv7, mv8, mv9, mv10, mv11, mv12, mv13, mv14, mv15, mv16, .ref dg, .ref le, .ref rm, .ref ro, mv21, mv22, mv23, mv24, mv25, mv26, mv27, mv28, mv29, mv30]))) (h_dg : S dg = some (2010, .inl ((g 0), 3, .inl dgf))) (h_le : S le = some (2011, .inl ((g 0), 51, .inl lef))) (h_rm : S rm = some (2012, .inl ((g 0), 3, .inl (fun j => nI (rmf j))))) (h_ro : S ro = some (2013, .inl ((g 0), 51, .inl (fun j => nI (RO j))))) (hl9 : l9 < 3) (hD : D9 ≤ 16) (hdg : dgf l9 = nI D9) (hle : ∀ k, k < D9 + 1 → lef (17 * l9 + k) = nI (cf k).val) (hcf : cf D9 = 1) : Met l y_M_findRoots w_M_findRoots ({ frames := 2, cells := 0, slots := 0, locals := 45 }) (va_Pc [.ref o, .int (nI l9)] (mp_B0 D classes (tys g) S sz)) (va_Qv (fun (S1 : mp_M) => ∃ (n9 : Nat) (RO1 : Nat → Nat), S1 rm = some (2012, .inl ((g 0), 3, .inl (fun j => nI ((va_up rmf l9 n9) j)))) ∧ S1 ro = some (2013, .inl ((g 0), 51, .inl (fun j => nI (RO1 j)))) ∧ n9 ≤ D9 ∧ rtS n9 (fun j => RO1 (17 * l9 + j)) (fun a => pe (D9 + 1) cf a) ∧ (∀ j, (j < 17 * l9 ∨ 17 * l9 + 17 ≤ j) → RO1 j = RO j) ∧ (∀ b t e9, S b = some (t, e9) → (t ≠ 2012) → (t ≠ 2013) → S1 b = some (t, e9))) (mp_B1 D classes S sz) (mp_A S sz)) 0 0 (mp_A S sz) := by
  refine Met.ofW (cc := b_M_findRoots) (maxL := 3) (ret := none) (by decide) rfl ?_
  intro p e s m args below meth c s₁ B hml hv
  obtain ⟨rfl, hsz, hH, hK⟩ := hv
  have hx := B.exec
  have hb := B.bytes
  have hr := B.returns
  have hts := atoms_spec (ws := w_M_findRoots) B.pre
  have hg : ∀ w ∈ gw, w.before _ s = true := fun w h => hts w (List.mem_cons_of_mem _ h)
  have hown : s.vm.findClass R_M = some m.cls := findClass_of_methodNamed B.named
  have hlocks := B.notSynchronized
  subst hsz
  have hI := mp_I.start hH
  have hl := lv_entry ([.ref o, .int (nI l9)]) (n := 3) (Nat.le_of_ble_eq_true rfl)
  rw [lg_entry_eq]
  generalize (lg_sl ([.ref o, .int (nI l9)]) ++ List.replicate (3 - (lg_sl ([.ref o, .int (nI l9)])).length) Slot.unset).toArray = ls at hl ⊢
  have hl : lv_has ls 3 [(0, .ref o), (1, .int (nI l9))] := hl
  have hfr : ∀ b t e9, S b = some (t, e9) → (t ≠ 2012) → (t ≠ 2013) → S b = some (t, e9) := fun _ _ _ h9 _ _ => h9
  refine lv_aload_n hx hb d_M_findRoots_0 rfl (lv_at hl 0 rfl) ?_
  refine mp_get (C := R_M) (T := F_M) (N := 31) (v := .ref rm) hx hb hg i_M hown hK.va hI h_o rfl 19 (by decide) (hg _ q_823) (fun _ h9 => h9) rfl d_M_findRoots_1 ?_
  refine lv_iload_n hx hb d_M_findRoots_4 rfl (lv_at hl 1 rfl) ?_
  refine lv_iconst (v := nI 0) hx hb d_M_findRoots_5 (by decide) ?_
  refine mp_iast hx hb hK.va hI 0 h_rm rfl (vp_in_nI (show l9 < 3 by omega) (by omega)) d_M_findRoots_6 (fun S1 H2 locs e_3 hI => ?_)
  have h_rm_o := h_rm
  have e_3 : S1 = va_up S rm (some (2012, .inl ((g 0), 3, .inl (upd (fun j => nI (rmf j)) (nI l9).toNatClampNeg (nI 0))))) := e_3
  have h_o : S1 o = some (2000, .inr (10, [mv0, mv1, mv2, mv3, mv4, mv5, mv6, mv7, mv8, mv9, mv10, mv11, mv12, mv13, mv14, mv15, mv16, .ref dg, .ref le, .ref rm, .ref ro, mv21, mv22, mv23, mv24, mv25, mv26, mv27, mv28, mv29, mv30])) := by rw [e_3]; exact mp_keep h_o h_rm (by decide)
  have h_dg : S1 dg = some (2010, .inl ((g 0), 3, .inl dgf)) := by rw [e_3]; exact mp_keep h_dg h_rm (by decide)
  have h_le : S1 le = some (2011, .inl ((g 0), 51, .inl lef)) := by rw [e_3]; exact mp_keep h_le h_rm (by decide)
  have h_ro : S1 ro = some (2013, .inl ((g 0), 51, .inl (fun j => nI (RO j)))) := by rw [e_3]; exact mp_keep h_ro h_rm (by decide)
  have h_rm : S1 rm = some (2012, .inl ((g 0), 3, .inl (upd (fun j => nI (rmf j)) (nI l9).toNatClampNeg (nI 0)))) := by rw [e_3]; exact mp_us _ _ _
  have hfr : ∀ b t e9, S b = some (t, e9) → (t ≠ 2012) → (t ≠ 2013) → S1 b = some (t, e9) := fun b t e9 h9 k0 k1 => by rw [e_3]; exact mp_keep (hfr b t e9 h9 k0 k1) h_rm_o (by omega)
  rw [nI_clamp (by omega), nIf_up] at h_rm
  have e9h_rm : (fun j => nI (va_up rmf l9 0 j)) = (fun j => nI ((va_up rmf l9 0) j)) := rfl
  rw [e9h_rm] at h_rm
  refine lv_iconst (v := nI 0) hx hb d_M_findRoots_7 (by decide) ?_
  refine lv_istore_n (lv' := [(2, .int (nI 0)), (0, .ref o), (1, .int (nI l9))]) hx hb d_M_findRoots_8 rfl hl (by decide) rfl (fun ls hl => ?_)
  have hPM : PM D9 (fun a => pe (D9 + 1) cf a) := ⟨cf, fun a => by show pe (D9 + 1) cf a = _; rw [pe_s, hcf]; grind⟩
  refine lp_M_findRoots (B := S) (o := o) (dg := dg) (le := le) (rm := rm) (ro := ro) (l9 := l9) (D9 := D9) (mv0 := mv0) (mv1 := mv1) (mv2 := mv2) (mv3 := mv3) (mv4 := mv4) (mv5 := mv5) (mv6 := mv6) (mv7 := mv7) (mv8 := mv8) (mv9 := mv9) (mv10 := mv10) (mv11 := mv11) (mv12 := mv12) (mv13 := mv13) (mv14 := mv14) (mv15 := mv15) (mv16 := mv16) (mv21 := mv21) (mv22 := mv22) (mv23 := mv23) (mv24 := mv24) (mv25 := mv25) (mv26 := mv26) (mv27 := mv27) (mv28 := mv28) (mv29 := mv29) (mv30 := mv30) (dgf := dgf) (lef := lef) (cf := cf) (rmf := rmf) (R0 := RO) hx hb hml hg hown hK (Nat.le_of_ble_eq_true rfl) (Nat.le_of_ble_eq_true rfl) (Nat.le_of_ble_eq_true rfl) (Nat.le_of_ble_eq_true rfl) hl9 hD hdg hle hcf 32003 0 0 RO S1 H2 _ ls (by omega) (colS_0 _ _) (fun _ _ => rfl) h_o h_dg h_le h_rm h_ro hfr hI (lv_sub hl [0, 2, 1] rfl) (fun n9 RO1 S4 H5 locs ls hrm hou j_o j_dg j_le j_rm j_ro hfr hI hl => ?_) (fun n9 RO1 S9 H9 locs ls hD0 hou j_o j_dg j_le j_rm j_ro hfr hI hl => ?_)
  · refine mp_vret hx hb hr hlocks hI (Nat.le_of_ble_eq_true rfl) (Nat.le_of_ble_eq_true rfl) ?_ d_M_findRoots_67
    exact ⟨n9, RO1, j_rm, j_ro, rm_le hPM hrm (Nat.le_refl _), rm_rt hrm, hou, hfr⟩
  · obtain ⟨rfl, rfl⟩ := hD0
    refine mp_vret hx hb hr hlocks hI (Nat.le_of_ble_eq_true rfl) (Nat.le_of_ble_eq_true rfl) ?_ d_M_findRoots_67
    exact ⟨0, RO1, j_rm, j_ro, Nat.le_refl _, rt_none hcf _, hou, hfr⟩
