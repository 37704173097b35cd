theorem d_L_at_8 : decode b_L_at 8 = .ok (.i2l, 1) := by decide +kernel
theorem d_L_at_9 : decode b_L_at 9 = .ok (.lastore, 1) := by decide +kernel
theorem d_L_at_10 : decode b_L_at 10 = .ok (.goto 15, 3) := by decide +kernel
theorem d_L_at_17 : decode b_L_at 17 = .ok (.astore 4, 2) := by decide +kernel
theorem d_L_at_19 : decode b_L_at 19 = .ok (.iconst 2, 1) := by decide +kernel
theorem d_L_at_20 : decode b_L_at 20 = .ok (.ireturn, 1) := by decide +kernel
theorem d_L_at_21 : decode b_L_at 21 = .ok (.astore 4, 2) := by decide +kernel
theorem d_L_at_23 : decode b_L_at 23 = .ok (.iconst 3, 1) := by decide +kernel
theorem d_L_at_24 : decode b_L_at 24 = .ok (.ireturn, 1) := by decide +kernel
theorem d_L_at_25 : decode b_L_at 25 = .ok (.iconst 0, 1) := by decide +kernel
theorem d_L_at_26 : decode b_L_at 26 = .ok (.ireturn, 1) := by decide +kernel
theorem d_L_left_7 : decode b_L_left 7 = .ok (.i2l, 1) := by decide +kernel
theorem d_L_left_8 : decode b_L_left 8 = .ok (.lastore, 1) := by decide +kernel
theorem d_L_left_9 : decode b_L_left 9 = .ok (.goto 6, 3) := by decide +kernel
theorem d_L_left_15 : decode b_L_left 15 = .ok (.iconst 0, 1) := by decide +kernel
theorem d_L_left_16 : decode b_L_left 16 = .ok (.ireturn, 1) := by decide +kernel
theorem d_L_minimal_8 : decode b_L_minimal 8 = .ok (.i2l, 1) := by decide +kernel
theorem d_L_minimal_9 : decode b_L_minimal 9 = .ok (.lastore, 1) := by decide +kernel
theorem d_L_minimal_10 : decode b_L_minimal 10 = .ok (.goto 11, 3) := by decide +kernel
theorem d_L_minimal_17 : decode b_L_minimal 17 = .ok (.astore 4, 2) := by decide +kernel
theorem d_L_minimal_19 : decode b_L_minimal 19 = .ok (.iconst 2, 1) := by decide +kernel
theorem d_L_minimal_20 : decode b_L_minimal 20 = .ok (.ireturn, 1) := by decide +kernel
theorem d_L_minimal_21 : decode b_L_minimal 21 = .ok (.iconst 0, 1) := by decide +kernel
theorem d_L_minimal_22 : decode b_L_minimal 22 = .ok (.ireturn, 1) := by decide +kernel
theorem d_L_multiplicity_7 : decode b_L_multiplicity 7 = .ok (.i2l, 1) := by decide +kernel
theorem d_L_multiplicity_8 : decode b_L_multiplicity 8 = .ok (.lastore, 1) := by decide +kernel
theorem d_L_multiplicity_9 : decode b_L_multiplicity 9 = .ok (.goto 9, 3) := by decide +kernel
theorem d_L_multiplicity_15 : decode b_L_multiplicity 15 = .ok (.astore_n 3, 1) := by decide +kernel
theorem d_L_multiplicity_16 : decode b_L_multiplicity 16 = .ok (.iconst 2, 1) := by decide +kernel
theorem d_L_multiplicity_17 : decode b_L_multiplicity 17 = .ok (.ireturn, 1) := by decide +kernel
theorem d_L_multiplicity_18 : decode b_L_multiplicity 18 = .ok (.iconst 0, 1) := by decide +kernel
theorem d_L_multiplicity_19 : decode b_L_multiplicity 19 = .ok (.ireturn, 1) := by decide +kernel
theorem d_L_take_14 : decode b_L_take 14 = .ok (.lconst 0, 1) := by decide +kernel
theorem d_L_total_6 : decode b_L_total 6 = .ok (.i2l, 1) := by decide +kernel
theorem d_L_total_7 : decode b_L_total 7 = .ok (.lastore, 1) := by decide +kernel
theorem d_L_total_8 : decode b_L_total 8 = .ok (.goto 6, 3) := by decide +kernel
theorem d_L_total_14 : decode b_L_total 14 = .ok (.iconst 0, 1) := by decide +kernel
theorem d_L_total_15 : decode b_L_total 15 = .ok (.ireturn, 1) := by decide +kernel
theorem d_L_value_8 : decode b_L_value 8 = .ok (.i2l, 1) := by decide +kernel
theorem d_L_value_9 : decode b_L_value 9 = .ok (.lastore, 1) := by decide +kernel
theorem d_L_value_10 : decode b_L_value 10 = .ok (.goto 11, 3) := by decide +kernel
theorem d_L_value_17 : decode b_L_value 17 = .ok (.astore 4, 2) := by decide +kernel
theorem d_L_value_19 : decode b_L_value 19 = .ok (.iconst 2, 1) := by decide +kernel
theorem d_L_value_20 : decode b_L_value 20 = .ok (.ireturn, 1) := by decide +kernel
theorem d_L_value_21 : decode b_L_value 21 = .ok (.iconst 0, 1) := by decide +kernel
theorem d_L_value_22 : decode b_L_value 22 = .ok (.ireturn, 1) := by decide +kernel
set_option maxHeartbeats 4000000 in
set_option maxRecDepth 100000 in
/-- a value comes back -/
theorem c_L_totalK (l : Launch) (D : mp_G) (g : Nat → ClassId) (S : mp_M) (sz : Nat) (o pa vo qo ky lz za mu9 po nl s9 zc : Nat) (v2 v3 v4 v5 v6 u0 u1 u3 u5 u6 q0 q3 q4 q5 q6 q7 q8 q9 q10 q11 : Value) (eo le la kQ MQ : Nat → Nat) (dl : Nat → Int32) (CL ZZ : Nat → Nat → fF) (oa : Nat) (of : Nat → Int64) (h_o : S o = some (0, .inr (0, [.int (nI nl), .ref pa, v2, v3, v4, v5, v6, .int 1, .int (nI zc), .ref vo]))) (h_pa : S pa = some (1, .inl ((g 2), 40, .inr (.inr (.inr (.inr (rfs eo 40))))))) (h_vo : S vo = some (10, .inr (7, [u0, u1, .ref qo, u3, .ref lz, u5, u6, .ref za, .ref mu9, .int (nI zc), .ref po]))) (h_qo : S qo = some (14, .inr (4, [q0, .ref ky, .int (nI s9), q3, q4, q5, q6, q7, q8, q9, q10, q11]))) (h_ky : S ky = some (15, .inl ((g 0), 16, .inl (fun j => nI (kQ j))))) (h_lz : S lz = some (32, .inl ((g 3), 3, .inr (.inr (.inr (.inr (rfs le 3))))))) (h_za : S za = some (35, .inl ((g 1), 16, .inr (.inr (.inr (.inr (rfs (fun ii => za + 1 + ii) 16))))))) (h_mu9 : S mu9 = some (36, .inl ((g 0), 16, .inl (fun j => nI (MQ j))))) (h_oa : S oa = some (9, .inl ((g 4), 1, .inr (.inl of)))) (hLo : oS g 570 3 le la dl (fun ii j => nI (CL ii j).val) S) (hZ : rS g 590 16 3 (fun ii => za + 1 + ii) (fun ii j => nI (ZZ ii j).val) S) (hnl : nl ≤ 3) (hs : s9 ≤ 16) (hzc : zc ≤ 16) : Met l y_L_total w_L_total ({ frames := 2, cells := 0, slots := 0, locals := 40 }) (va_Pc [.ref o, .ref oa] (mp_B0 D classes (tys g) S sz)) (va_Qi (fun (r : Int32) (S1 : mp_M) => r = nI 0 ∧ (∃ f1 : Nat → Int64, S1 oa = some (9, .inl ((g 4), 1, .inr (.inl f1))) ∧ f1 0 = (nI s9).toInt64) ∧ (∀ b t e9, S b = some (t, e9) → (t ≠ 9) → S1 b = some (t, e9))) (mp_B1 D classes S sz) (mp_A S sz)) 0 0 (mp_A S sz) := by
  refine va_MetW (hh := hh_L_total) (cc := b_L_total) (maxL := 3) (ret := (some .int)) (by decide) rfl ?_
  intro p e s m args below meth c s₁ B hml hv
  obtain ⟨rfl, hsz, hH, hK⟩ := hv
  have hx := B.exec
  have hb := B.bytes
  have hr := B.returns
  have hts := atoms_spec (ws := w_L_total) B.pre
  have hg : ∀ w ∈ gw, w.before _ s = true := fun w h => hts w (List.mem_cons_of_mem _ h)
  have hown : s.vm.findClass R_L = some m.cls := findClass_of_methodNamed B.named
  have hlocks := B.notSynchronized
  have hhh := lw_table B (hts _ List.mem_cons_self)
  subst hsz
  have hI := mp_I.start hH
  have hl := lv_entry ([.ref o, .ref oa]) (n := 3) (Nat.le_of_ble_eq_true rfl)
  rw [lg_entry_eq]
  generalize (lg_sl ([.ref o, .ref oa]) ++ List.replicate (3 - (lg_sl ([.ref o, .ref oa])).length) Slot.unset).toArray = ls at hl ⊢
  have hl : lv_has ls 3 [(0, .ref o), (1, .ref oa)] := hl
  have hfr : ∀ b t e9, S b = some (t, e9) → (t ≠ 9) → S b = some (t, e9) := fun _ _ _ h9 _ => h9
  refine lv_aload_n hx hb d_L_total_0 rfl (lv_at hl 1 rfl) ?_
  refine lv_iconst (v := nI 0) hx hb d_L_total_1 (by decide) ?_
  refine lv_aload_n hx hb d_L_total_2 rfl (lv_at hl 0 rfl) ?_
  refine mp_calli hI (va_runV (As := []) (rest := [.int (nI 0), .ref oa]) ⟨hx, hb, hml, hown, hg⟩ (c_B_totalK l D g S _ o pa vo qo ky lz za mu9 po nl s9 zc v2 v3 v4 v5 v6 u0 u1 u3 u5 u6 q0 q3 q4 q5 q6 q7 q8 q9 q10 q11 eo le la kQ MQ dl CL ZZ  h_o h_pa h_vo h_qo h_ky h_lz h_za h_mu9 hLo hZ hnl hs hzc) ⟨(callB_of 0 hg (wd_goodG q_738) rfl rfl rfl (hg _ q_1) (hg _ q_735) (by decide +kernel) ⟨Nat.le_of_ble_eq_true rfl, Nat.le_of_ble_eq_true rfl⟩), hg _ q_736, hg _ q_737⟩ (mp_preV (C := R_B) (T := F_B) hI hK h_o rfl []) rfl rfl hl.1 rfl (lv_room (Nat.le_of_ble_eq_true rfl)) d_L_total_3 ⟨Nat.le_of_ble_eq_true rfl, Nat.le_of_ble_eq_true rfl⟩) (fun r4 S1 H2 locs p_3 hI => ?_)
  obtain ⟨er4, eS5⟩ := p_3
  rw [eS5] at hI
  refine lv_i2l (v := (r4).toInt64) hx hb d_L_total_6 rfl ?_
  refine mp_last hx hb hK.va hI 4 h_oa rfl (vp_in_nI (by decide) (by decide)) d_L_total_7 (fun S6 H7 locs e_8 hI => ?_)
  have h_oa_o := h_oa
  have e_8 : S6 = va_up S oa (some (9, .inl ((g 4), 1, .inr (.inl (vp_updL of (nI 0).toNatClampNeg ((r4).toInt64)))))) := e_8
  have h_o : S6 o = some (0, .inr (0, [.int (nI nl), .ref pa, v2, v3, v4, v5, v6, .int 1, .int (nI zc), .ref vo])) := by rw [e_8]; exact mp_keep h_o h_oa (by decide)
  have h_pa : S6 pa = some (1, .inl ((g 2), 40, .inr (.inr (.inr (.inr (rfs eo 40)))))) := by rw [e_8]; exact mp_keep h_pa h_oa (by decide)
  have h_vo : S6 vo = some (10, .inr (7, [u0, u1, .ref qo, u3, .ref lz, u5, u6, .ref za, .ref mu9, .int (nI zc), .ref po])) := by rw [e_8]; exact mp_keep h_vo h_oa (by decide)
  have h_qo : S6 qo = some (14, .inr (4, [q0, .ref ky, .int (nI s9), q3, q4, q5, q6, q7, q8, q9, q10, q11])) := by rw [e_8]; exact mp_keep h_qo h_oa (by decide)
  have h_ky : S6 ky = some (15, .inl ((g 0), 16, .inl (fun j => nI (kQ j)))) := by rw [e_8]; exact mp_keep h_ky h_oa (by decide)
  have h_lz : S6 lz = some (32, .inl ((g 3), 3, .inr (.inr (.inr (.inr (rfs le 3)))))) := by rw [e_8]; exact mp_keep h_lz h_oa (by decide)
  have h_za : S6 za = some (35, .inl ((g 1), 16, .inr (.inr (.inr (.inr (rfs (fun ii => za + 1 + ii) 16)))))) := by rw [e_8]; exact mp_keep h_za h_oa (by decide)
  have h_mu9 : S6 mu9 = some (36, .inl ((g 0), 16, .inl (fun j => nI (MQ j)))) := by rw [e_8]; exact mp_keep h_mu9 h_oa (by decide)
  have h_oa : S6 oa = some (9, .inl ((g 4), 1, .inr (.inl (vp_updL of (nI 0).toNatClampNeg ((r4).toInt64))))) := by rw [e_8]; exact mp_us _ _ _
  have hfr : ∀ b t e9, S b = some (t, e9) → (t ≠ 9) → S6 b = some (t, e9) := fun b t e9 h9 k0 => by rw [e_8]; exact mp_keep (hfr b t e9 h9 k0) h_oa_o (by omega)
  refine lv_goto (tgt := 14) hx hb d_L_total_8 (by decide) ?_
  refine lv_iconst (v := nI 0) hx hb d_L_total_14 (by decide) ?_
  have hV9 : (r4).toInt64 = (nI s9).toInt64 := congrArg Int32.toInt64 er4
  refine mp_iret hx hb hr hlocks hI (Nat.le_of_ble_eq_true rfl) (Nat.le_of_ble_eq_true rfl) ?_ d_L_total_15
  exact ⟨rfl, ⟨_, h_oa, hV9⟩, hfr⟩
set_option maxHeartbeats 4000000 in
set_option maxRecDepth 100000 in
/-- a value comes back -/
theorem c_L_leftN (l : Launch) (D : mp_G) (g : Nat → ClassId) (S : mp_M) (sz : Nat) (o pa vo qo ky lz za mu9 po nl s9 zc : Nat) (v2 v3 v4 v5 v6 u0 u1 u3 u5 u6 q0 q3 q4 q5 q6 q7 q8 q9 q10 q11 : Value) (eo le la kQ MQ : Nat → Nat) (dl : Nat → Int32) (CL ZZ : Nat → Nat → fF) (oa : Nat) (of : Nat → Int64) (x : Int32) (h_o : S o = some (0, .inr (0, [.int (nI nl), .ref pa, v2, v3, v4, v5, v6, .int 1, .int (nI zc), .ref vo]))) (h_pa : S pa = some (1, .inl ((g 2), 40, .inr (.inr (.inr (.inr (rfs eo 40))))))) (h_vo : S vo = some (10, .inr (7, [u0, u1, .ref qo, u3, .ref lz, u5, u6, .ref za, .ref mu9, .int (nI zc), .ref po]))) (h_qo : S qo = some (14, .inr (4, [q0, .ref ky, .int (nI s9), q3, q4, q5, q6, q7, q8, q9, q10, q11]))) (h_ky : S ky = some (15, .inl ((g 0), 16, .inl (fun j => nI (kQ j))))) (h_lz : S lz = some (32, .inl ((g 3), 3, .inr (.inr (.inr (.inr (rfs le 3))))))) (h_za : S za = some (35, .inl ((g 1), 16, .inr (.inr (.inr (.inr (rfs (fun ii => za + 1 + ii) 16))))))) (h_mu9 : S mu9 = some (36, .inl ((g 0), 16, .inl (fun j => nI (MQ j))))) (h_oa : S oa = some (9, .inl ((g 4), 1, .inr (.inl of)))) (hLo : oS g 570 3 le la dl (fun ii j => nI (CL ii j).val) S) (hZ : rS g 590 16 3 (fun ii => za + 1 + ii) (fun ii j => nI (ZZ ii j).val) S) (hnl : nl ≤ 3) (hs : s9 ≤ 16) (hzc : zc ≤ 16) (hx9 : x < 0 ∨ nI s9 ≤ x) : Met l y_L_left w_L_left ({ frames := 2, cells := 0, slots := 0, locals := 42 }) (va_Pc [.ref o, .int x, .ref oa] (mp_B0 D classes (tys g) S sz)) (va_Qi (fun (r : Int32) (S1 : mp_M) => r = nI 0 ∧ (∃ f1 : Nat → Int64, S1 oa = some (9, .inl ((g 4), 1, .inr (.inl f1))) ∧ f1 0 = (-1).toInt64) ∧ (∀ b t e9, S b = some (t, e9) → (t ≠ 9) → S1 b = some (t, e9))) (mp_B1 D classes S sz) (mp_A S sz)) 0 0 (mp_A S sz) := by
  refine va_MetW (hh := hh_L_left) (cc := b_L_left) (maxL := 4) (ret := (some .int)) (by decide) rfl ?_
  intro p e s m args below meth c s₁ B hml hv
  obtain ⟨rfl, hsz, hH, hK⟩ := hv
  have hx := B.exec
  have hb := B.bytes
  have hr := B.returns
  have hts := atoms_spec (ws := w_L_left) B.pre
  have hg : ∀ w ∈ gw, w.before _ s = true := fun w h => hts w (List.mem_cons_of_mem _ h)
  have hown : s.vm.findClass R_L = some m.cls := findClass_of_methodNamed B.named
  have hlocks := B.notSynchronized
  have hhh := lw_table B (hts _ List.mem_cons_self)
  subst hsz
  have hI := mp_I.start hH
  have hl := lv_entry ([.ref o, .int x, .ref oa]) (n := 4) (Nat.le_of_ble_eq_true rfl)
  rw [lg_entry_eq]
  generalize (lg_sl ([.ref o, .int x, .ref oa]) ++ List.replicate (4 - (lg_sl ([.ref o, .int x, .ref oa])).length) Slot.unset).toArray = ls at hl ⊢
  have hl : lv_has ls 4 [(0, .ref o), (1, .int x), (2, .ref oa)] := hl
  have hfr : ∀ b t e9, S b = some (t, e9) → (t ≠ 9) → S b = some (t, e9) := fun _ _ _ h9 _ => h9
  refine lv_aload_n hx hb d_L_left_0 rfl (lv_at hl 2 rfl) ?_
  refine lv_iconst (v := nI 0) hx hb d_L_left_1 (by decide) ?_
  refine lv_aload_n hx hb d_L_left_2 rfl (lv_at hl 0 rfl) ?_
  refine lv_iload_n hx hb d_L_left_3 rfl (lv_at hl 1 rfl) ?_
  refine mp_calli hI (va_runV (As := [.int x]) (rest := [.int (nI 0), .ref oa]) ⟨hx, hb, hml, hown, hg⟩ (c_B_leftN l D g S _ o pa vo qo ky lz za mu9 po nl s9 zc v2 v3 v4 v5 v6 u0 u1 u3 u5 u6 q0 q3 q4 q5 q6 q7 q8 q9 q10 q11 eo le la kQ MQ dl CL ZZ x h_o h_pa h_vo h_qo h_ky h_lz h_za h_mu9 hLo hZ hnl hs hzc hx9) ⟨(callB_of 1 hg (wd_goodG q_750) rfl rfl rfl (hg _ q_1) (hg _ q_747) (by decide +kernel) ⟨Nat.le_of_ble_eq_true rfl, Nat.le_of_ble_eq_true rfl⟩), hg _ q_748, hg _ q_749⟩ (mp_preV (C := R_B) (T := F_B) hI hK h_o rfl [.int x]) rfl rfl hl.1 rfl (lv_room (Nat.le_of_ble_eq_true rfl)) d_L_left_4 ⟨Nat.le_of_ble_eq_true rfl, Nat.le_of_ble_eq_true rfl⟩) (fun r4 S1 H2 locs p_3 hI => ?_)
  obtain ⟨er4, eS5⟩ := p_3
  rw [eS5] at hI
  refine lv_i2l (v := (r4).toInt64) hx hb d_L_left_7 rfl ?_
  refine mp_last hx hb hK.va hI 4 h_oa rfl (vp_in_nI (by decide) (by decide)) d_L_left_8 (fun S6 H7 locs e_8 hI => ?_)
  have h_oa_o := h_oa
  have e_8 : S6 = va_up S oa (some (9, .inl ((g 4), 1, .inr (.inl (vp_updL of (nI 0).toNatClampNeg ((r4).toInt64)))))) := e_8
  have h_o : S6 o = some (0, .inr (0, [.int (nI nl), .ref pa, v2, v3, v4, v5, v6, .int 1, .int (nI zc), .ref vo])) := by rw [e_8]; exact mp_keep h_o h_oa (by decide)
  have h_pa : S6 pa = some (1, .inl ((g 2), 40, .inr (.inr (.inr (.inr (rfs eo 40)))))) := by rw [e_8]; exact mp_keep h_pa h_oa (by decide)
  have h_vo : S6 vo = some (10, .inr (7, [u0, u1, .ref qo, u3, .ref lz, u5, u6, .ref za, .ref mu9, .int (nI zc), .ref po])) := by rw [e_8]; exact mp_keep h_vo h_oa (by decide)
  have h_qo : S6 qo = some (14, .inr (4, [q0, .ref ky, .int (nI s9), q3, q4, q5, q6, q7, q8, q9, q10, q11])) := by rw [e_8]; exact mp_keep h_qo h_oa (by decide)
  have h_ky : S6 ky = some (15, .inl ((g 0), 16, .inl (fun j => nI (kQ j)))) := by rw [e_8]; exact mp_keep h_ky h_oa (by decide)
  have h_lz : S6 lz = some (32, .inl ((g 3), 3, .inr (.inr (.inr (.inr (rfs le 3)))))) := by rw [e_8]; exact mp_keep h_lz h_oa (by decide)
  have h_za : S6 za = some (35, .inl ((g 1), 16, .inr (.inr (.inr (.inr (rfs (fun ii => za + 1 + ii) 16)))))) := by rw [e_8]; exact mp_keep h_za h_oa (by decide)
  have h_mu9 : S6 mu9 = some (36, .inl ((g 0), 16, .inl (fun j => nI (MQ j)))) := by rw [e_8]; exact mp_keep h_mu9 h_oa (by decide)
  have h_oa : S6 oa = some (9, .inl ((g 4), 1, .inr (.inl (vp_updL of (nI 0).toNatClampNeg ((r4).toInt64))))) := by rw [e_8]; exact mp_us _ _ _
  have hfr : ∀ b t e9, S b = some (t, e9) → (t ≠ 9) → S6 b = some (t, e9) := fun b t e9 h9 k0 => by rw [e_8]; exact mp_keep (hfr b t e9 h9 k0) h_oa_o (by omega)
  refine lv_goto (tgt := 15) hx hb d_L_left_9 (by decide) ?_
  refine lv_iconst (v := nI 0) hx hb d_L_left_15 (by decide) ?_
  have hV9 : (r4).toInt64 = (-1).toInt64 := congrArg Int32.toInt64 er4
  refine mp_iret hx hb hr hlocks hI (Nat.le_of_ble_eq_true rfl) (Nat.le_of_ble_eq_true rfl) ?_ d_L_left_16
  exact ⟨rfl, ⟨_, h_oa, hV9⟩, hfr⟩
set_option maxHeartbeats 4000000 in
set_option maxRecDepth 100000 in
/-- a value comes back -/
theorem c_L_leftK (l : Launch) (D : mp_G) (g : Nat → ClassId) (S : mp_M) (sz : Nat) (o pa vo qo ky lz za mu9 po nl s9 zc : Nat) (v2 v3 v4 v5 v6 u0 u1 u3 u5 u6 q0 q3 q4 q5 q6 q7 q8 q9 q10 q11 : Value) (eo le la kQ MQ : Nat → Nat) (dl : Nat → Int32) (CL ZZ : Nat → Nat → fF) (oa : Nat) (of : Nat → Int64) (k9 a9 b9 d9 : Nat) (h_o : S o = some (0, .inr (0, [.int (nI nl), .ref pa, v2, v3, v4, v5, v6, .int 1, .int (nI zc), .ref vo]))) (h_pa : S pa = some (1, .inl ((g 2), 40, .inr (.inr (.inr (.inr (rfs eo 40))))))) (h_vo : S vo = some (10, .inr (7, [u0, u1, .ref qo, u3, .ref lz, u5, u6, .ref za, .ref mu9, .int (nI zc), .ref po]))) (h_qo : S qo = some (14, .inr (4, [q0, .ref ky, .int (nI s9), q3, q4, q5, q6, q7, q8, q9, q10, q11]))) (h_ky : S ky = some (15, .inl ((g 0), 16, .inl (fun j => nI (kQ j))))) (h_lz : S lz = some (32, .inl ((g 3), 3, .inr (.inr (.inr (.inr (rfs le 3))))))) (h_za : S za = some (35, .inl ((g 1), 16, .inr (.inr (.inr (.inr (rfs (fun ii => za + 1 + ii) 16))))))) (h_mu9 : S mu9 = some (36, .inl ((g 0), 16, .inl (fun j => nI (MQ j))))) (h_oa : S oa = some (9, .inl ((g 4), 1, .inr (.inl of)))) (hLo : oS g 570 3 le la dl (fun ii j => nI (CL ii j).val) S) (hZ : rS g 590 16 3 (fun ii => za + 1 + ii) (fun ii j => nI (ZZ ii j).val) S) (hnl : nl ≤ 3) (hs : s9 ≤ 16) (hzc : zc ≤ 16) (hk9 : k9 < s9) (hkq : kQ k9 = kN a9 b9 d9) (ha9 : a9 ≤ 9) (hb9 : b9 ≤ 9) (hd9 : d9 ≤ 9) : Met l y_L_left w_L_left ({ frames := 3, cells := 0, slots := 0, locals := 65 }) (va_Pc [.ref o, .int (nI k9), .ref oa] (mp_B0 D classes (tys g) S sz)) (va_Qi (fun (r : Int32) (S1 : mp_M) => r = nI 0 ∧ (∃ f1 : Nat → Int64, S1 oa = some (9, .inl ((g 4), 1, .inr (.inl f1))) ∧ f1 0 = (nI (a9 + 16 * b9 + 256 * d9)).toInt64) ∧ (∀ b t e9, S b = some (t, e9) → (t ≠ 9) → S1 b = some (t, e9))) (mp_B1 D classes S sz) (mp_A S sz)) 0 0 (mp_A S sz) := by
  refine va_MetW (hh := hh_L_left) (cc := b_L_left) (maxL := 4) (ret := (some .int)) (by decide) rfl ?_
  intro p e s m args below meth c s₁ B hml hv
  obtain ⟨rfl, hsz, hH, hK⟩ := hv
  have hx := B.exec
  have hb := B.bytes
  have hr := B.returns
  have hts := atoms_spec (ws := w_L_left) B.pre
  have hg : ∀ w ∈ gw, w.before _ s = true := fun w h => hts w (List.mem_cons_of_mem _ h)
  have hown : s.vm.findClass R_L = some m.cls := findClass_of_methodNamed B.named
  have hlocks := B.notSynchronized
  have hhh := lw_table B (hts _ List.mem_cons_self)
  subst hsz
  have hI := mp_I.start hH
  have hl := lv_entry ([.ref o, .int (nI k9), .ref oa]) (n := 4) (Nat.le_of_ble_eq_true rfl)
  rw [lg_entry_eq]
  generalize (lg_sl ([.ref o, .int (nI k9), .ref oa]) ++ List.replicate (4 - (lg_sl ([.ref o, .int (nI k9), .ref oa])).length) Slot.unset).toArray = ls at hl ⊢
  have hl : lv_has ls 4 [(0, .ref o), (1, .int (nI k9)), (2, .ref oa)] := hl
  have hfr : ∀ b t e9, S b = some (t, e9) → (t ≠ 9) → S b = some (t, e9) := fun _ _ _ h9 _ => h9
  refine lv_aload_n hx hb d_L_left_0 rfl (lv_at hl 2 rfl) ?_
  refine lv_iconst (v := nI 0) hx hb d_L_left_1 (by decide) ?_
  refine lv_aload_n hx hb d_L_left_2 rfl (lv_at hl 0 rfl) ?_
  refine lv_iload_n hx hb d_L_left_3 rfl (lv_at hl 1 rfl) ?_
  refine mp_calli hI (va_runV (As := [.int (nI k9)]) (rest := [.int (nI 0), .ref oa]) ⟨hx, hb, hml, hown, hg⟩ (c_B_leftK l D g S _ o pa vo qo ky lz za mu9 po nl s9 zc v2 v3 v4 v5 v6 u0 u1 u3 u5 u6 q0 q3 q4 q5 q6 q7 q8 q9 q10 q11 eo le la kQ MQ dl CL ZZ k9 a9 b9 d9 h_o h_pa h_vo h_qo h_ky h_lz h_za h_mu9 hLo hZ hnl hs hzc hk9 hkq ha9 hb9 hd9) ⟨(callB_of 1 hg (wd_goodG q_750) rfl rfl rfl (hg _ q_1) (hg _ q_747) (by decide +kernel) ⟨Nat.le_of_ble_eq_true rfl, Nat.le_of_ble_eq_true rfl⟩), hg _ q_748, hg _ q_749⟩ (mp_preV (C := R_B) (T := F_B) hI hK h_o rfl [.int (nI k9)]) rfl rfl hl.1 rfl (lv_room (Nat.le_of_ble_eq_true rfl)) d_L_left_4 ⟨Nat.le_of_ble_eq_true rfl, Nat.le_of_ble_eq_true rfl⟩) (fun r4 S1 H2 locs p_3 hI => ?_)
  obtain ⟨er4, eS5⟩ := p_3
  rw [eS5] at hI
  refine lv_i2l (v := (r4).toInt64) hx hb d_L_left_7 rfl ?_
  refine mp_last hx hb hK.va hI 4 h_oa rfl (vp_in_nI (by decide) (by decide)) d_L_left_8 (fun S6 H7 locs e_8 hI => ?_)
  have h_oa_o := h_oa
  have e_8 : S6 = va_up S oa (some (9, .inl ((g 4), 1, .inr (.inl (vp_updL of (nI 0).toNatClampNeg ((r4).toInt64)))))) := e_8
  have h_o : S6 o = some (0, .inr (0, [.int (nI nl), .ref pa, v2, v3, v4, v5, v6, .int 1, .int (nI zc), .ref vo])) := by rw [e_8]; exact mp_keep h_o h_oa (by decide)
  have h_pa : S6 pa = some (1, .inl ((g 2), 40, .inr (.inr (.inr (.inr (rfs eo 40)))))) := by rw [e_8]; exact mp_keep h_pa h_oa (by decide)
  have h_vo : S6 vo = some (10, .inr (7, [u0, u1, .ref qo, u3, .ref lz, u5, u6, .ref za, .ref mu9, .int (nI zc), .ref po])) := by rw [e_8]; exact mp_keep h_vo h_oa (by decide)
  have h_qo : S6 qo = some (14, .inr (4, [q0, .ref ky, .int (nI s9), q3, q4, q5, q6, q7, q8, q9, q10, q11])) := by rw [e_8]; exact mp_keep h_qo h_oa (by decide)
  have h_ky : S6 ky = some (15, .inl ((g 0), 16, .inl (fun j => nI (kQ j)))) := by rw [e_8]; exact mp_keep h_ky h_oa (by decide)
  have h_lz : S6 lz = some (32, .inl ((g 3), 3, .inr (.inr (.inr (.inr (rfs le 3)))))) := by rw [e_8]; exact mp_keep h_lz h_oa (by decide)
  have h_za : S6 za = some (35, .inl ((g 1), 16, .inr (.inr (.inr (.inr (rfs (fun ii => za + 1 + ii) 16)))))) := by rw [e_8]; exact mp_keep h_za h_oa (by decide)
  have h_mu9 : S6 mu9 = some (36, .inl ((g 0), 16, .inl (fun j => nI (MQ j)))) := by rw [e_8]; exact mp_keep h_mu9 h_oa (by decide)
  have h_oa : S6 oa = some (9, .inl ((g 4), 1, .inr (.inl (vp_updL of (nI 0).toNatClampNeg ((r4).toInt64))))) := by rw [e_8]; exact mp_us _ _ _
  have hfr : ∀ b t e9, S b = some (t, e9) → (t ≠ 9) → S6 b = some (t, e9) := fun b t e9 h9 k0 => by rw [e_8]; exact mp_keep (hfr b t e9 h9 k0) h_oa_o (by omega)
  refine lv_goto (tgt := 15) hx hb d_L_left_9 (by decide) ?_
  refine lv_iconst (v := nI 0) hx hb d_L_left_15 (by decide) ?_
  have hV9 : (r4).toInt64 = (nI (a9 + 16 * b9 + 256 * d9)).toInt64 := congrArg Int32.toInt64 er4
  refine mp_iret hx hb hr hlocks hI (Nat.le_of_ble_eq_true rfl) (Nat.le_of_ble_eq_true rfl) ?_ d_L_left_16
  exact ⟨rfl, ⟨_, h_oa, hV9⟩, hfr⟩
set_option maxHeartbeats 4000000 in
set_option maxRecDepth 100000 in
/-- a value comes back -/
theorem c_L_atK (l : Launch) (D : mp_G) (g : Nat → ClassId) (S : mp_M) (sz : Nat) (o pa vo qo ky lz za mu9 po nl s9 zc : Nat) (v2 v3 v4 v5 v6 u0 u1 u3 u5 u6 q0 q3 q4 q5 q6 q7 q8 q9 q10 q11 : Value) (eo le la kQ MQ : Nat → Nat) (dl : Nat → Int32) (CL ZZ : Nat → Nat → fF) (oa : Nat) (of : Nat → Int64) (z9 k9 : Nat) (h_o : S o = some (0, .inr (0, [.int (nI nl), .ref pa, v2, v3, v4, v5, v6, .int 1, .int (nI zc), .ref vo]))) (h_pa : S pa = some (1, .inl ((g 2), 40, .inr (.inr (.inr (.inr (rfs eo 40))))))) (h_vo : S vo = some (10, .inr (7, [u0, u1, .ref qo, u3, .ref lz, u5, u6, .ref za, .ref mu9, .int (nI zc), .ref po]))) (h_qo : S qo = some (14, .inr (4, [q0, .ref ky, .int (nI s9), q3, q4, q5, q6, q7, q8, q9, q10, q11]))) (h_ky : S ky = some (15, .inl ((g 0), 16, .inl (fun j => nI (kQ j))))) (h_lz : S lz = some (32, .inl ((g 3), 3, .inr (.inr (.inr (.inr (rfs le 3))))))) (h_za : S za = some (35, .inl ((g 1), 16, .inr (.inr (.inr (.inr (rfs (fun ii => za + 1 + ii) 16))))))) (h_mu9 : S mu9 = some (36, .inl ((g 0), 16, .inl (fun j => nI (MQ j))))) (h_oa : S oa = some (9, .inl ((g 4), 1, .inr (.inl of)))) (hLo : oS g 570 3 le la dl (fun ii j => nI (CL ii j).val) S) (hZ : rS g 590 16 3 (fun ii => za + 1 + ii) (fun ii j => nI (ZZ ii j).val) S) (hnl : nl ≤ 3) (hs : s9 ≤ 16) (hzc : zc ≤ 16) (hz9 : z9 < zc) (hk9 : k9 < nl) : Met l y_L_at w_L_at ({ frames := 2, cells := 0, slots := 0, locals := 45 }) (va_Pc [.ref o, .int (nI z9), .int (nI k9), .ref oa] (mp_B0 D classes (tys g) S sz)) (va_Qi (fun (r : Int32) (S1 : mp_M) => r = nI 0 ∧ (∃ f1 : Nat → Int64, S1 oa = some (9, .inl ((g 4), 1, .inr (.inl f1))) ∧ f1 0 = (nI (ZZ z9 k9).val).toInt64) ∧ (∀ b t e9, S b = some (t, e9) → (t ≠ 9) → S1 b = some (t, e9))) (mp_B1 D classes S sz) (mp_A S sz)) 0 0 (mp_A S sz) := by
  refine va_MetW (hh := hh_L_at) (cc := b_L_at) (maxL := 5) (ret := (some .int)) (by decide) rfl ?_
  intro p e s m args below meth c s₁ B hml hv
  obtain ⟨rfl, hsz, hH, hK⟩ := hv
  have hx := B.exec
  have hb := B.bytes
  have hr := B.returns
  have hts := atoms_spec (ws := w_L_at) B.pre
  have hg : ∀ w ∈ gw, w.before _ s = true := fun w h => hts w (List.mem_cons_of_mem _ h)
  have hown : s.vm.findClass R_L = some m.cls := findClass_of_methodNamed B.named
  have hlocks := B.notSynchronized
  have hhh := lw_table B (hts _ List.mem_cons_self)
  subst hsz
  have hI := mp_I.start hH
  have hl := lv_entry ([.ref o, .int (nI z9), .int (nI k9), .ref oa]) (n := 5) (Nat.le_of_ble_eq_true rfl)
  rw [lg_entry_eq]
  generalize (lg_sl ([.ref o, .int (nI z9), .int (nI k9), .ref oa]) ++ List.replicate (5 - (lg_sl ([.ref o, .int (nI z9), .int (nI k9), .ref oa])).length) Slot.unset).toArray = ls at hl ⊢
  have hl : lv_has ls 5 [(0, .ref o), (1, .int (nI z9)), (2, .int (nI k9)), (3, .ref oa)] := hl
  have hfr : ∀ b t e9, S b = some (t, e9) → (t ≠ 9) → S b = some (t, e9) := fun _ _ _ h9 _ => h9
  refine lv_aload_n hx hb d_L_at_0 rfl (lv_at hl 3 rfl) ?_
  refine lv_iconst (v := nI 0) hx hb d_L_at_1 (by decide) ?_
  refine lv_aload_n hx hb d_L_at_2 rfl (lv_at hl 0 rfl) ?_
  refine lv_iload_n hx hb d_L_at_3 rfl (lv_at hl 1 rfl) ?_
  refine lv_iload_n hx hb d_L_at_4 rfl (lv_at hl 2 rfl) ?_
  refine mp_calli hI (va_runV (As := [.int (nI z9), .int (nI k9)]) (rest := [.int (nI 0), .ref oa]) ⟨hx, hb, hml, hown, hg⟩ (c_B_atK l D g S _ o pa vo qo ky lz za mu9 po nl s9 zc v2 v3 v4 v5 v6 u0 u1 u3 u5 u6 q0 q3 q4 q5 q6 q7 q8 q9 q10 q11 eo le la kQ MQ dl CL ZZ z9 k9 h_o h_pa h_vo h_qo h_ky h_lz h_za h_mu9 hLo hZ hnl hs hzc hz9 hk9) ⟨(callB_of 2 hg (wd_goodG q_760) rfl rfl rfl (hg _ q_1) (hg _ q_757) (by decide +kernel) ⟨Nat.le_of_ble_eq_true rfl, Nat.le_of_ble_eq_true rfl⟩), hg _ q_758, hg _ q_759⟩ (mp_preV (C := R_B) (T := F_B) hI hK h_o rfl [.int (nI z9), .int (nI k9)]) rfl rfl hl.1 rfl (lv_room (Nat.le_of_ble_eq_true rfl)) d_L_at_5 ⟨Nat.le_of_ble_eq_true rfl, Nat.le_of_ble_eq_true rfl⟩) (fun r4 S1 H2 locs p_3 hI => ?_)
  obtain ⟨er4, eS5⟩ := p_3
  rw [eS5] at hI
  refine lv_i2l (v := (r4).toInt64) hx hb d_L_at_8 rfl ?_
  refine mp_last hx hb hK.va hI 4 h_oa rfl (vp_in_nI (by decide) (by decide)) d_L_at_9 (fun S6 H7 locs e_8 hI => ?_)
  have h_oa_o := h_oa
  have e_8 : S6 = va_up S oa (some (9, .inl ((g 4), 1, .inr (.inl (vp_updL of (nI 0).toNatClampNeg ((r4).toInt64)))))) := e_8
  have h_o : S6 o = some (0, .inr (0, [.int (nI nl), .ref pa, v2, v3, v4, v5, v6, .int 1, .int (nI zc), .ref vo])) := by rw [e_8]; exact mp_keep h_o h_oa (by decide)
  have h_pa : S6 pa = some (1, .inl ((g 2), 40, .inr (.inr (.inr (.inr (rfs eo 40)))))) := by rw [e_8]; exact mp_keep h_pa h_oa (by decide)
  have h_vo : S6 vo = some (10, .inr (7, [u0, u1, .ref qo, u3, .ref lz, u5, u6, .ref za, .ref mu9, .int (nI zc), .ref po])) := by rw [e_8]; exact mp_keep h_vo h_oa (by decide)
  have h_qo : S6 qo = some (14, .inr (4, [q0, .ref ky, .int (nI s9), q3, q4, q5, q6, q7, q8, q9, q10, q11])) := by rw [e_8]; exact mp_keep h_qo h_oa (by decide)
  have h_ky : S6 ky = some (15, .inl ((g 0), 16, .inl (fun j => nI (kQ j)))) := by rw [e_8]; exact mp_keep h_ky h_oa (by decide)
  have h_lz : S6 lz = some (32, .inl ((g 3), 3, .inr (.inr (.inr (.inr (rfs le 3)))))) := by rw [e_8]; exact mp_keep h_lz h_oa (by decide)
  have h_za : S6 za = some (35, .inl ((g 1), 16, .inr (.inr (.inr (.inr (rfs (fun ii => za + 1 + ii) 16)))))) := by rw [e_8]; exact mp_keep h_za h_oa (by decide)
  have h_mu9 : S6 mu9 = some (36, .inl ((g 0), 16, .inl (fun j => nI (MQ j)))) := by rw [e_8]; exact mp_keep h_mu9 h_oa (by decide)
  have h_oa : S6 oa = some (9, .inl ((g 4), 1, .inr (.inl (vp_updL of (nI 0).toNatClampNeg ((r4).toInt64))))) := by rw [e_8]; exact mp_us _ _ _
  have hfr : ∀ b t e9, S b = some (t, e9) → (t ≠ 9) → S6 b = some (t, e9) := fun b t e9 h9 k0 => by rw [e_8]; exact mp_keep (hfr b t e9 h9 k0) h_oa_o (by omega)
  refine lv_goto (tgt := 25) hx hb d_L_at_10 (by decide) ?_
  refine lv_iconst (v := nI 0) hx hb d_L_at_25 (by decide) ?_
  have hV9 : (r4).toInt64 = (nI (ZZ z9 k9).val).toInt64 := congrArg Int32.toInt64 er4
  refine mp_iret hx hb hr hlocks hI (Nat.le_of_ble_eq_true rfl) (Nat.le_of_ble_eq_true rfl) ?_ d_L_at_26
  exact ⟨rfl, ⟨_, h_oa, hV9⟩, hfr⟩
set_option maxHeartbeats 4000000 in
set_option maxRecDepth 100000 in
/-- a value comes back -/
theorem c_L_mulK (l : Launch) (D : mp_G) (g : Nat → ClassId) (S : mp_M) (sz : Nat) (o pa vo qo ky lz za mu9 po nl s9 zc : Nat) (v2 v3 v4 v5 v6 u0 u1 u3 u5 u6 q0 q3 q4 q5 q6 q7 q8 q9 q10 q11 : Value) (eo le la kQ MQ : Nat → Nat) (dl : Nat → Int32) (CL ZZ : Nat → Nat → fF) (oa : Nat) (of : Nat → Int64) (z9 : Nat) (h_o : S o = some (0, .inr (0, [.int (nI nl), .ref pa, v2, v3, v4, v5, v6, .int 1, .int (nI zc), .ref vo]))) (h_pa : S pa = some (1, .inl ((g 2), 40, .inr (.inr (.inr (.inr (rfs eo 40))))))) (h_vo : S vo = some (10, .inr (7, [u0, u1, .ref qo, u3, .ref lz, u5, u6, .ref za, .ref mu9, .int (nI zc), .ref po]))) (h_qo : S qo = some (14, .inr (4, [q0, .ref ky, .int (nI s9), q3, q4, q5, q6, q7, q8, q9, q10, q11]))) (h_ky : S ky = some (15, .inl ((g 0), 16, .inl (fun j => nI (kQ j))))) (h_lz : S lz = some (32, .inl ((g 3), 3, .inr (.inr (.inr (.inr (rfs le 3))))))) (h_za : S za = some (35, .inl ((g 1), 16, .inr (.inr (.inr (.inr (rfs (fun ii => za + 1 + ii) 16))))))) (h_mu9 : S mu9 = some (36, .inl ((g 0), 16, .inl (fun j => nI (MQ j))))) (h_oa : S oa = some (9, .inl ((g 4), 1, .inr (.inl of)))) (hLo : oS g 570 3 le la dl (fun ii j => nI (CL ii j).val) S) (hZ : rS g 590 16 3 (fun ii => za + 1 + ii) (fun ii j => nI (ZZ ii j).val) S) (hnl : nl ≤ 3) (hs : s9 ≤ 16) (hzc : zc ≤ 16) (hz9 : z9 < zc) : Met l y_L_multiplicity w_L_multiplicity ({ frames := 2, cells := 0, slots := 0, locals := 44 }) (va_Pc [.ref o, .int (nI z9), .ref oa] (mp_B0 D classes (tys g) S sz)) (va_Qi (fun (r : Int32) (S1 : mp_M) => r = nI 0 ∧ (∃ f1 : Nat → Int64, S1 oa = some (9, .inl ((g 4), 1, .inr (.inl f1))) ∧ f1 0 = (nI (MQ z9)).toInt64) ∧ (∀ b t e9, S b = some (t, e9) → (t ≠ 9) → S1 b = some (t, e9))) (mp_B1 D classes S sz) (mp_A S sz)) 0 0 (mp_A S sz) := by
  refine va_MetW (hh := hh_L_multiplicity) (cc := b_L_multiplicity) (maxL := 4) (ret := (some .int)) (by decide) rfl ?_
  intro p e s m args below meth c s₁ B hml hv
  obtain ⟨rfl, hsz, hH, hK⟩ := hv
  have hx := B.exec
  have hb := B.bytes
  have hr := B.returns
  have hts := atoms_spec (ws := w_L_multiplicity) B.pre
  have hg : ∀ w ∈ gw, w.before _ s = true := fun w h => hts w (List.mem_cons_of_mem _ h)
  have hown : s.vm.findClass R_L = some m.cls := findClass_of_methodNamed B.named
  have hlocks := B.notSynchronized
  have hhh := lw_table B (hts _ List.mem_cons_self)
  subst hsz
  have hI := mp_I.start hH
  have hl := lv_entry ([.ref o, .int (nI z9), .ref oa]) (n := 4) (Nat.le_of_ble_eq_true rfl)
  rw [lg_entry_eq]
  generalize (lg_sl ([.ref o, .int (nI z9), .ref oa]) ++ List.replicate (4 - (lg_sl ([.ref o, .int (nI z9), .ref oa])).length) Slot.unset).toArray = ls at hl ⊢
  have hl : lv_has ls 4 [(0, .ref o), (1, .int (nI z9)), (2, .ref oa)] := hl
  have hfr : ∀ b t e9, S b = some (t, e9) → (t ≠ 9) → S b = some (t, e9) := fun _ _ _ h9 _ => h9
  refine lv_aload_n hx hb d_L_multiplicity_0 rfl (lv_at hl 2 rfl) ?_
  refine lv_iconst (v := nI 0) hx hb d_L_multiplicity_1 (by decide) ?_
  refine lv_aload_n hx hb d_L_multiplicity_2 rfl (lv_at hl 0 rfl) ?_
  refine lv_iload_n hx hb d_L_multiplicity_3 rfl (lv_at hl 1 rfl) ?_
  refine mp_calli hI (va_runV (As := [.int (nI z9)]) (rest := [.int (nI 0), .ref oa]) ⟨hx, hb, hml, hown, hg⟩ (c_B_mulK l D g S _ o pa vo qo ky lz za mu9 po nl s9 zc v2 v3 v4 v5 v6 u0 u1 u3 u5 u6 q0 q3 q4 q5 q6 q7 q8 q9 q10 q11 eo le la kQ MQ dl CL ZZ z9 h_o h_pa h_vo h_qo h_ky h_lz h_za h_mu9 hLo hZ hnl hs hzc hz9) ⟨(callB_of 1 hg (wd_goodG q_776) rfl rfl rfl (hg _ q_1) (hg _ q_773) (by decide +kernel) ⟨Nat.le_of_ble_eq_true rfl, Nat.le_of_ble_eq_true rfl⟩), hg _ q_774, hg _ q_775⟩ (mp_preV (C := R_B) (T := F_B) hI hK h_o rfl [.int (nI z9)]) rfl rfl hl.1 rfl (lv_room (Nat.le_of_ble_eq_true rfl)) d_L_multiplicity_4 ⟨Nat.le_of_ble_eq_true rfl, Nat.le_of_ble_eq_true rfl⟩) (fun r4 S1 H2 locs p_3 hI => ?_)
  obtain ⟨er4, eS5⟩ := p_3
  rw [eS5] at hI
  refine lv_i2l (v := (r4).toInt64) hx hb d_L_multiplicity_7 rfl ?_
  refine mp_last hx hb hK.va hI 4 h_oa rfl (vp_in_nI (by decide) (by decide)) d_L_multiplicity_8 (fun S6 H7 locs e_8 hI => ?_)
  have h_oa_o := h_oa
  have e_8 : S6 = va_up S oa (some (9, .inl ((g 4), 1, .inr (.inl (vp_updL of (nI 0).toNatClampNeg ((r4).toInt64)))))) := e_8
  have h_o : S6 o = some (0, .inr (0, [.int (nI nl), .ref pa, v2, v3, v4, v5, v6, .int 1, .int (nI zc), .ref vo])) := by rw [e_8]; exact mp_keep h_o h_oa (by decide)
  have h_pa : S6 pa = some (1, .inl ((g 2), 40, .inr (.inr (.inr (.inr (rfs eo 40)))))) := by rw [e_8]; exact mp_keep h_pa h_oa (by decide)
  have h_vo : S6 vo = some (10, .inr (7, [u0, u1, .ref qo, u3, .ref lz, u5, u6, .ref za, .ref mu9, .int (nI zc), .ref po])) := by rw [e_8]; exact mp_keep h_vo h_oa (by decide)
  have h_qo : S6 qo = some (14, .inr (4, [q0, .ref ky, .int (nI s9), q3, q4, q5, q6, q7, q8, q9, q10, q11])) := by rw [e_8]; exact mp_keep h_qo h_oa (by decide)
  have h_ky : S6 ky = some (15, .inl ((g 0), 16, .inl (fun j => nI (kQ j)))) := by rw [e_8]; exact mp_keep h_ky h_oa (by decide)
  have h_lz : S6 lz = some (32, .inl ((g 3), 3, .inr (.inr (.inr (.inr (rfs le 3)))))) := by rw [e_8]; exact mp_keep h_lz h_oa (by decide)
  have h_za : S6 za = some (35, .inl ((g 1), 16, .inr (.inr (.inr (.inr (rfs (fun ii => za + 1 + ii) 16)))))) := by rw [e_8]; exact mp_keep h_za h_oa (by decide)
  have h_mu9 : S6 mu9 = some (36, .inl ((g 0), 16, .inl (fun j => nI (MQ j)))) := by rw [e_8]; exact mp_keep h_mu9 h_oa (by decide)
  have h_oa : S6 oa = some (9, .inl ((g 4), 1, .inr (.inl (vp_updL of (nI 0).toNatClampNeg ((r4).toInt64))))) := by rw [e_8]; exact mp_us _ _ _
  have hfr : ∀ b t e9, S b = some (t, e9) → (t ≠ 9) → S6 b = some (t, e9) := fun b t e9 h9 k0 => by rw [e_8]; exact mp_keep (hfr b t e9 h9 k0) h_oa_o (by omega)
  refine lv_goto (tgt := 18) hx hb d_L_multiplicity_9 (by decide) ?_
  refine lv_iconst (v := nI 0) hx hb d_L_multiplicity_18 (by decide) ?_
  have hV9 : (r4).toInt64 = (nI (MQ z9)).toInt64 := congrArg Int32.toInt64 er4
  refine mp_iret hx hb hr hlocks hI (Nat.le_of_ble_eq_true rfl) (Nat.le_of_ble_eq_true rfl) ?_ d_L_multiplicity_19
  exact ⟨rfl, ⟨_, h_oa, hV9⟩, hfr⟩
set_option maxHeartbeats 4000000 in
set_option maxRecDepth 100000 in
/-- a value comes back -/
theorem c_L_minE (l : Launch) (D : mp_G) (g : Nat → ClassId) (S : mp_M) (sz : Nat) (o pa vo qo ky lz za mu9 po nl s9 zc : Nat) (v2 v3 v4 v5 v6 u0 u1 u3 u5 u6 q0 q3 q4 q5 q6 q7 q8 q9 q10 q11 : Value) (eo le la kQ MQ : Nat → Nat) (dl : Nat → Int32) (CL ZZ : Nat → Nat → fF) (oa : Nat) (of : Nat → Int64) (k9 d9 : Nat) (x : Int32) (h_o : S o = some (0, .inr (0, [.int (nI nl), .ref pa, v2, v3, v4, v5, v6, .int 1, .int (nI zc), .ref vo]))) (h_pa : S pa = some (1, .inl ((g 2), 40, .inr (.inr (.inr (.inr (rfs eo 40))))))) (h_vo : S vo = some (10, .inr (7, [u0, u1, .ref qo, u3, .ref lz, u5, u6, .ref za, .ref mu9, .int (nI zc), .ref po]))) (h_qo : S qo = some (14, .inr (4, [q0, .ref ky, .int (nI s9), q3, q4, q5, q6, q7, q8, q9, q10, q11]))) (h_ky : S ky = some (15, .inl ((g 0), 16, .inl (fun j => nI (kQ j))))) (h_lz : S lz = some (32, .inl ((g 3), 3, .inr (.inr (.inr (.inr (rfs le 3))))))) (h_za : S za = some (35, .inl ((g 1), 16, .inr (.inr (.inr (.inr (rfs (fun ii => za + 1 + ii) 16))))))) (h_mu9 : S mu9 = some (36, .inl ((g 0), 16, .inl (fun j => nI (MQ j))))) (h_oa : S oa = some (9, .inl ((g 4), 1, .inr (.inl of)))) (hLo : oS g 570 3 le la dl (fun ii j => nI (CL ii j).val) S) (hZ : rS g 590 16 3 (fun ii => za + 1 + ii) (fun ii j => nI (ZZ ii j).val) S) (hnl : nl ≤ 3) (hs : s9 ≤ 16) (hzc : zc ≤ 16) (hk9 : k9 < nl) (hdl : dl k9 = nI d9) (hx9 : x < 0 ∨ nI d9 < x) : Met l y_L_minimal w_L_minimal ({ frames := 2, cells := 0, slots := 0, locals := 45 }) (va_Pc [.ref o, .int (nI k9), .int x, .ref oa] (mp_B0 D classes (tys g) S sz)) (va_Qi (fun (r : Int32) (S1 : mp_M) => r = nI 0 ∧ (∃ f1 : Nat → Int64, S1 oa = some (9, .inl ((g 4), 1, .inr (.inl f1))) ∧ f1 0 = (0).toInt64) ∧ (∀ b t e9, S b = some (t, e9) → (t ≠ 9) → S1 b = some (t, e9))) (mp_B1 D classes S sz) (mp_A S sz)) 0 0 (mp_A S sz) := by
  refine va_MetW (hh := hh_L_minimal) (cc := b_L_minimal) (maxL := 5) (ret := (some .int)) (by decide) rfl ?_
  intro p e s m args below meth c s₁ B hml hv
  obtain ⟨rfl, hsz, hH, hK⟩ := hv
  have hx := B.exec
  have hb := B.bytes
  have hr := B.returns
  have hts := atoms_spec (ws := w_L_minimal) B.pre
  have hg : ∀ w ∈ gw, w.before _ s = true := fun w h => hts w (List.mem_cons_of_mem _ h)
  have hown : s.vm.findClass R_L = some m.cls := findClass_of_methodNamed B.named
  have hlocks := B.notSynchronized
  have hhh := lw_table B (hts _ List.mem_cons_self)
  subst hsz
  have hI := mp_I.start hH
  have hl := lv_entry ([.ref o, .int (nI k9), .int x, .ref oa]) (n := 5) (Nat.le_of_ble_eq_true rfl)
  rw [lg_entry_eq]
  generalize (lg_sl ([.ref o, .int (nI k9), .int x, .ref oa]) ++ List.replicate (5 - (lg_sl ([.ref o, .int (nI k9), .int x, .ref oa])).length) Slot.unset).toArray = ls at hl ⊢
  have hl : lv_has ls 5 [(0, .ref o), (1, .int (nI k9)), (2, .int x), (3, .ref oa)] := hl
  have hfr : ∀ b t e9, S b = some (t, e9) → (t ≠ 9) → S b = some (t, e9) := fun _ _ _ h9 _ => h9
  refine lv_aload_n hx hb d_L_minimal_0 rfl (lv_at hl 3 rfl) ?_
  refine lv_iconst (v := nI 0) hx hb d_L_minimal_1 (by decide) ?_
  refine lv_aload_n hx hb d_L_minimal_2 rfl (lv_at hl 0 rfl) ?_
  refine lv_iload_n hx hb d_L_minimal_3 rfl (lv_at hl 1 rfl) ?_
  refine lv_iload_n hx hb d_L_minimal_4 rfl (lv_at hl 2 rfl) ?_
  refine mp_calli hI (va_runV (As := [.int (nI k9), .int x]) (rest := [.int (nI 0), .ref oa]) ⟨hx, hb, hml, hown, hg⟩ (c_B_minE l D g S _ o pa vo qo ky lz za mu9 po nl s9 zc v2 v3 v4 v5 v6 u0 u1 u3 u5 u6 q0 q3 q4 q5 q6 q7 q8 q9 q10 q11 eo le la kQ MQ dl CL ZZ k9 d9 x h_o h_pa h_vo h_qo h_ky h_lz h_za h_mu9 hLo hZ hnl hs hzc hk9 hdl hx9) ⟨(callB_of 2 hg (wd_goodG q_783) rfl rfl rfl (hg _ q_1) (hg _ q_780) (by decide +kernel) ⟨Nat.le_of_ble_eq_true rfl, Nat.le_of_ble_eq_true rfl⟩), hg _ q_781, hg _ q_782⟩ (mp_preV (C := R_B) (T := F_B) hI hK h_o rfl [.int (nI k9), .int x]) rfl rfl hl.1 rfl (lv_room (Nat.le_of_ble_eq_true rfl)) d_L_minimal_5 ⟨Nat.le_of_ble_eq_true rfl, Nat.le_of_ble_eq_true rfl⟩) (fun r4 S1 H2 locs p_3 hI => ?_)
  obtain ⟨er4, eS5⟩ := p_3
  rw [eS5] at hI
  refine lv_i2l (v := (r4).toInt64) hx hb d_L_minimal_8 rfl ?_
  refine mp_last hx hb hK.va hI 4 h_oa rfl (vp_in_nI (by decide) (by decide)) d_L_minimal_9 (fun S6 H7 locs e_8 hI => ?_)
  have h_oa_o := h_oa
  have e_8 : S6 = va_up S oa (some (9, .inl ((g 4), 1, .inr (.inl (vp_updL of (nI 0).toNatClampNeg ((r4).toInt64)))))) := e_8
  have h_o : S6 o = some (0, .inr (0, [.int (nI nl), .ref pa, v2, v3, v4, v5, v6, .int 1, .int (nI zc), .ref vo])) := by rw [e_8]; exact mp_keep h_o h_oa (by decide)
  have h_pa : S6 pa = some (1, .inl ((g 2), 40, .inr (.inr (.inr (.inr (rfs eo 40)))))) := by rw [e_8]; exact mp_keep h_pa h_oa (by decide)
  have h_vo : S6 vo = some (10, .inr (7, [u0, u1, .ref qo, u3, .ref lz, u5, u6, .ref za, .ref mu9, .int (nI zc), .ref po])) := by rw [e_8]; exact mp_keep h_vo h_oa (by decide)
  have h_qo : S6 qo = some (14, .inr (4, [q0, .ref ky, .int (nI s9), q3, q4, q5, q6, q7, q8, q9, q10, q11])) := by rw [e_8]; exact mp_keep h_qo h_oa (by decide)
  have h_ky : S6 ky = some (15, .inl ((g 0), 16, .inl (fun j => nI (kQ j)))) := by rw [e_8]; exact mp_keep h_ky h_oa (by decide)
  have h_lz : S6 lz = some (32, .inl ((g 3), 3, .inr (.inr (.inr (.inr (rfs le 3)))))) := by rw [e_8]; exact mp_keep h_lz h_oa (by decide)
  have h_za : S6 za = some (35, .inl ((g 1), 16, .inr (.inr (.inr (.inr (rfs (fun ii => za + 1 + ii) 16)))))) := by rw [e_8]; exact mp_keep h_za h_oa (by decide)
  have h_mu9 : S6 mu9 = some (36, .inl ((g 0), 16, .inl (fun j => nI (MQ j)))) := by rw [e_8]; exact mp_keep h_mu9 h_oa (by decide)
  have h_oa : S6 oa = some (9, .inl ((g 4), 1, .inr (.inl (vp_updL of (nI 0).toNatClampNeg ((r4).toInt64))))) := by rw [e_8]; exact mp_us _ _ _
  have hfr : ∀ b t e9, S b = some (t, e9) → (t ≠ 9) → S6 b = some (t, e9) := fun b t e9 h9 k0 => by rw [e_8]; exact mp_keep (hfr b t e9 h9 k0) h_oa_o (by omega)
  refine lv_goto (tgt := 21) hx hb d_L_minimal_10 (by decide) ?_
  refine lv_iconst (v := nI 0) hx hb d_L_minimal_21 (by decide) ?_
  have hV9 : (r4).toInt64 = (0).toInt64 := congrArg Int32.toInt64 er4
  refine mp_iret hx hb hr hlocks hI (Nat.le_of_ble_eq_true rfl) (Nat.le_of_ble_eq_true rfl) ?_ d_L_minimal_22
  exact ⟨rfl, ⟨_, h_oa, hV9⟩, hfr⟩
set_option maxHeartbeats 4000000 in
set_option maxRecDepth 100000 in
/-- a value comes back -/
theorem c_L_minK (l : Launch) (D : mp_G) (g : Nat → ClassId) (S : mp_M) (sz : Nat) (o pa vo qo ky lz za mu9 po nl s9 zc : Nat) (v2 v3 v4 v5 v6 u0 u1 u3 u5 u6 q0 q3 q4 q5 q6 q7 q8 q9 q10 q11 : Value) (eo le la kQ MQ : Nat → Nat) (dl : Nat → Int32) (CL ZZ : Nat → Nat → fF) (oa : Nat) (of : Nat → Int64) (k9 d9 e9 : Nat) (h_o : S o = some (0, .inr (0, [.int (nI nl), .ref pa, v2, v3, v4, v5, v6, .int 1, .int (nI zc), .ref vo]))) (h_pa : S pa = some (1, .inl ((g 2), 40, .inr (.inr (.inr (.inr (rfs eo 40))))))) (h_vo : S vo = some (10, .inr (7, [u0, u1, .ref qo, u3, .ref lz, u5, u6, .ref za, .ref mu9, .int (nI zc), .ref po]))) (h_qo : S qo = some (14, .inr (4, [q0, .ref ky, .int (nI s9), q3, q4, q5, q6, q7, q8, q9, q10, q11]))) (h_ky : S ky = some (15, .inl ((g 0), 16, .inl (fun j => nI (kQ j))))) (h_lz : S lz = some (32, .inl ((g 3), 3, .inr (.inr (.inr (.inr (rfs le 3))))))) (h_za : S za = some (35, .inl ((g 1), 16, .inr (.inr (.inr (.inr (rfs (fun ii => za + 1 + ii) 16))))))) (h_mu9 : S mu9 = some (36, .inl ((g 0), 16, .inl (fun j => nI (MQ j))))) (h_oa : S oa = some (9, .inl ((g 4), 1, .inr (.inl of)))) (hLo : oS g 570 3 le la dl (fun ii j => nI (CL ii j).val) S) (hZ : rS g 590 16 3 (fun ii => za + 1 + ii) (fun ii j => nI (ZZ ii j).val) S) (hnl : nl ≤ 3) (hs : s9 ≤ 16) (hzc : zc ≤ 16) (hk9 : k9 < nl) (hdl : dl k9 = nI d9) (he9 : e9 ≤ d9) (hd9 : d9 ≤ 16) : Met l y_L_minimal w_L_minimal ({ frames := 2, cells := 0, slots := 0, locals := 45 }) (va_Pc [.ref o, .int (nI k9), .int (nI e9), .ref oa] (mp_B0 D classes (tys g) S sz)) (va_Qi (fun (r : Int32) (S1 : mp_M) => r = nI 0 ∧ (∃ f1 : Nat → Int64, S1 oa = some (9, .inl ((g 4), 1, .inr (.inl f1))) ∧ f1 0 = (nI (CL k9 e9).val).toInt64) ∧ (∀ b t e9, S b = some (t, e9) → (t ≠ 9) → S1 b = some (t, e9))) (mp_B1 D classes S sz) (mp_A S sz)) 0 0 (mp_A S sz) := by
  refine va_MetW (hh := hh_L_minimal) (cc := b_L_minimal) (maxL := 5) (ret := (some .int)) (by decide) rfl ?_
  intro p e s m args below meth c s₁ B hml hv
  obtain ⟨rfl, hsz, hH, hK⟩ := hv
  have hx := B.exec
  have hb := B.bytes
  have hr := B.returns
  have hts := atoms_spec (ws := w_L_minimal) B.pre
  have hg : ∀ w ∈ gw, w.before _ s = true := fun w h => hts w (List.mem_cons_of_mem _ h)
  have hown : s.vm.findClass R_L = some m.cls := findClass_of_methodNamed B.named
  have hlocks := B.notSynchronized
  have hhh := lw_table B (hts _ List.mem_cons_self)
  subst hsz
  have hI := mp_I.start hH
  have hl := lv_entry ([.ref o, .int (nI k9), .int (nI e9), .ref oa]) (n := 5) (Nat.le_of_ble_eq_true rfl)
  rw [lg_entry_eq]
  generalize (lg_sl ([.ref o, .int (nI k9), .int (nI e9), .ref oa]) ++ List.replicate (5 - (lg_sl ([.ref o, .int (nI k9), .int (nI e9), .ref oa])).length) Slot.unset).toArray = ls at hl ⊢
  have hl : lv_has ls 5 [(0, .ref o), (1, .int (nI k9)), (2, .int (nI e9)), (3, .ref oa)] := hl
  have hfr : ∀ b t e9, S b = some (t, e9) → (t ≠ 9) → S b = some (t, e9) := fun _ _ _ h9 _ => h9
  refine lv_aload_n hx hb d_L_minimal_0 rfl (lv_at hl 3 rfl) ?_
  refine lv_iconst (v := nI 0) hx hb d_L_minimal_1 (by decide) ?_
  refine lv_aload_n hx hb d_L_minimal_2 rfl (lv_at hl 0 rfl) ?_
  refine lv_iload_n hx hb d_L_minimal_3 rfl (lv_at hl 1 rfl) ?_
  refine lv_iload_n hx hb d_L_minimal_4 rfl (lv_at hl 2 rfl) ?_
  refine mp_calli hI (va_runV (As := [.int (nI k9), .int (nI e9)]) (rest := [.int (nI 0), .ref oa]) ⟨hx, hb, hml, hown, hg⟩ (c_B_minK l D g S _ o pa vo qo ky lz za mu9 po nl s9 zc v2 v3 v4 v5 v6 u0 u1 u3 u5 u6 q0 q3 q4 q5 q6 q7 q8 q9 q10 q11 eo le la kQ MQ dl CL ZZ k9 d9 e9 h_o h_pa h_vo h_qo h_ky h_lz h_za h_mu9 hLo hZ hnl hs hzc hk9 hdl he9 hd9) ⟨(callB_of 2 hg (wd_goodG q_783) rfl rfl rfl (hg _ q_1) (hg _ q_780) (by decide +kernel) ⟨Nat.le_of_ble_eq_true rfl, Nat.le_of_ble_eq_true rfl⟩), hg _ q_781, hg _ q_782⟩ (mp_preV (C := R_B) (T := F_B) hI hK h_o rfl [.int (nI k9), .int (nI e9)]) rfl rfl hl.1 rfl (lv_room (Nat.le_of_ble_eq_true rfl)) d_L_minimal_5 ⟨Nat.le_of_ble_eq_true rfl, Nat.le_of_ble_eq_true rfl⟩) (fun r4 S1 H2 locs p_3 hI => ?_)
  obtain ⟨er4, eS5⟩ := p_3
  rw [eS5] at hI
  refine lv_i2l (v := (r4).toInt64) hx hb d_L_minimal_8 rfl ?_
  refine mp_last hx hb hK.va hI 4 h_oa rfl (vp_in_nI (by decide) (by decide)) d_L_minimal_9 (fun S6 H7 locs e_8 hI => ?_)
  have h_oa_o := h_oa
  have e_8 : S6 = va_up S oa (some (9, .inl ((g 4), 1, .inr (.inl (vp_updL of (nI 0).toNatClampNeg ((r4).toInt64)))))) := e_8
  have h_o : S6 o = some (0, .inr (0, [.int (nI nl), .ref pa, v2, v3, v4, v5, v6, .int 1, .int (nI zc), .ref vo])) := by rw [e_8]; exact mp_keep h_o h_oa (by decide)
  have h_pa : S6 pa = some (1, .inl ((g 2), 40, .inr (.inr (.inr (.inr (rfs eo 40)))))) := by rw [e_8]; exact mp_keep h_pa h_oa (by decide)
  have h_vo : S6 vo = some (10, .inr (7, [u0, u1, .ref qo, u3, .ref lz, u5, u6, .ref za, .ref mu9, .int (nI zc), .ref po])) := by rw [e_8]; exact mp_keep h_vo h_oa (by decide)
  have h_qo : S6 qo = some (14, .inr (4, [q0, .ref ky, .int (nI s9), q3, q4, q5, q6, q7, q8, q9, q10, q11])) := by rw [e_8]; exact mp_keep h_qo h_oa (by decide)
  have h_ky : S6 ky = some (15, .inl ((g 0), 16, .inl (fun j => nI (kQ j)))) := by rw [e_8]; exact mp_keep h_ky h_oa (by decide)
  have h_lz : S6 lz = some (32, .inl ((g 3), 3, .inr (.inr (.inr (.inr (rfs le 3)))))) := by rw [e_8]; exact mp_keep h_lz h_oa (by decide)
  have h_za : S6 za = some (35, .inl ((g 1), 16, .inr (.inr (.inr (.inr (rfs (fun ii => za + 1 + ii) 16)))))) := by rw [e_8]; exact mp_keep h_za h_oa (by decide)
  have h_mu9 : S6 mu9 = some (36, .inl ((g 0), 16, .inl (fun j => nI (MQ j)))) := by rw [e_8]; exact mp_keep h_mu9 h_oa (by decide)
  have h_oa : S6 oa = some (9, .inl ((g 4), 1, .inr (.inl (vp_updL of (nI 0).toNatClampNeg ((r4).toInt64))))) := by rw [e_8]; exact mp_us _ _ _
  have hfr : ∀ b t e9, S b = some (t, e9) → (t ≠ 9) → S6 b = some (t, e9) := fun b t e9 h9 k0 => by rw [e_8]; exact mp_keep (hfr b t e9 h9 k0) h_oa_o (by omega)
  refine lv_goto (tgt := 21) hx hb d_L_minimal_10 (by decide) ?_
  refine lv_iconst (v := nI 0) hx hb d_L_minimal_21 (by decide) ?_
  have hV9 : (r4).toInt64 = (nI (CL k9 e9).val).toInt64 := congrArg Int32.toInt64 er4
  refine mp_iret hx hb hr hlocks hI (Nat.le_of_ble_eq_true rfl) (Nat.le_of_ble_eq_true rfl) ?_ d_L_minimal_22
  exact ⟨rfl, ⟨_, h_oa, hV9⟩, hfr⟩
set_option maxHeartbeats 4000000 in
set_option maxRecDepth 100000 in
/-- it throws -/
theorem c_L_atZ (l : Launch) (D : mp_G) (g : Nat → ClassId) (S : mp_M) (sz : Nat) (o pa vo qo ky lz za mu9 po nl s9 zc : Nat) (v2 v3 v4 v5 v6 u0 u1 u3 u5 u6 q0 q3 q4 q5 q6 q7 q8 q9 q10 q11 : Value) (eo le la kQ MQ : Nat → Nat) (dl : Nat → Int32) (CL ZZ : Nat → Nat → fF) (oa : Nat) (of : Nat → Int64) (x y9 : Int32) (h_o : S o = some (0, .inr (0, [.int (nI nl), .ref pa, v2, v3, v4, v5, v6, .int 1, .int (nI zc), .ref vo]))) (h_pa : S pa = some (1, .inl ((g 2), 40, .inr (.inr (.inr (.inr (rfs eo 40))))))) (h_vo : S vo = some (10, .inr (7, [u0, u1, .ref qo, u3, .ref lz, u5, u6, .ref za, .ref mu9, .int (nI zc), .ref po]))) (h_qo : S qo = some (14, .inr (4, [q0, .ref ky, .int (nI s9), q3, q4, q5, q6, q7, q8, q9, q10, q11]))) (h_ky : S ky = some (15, .inl ((g 0), 16, .inl (fun j => nI (kQ j))))) (h_lz : S lz = some (32, .inl ((g 3), 3, .inr (.inr (.inr (.inr (rfs le 3))))))) (h_za : S za = some (35, .inl ((g 1), 16, .inr (.inr (.inr (.inr (rfs (fun ii => za + 1 + ii) 16))))))) (h_mu9 : S mu9 = some (36, .inl ((g 0), 16, .inl (fun j => nI (MQ j))))) (h_oa : S oa = some (9, .inl ((g 4), 1, .inr (.inl of)))) (hl9 : l.stackTraces = false) (hLo : oS g 570 3 le la dl (fun ii j => nI (CL ii j).val) S) (hZ : rS g 590 16 3 (fun ii => za + 1 + ii) (fun ii j => nI (ZZ ii j).val) S) (hnl : nl ≤ 3) (hs : s9 ≤ 16) (hzc : zc ≤ 16) (hx9 : x < 0 ∨ nI zc ≤ x) : Met l y_L_at w_L_at ({ frames := 8, cells := 1, slots := 6, locals := 135 }) (va_Pc [.ref o, .int x, .int y9, .ref oa] (mp_B0 D classes (tys g) S sz)) (va_Qi (fun (r : Int32) (S1 : mp_M) => r = nI 2 ∧ S1 = S) (mp_B1 D classes S sz) (mp_A S sz)) 1 6 (mp_A S sz) := by
  refine va_MetW (hh := hh_L_at) (cc := b_L_at) (maxL := 5) (ret := (some .int)) (by decide) rfl ?_
  intro p e s m args below meth c s₁ B hml hv
  obtain ⟨rfl, hsz, hH, hK⟩ := hv
  have hx := B.exec
  have hb := B.bytes
  have hr := B.returns
  have hts := atoms_spec (ws := w_L_at) B.pre
  have hg : ∀ w ∈ gw, w.before _ s = true := fun w h => hts w (List.mem_cons_of_mem _ h)
  have hown : s.vm.findClass R_L = some m.cls := findClass_of_methodNamed B.named
  have hlocks := B.notSynchronized
  have hhh := lw_table B (hts _ List.mem_cons_self)
  subst hsz
  have hI := mp_I.start hH
  have hl := lv_entry ([.ref o, .int x, .int y9, .ref oa]) (n := 5) (Nat.le_of_ble_eq_true rfl)
  rw [lg_entry_eq]
  generalize (lg_sl ([.ref o, .int x, .int y9, .ref oa]) ++ List.replicate (5 - (lg_sl ([.ref o, .int x, .int y9, .ref oa])).length) Slot.unset).toArray = ls at hl ⊢
  have hl : lv_has ls 5 [(0, .ref o), (1, .int x), (2, .int y9), (3, .ref oa)] := hl
  refine lv_aload_n hx hb d_L_at_0 rfl (lv_at hl 3 rfl) ?_
  refine lv_iconst (v := nI 0) hx hb d_L_at_1 (by decide) ?_
  refine lv_aload_n hx hb d_L_at_2 rfl (lv_at hl 0 rfl) ?_
  refine lv_iload_n hx hb d_L_at_3 rfl (lv_at hl 1 rfl) ?_
  refine lv_iload_n hx hb d_L_at_4 rfl (lv_at hl 2 rfl) ?_
  refine xp_catch (cls := "java/lang/IndexOutOfBoundsException") (P := [(0, 10, 13, 13)]) (Rr := [(0, 10, 21, 21)]) (a0 := 0) (b0 := 10) (h0 := 17) (t0 := 19) hown hhh (List.forall_mem_cons.mpr ⟨⟨by decide, "java/lang/IllegalStateException", hg _ q_545, nc_at hK (flat_of_before _ hK.1.2.2 _ (by decide +kernel))⟩, (fun _ h9 => absurd h9 List.not_mem_nil)⟩) (by decide) (by decide) (by decide) (hg _ q_622) hI (xp_runV (As := [.int x, .int y9]) (rest := [.int (nI 0), .ref oa]) ⟨hx, hb, hml, hown, hg⟩ (x_B_atZ l hl9 D g S _ o pa vo qo ky lz za mu9 po nl s9 zc v2 v3 v4 v5 v6 u0 u1 u3 u5 u6 q0 q3 q4 q5 q6 q7 q8 q9 q10 q11 eo le la kQ MQ dl CL ZZ x y9 h_o h_pa h_vo h_qo h_ky h_lz h_za h_mu9 hLo hZ hnl hs hzc hx9) ⟨(callB_of 2 hg (wd_goodG q_760) rfl rfl rfl (hg _ q_1) (hg _ q_757) (by decide +kernel) ⟨Nat.le_of_ble_eq_true rfl, Nat.le_of_ble_eq_true rfl⟩), hg _ q_758, hg _ q_759⟩ (mp_preV (C := R_B) (T := F_B) hI hK h_o rfl [.int x, .int y9]) rfl hl.1 (lv_room (Nat.le_of_ble_eq_true rfl)) d_L_at_5 ⟨Nat.le_of_ble_eq_true rfl, Nat.le_of_ble_eq_true rfl⟩) (fun q9 H9 hI => ?_)
  refine lv_astore (lv' := [(4, .ref q9), (0, .ref o), (1, .int x), (2, .int y9), (3, .ref oa)]) hx hb d_L_at_17 hl (by decide) rfl (fun ls hl => ?_)
  refine lv_iconst (v := nI 2) hx hb d_L_at_19 (by decide) ?_
  refine mp_iret hx hb hr hlocks hI (Nat.le_of_ble_eq_true rfl) (Nat.le_of_ble_eq_true rfl) ?_ d_L_at_20
  exact ⟨rfl, rfl⟩
set_option maxHeartbeats 4000000 in
set_option maxRecDepth 100000 in
/-- it throws -/
theorem c_L_atL (l : Launch) (D : mp_G) (g : Nat → ClassId) (S : mp_M) (sz : Nat) (o pa vo qo ky lz za mu9 po nl s9 zc : Nat) (v2 v3 v4 v5 v6 u0 u1 u3 u5 u6 q0 q3 q4 q5 q6 q7 q8 q9 q10 q11 : Value) (eo le la kQ MQ : Nat → Nat) (dl : Nat → Int32) (CL ZZ : Nat → Nat → fF) (oa : Nat) (of : Nat → Int64) (z9 : Nat) (x : Int32) (h_o : S o = some (0, .inr (0, [.int (nI nl), .ref pa, v2, v3, v4, v5, v6, .int 1, .int (nI zc), .ref vo]))) (h_pa : S pa = some (1, .inl ((g 2), 40, .inr (.inr (.inr (.inr (rfs eo 40))))))) (h_vo : S vo = some (10, .inr (7, [u0, u1, .ref qo, u3, .ref lz, u5, u6, .ref za, .ref mu9, .int (nI zc), .ref po]))) (h_qo : S qo = some (14, .inr (4, [q0, .ref ky, .int (nI s9), q3, q4, q5, q6, q7, q8, q9, q10, q11]))) (h_ky : S ky = some (15, .inl ((g 0), 16, .inl (fun j => nI (kQ j))))) (h_lz : S lz = some (32, .inl ((g 3), 3, .inr (.inr (.inr (.inr (rfs le 3))))))) (h_za : S za = some (35, .inl ((g 1), 16, .inr (.inr (.inr (.inr (rfs (fun ii => za + 1 + ii) 16))))))) (h_mu9 : S mu9 = some (36, .inl ((g 0), 16, .inl (fun j => nI (MQ j))))) (h_oa : S oa = some (9, .inl ((g 4), 1, .inr (.inl of)))) (hl9 : l.stackTraces = false) (hLo : oS g 570 3 le la dl (fun ii j => nI (CL ii j).val) S) (hZ : rS g 590 16 3 (fun ii => za + 1 + ii) (fun ii j => nI (ZZ ii j).val) S) (hnl : nl ≤ 3) (hs : s9 ≤ 16) (hzc : zc ≤ 16) (hz9 : z9 < zc) (hx9 : x < 0 ∨ nI nl ≤ x) : Met l y_L_at w_L_at ({ frames := 8, cells := 1, slots := 6, locals := 135 }) (va_Pc [.ref o, .int (nI z9), .int x, .ref oa] (mp_B0 D classes (tys g) S sz)) (va_Qi (fun (r : Int32) (S1 : mp_M) => r = nI 3 ∧ S1 = S) (mp_B1 D classes S sz) (mp_A S sz)) 1 6 (mp_A S sz) := by
  refine va_MetW (hh := hh_L_at) (cc := b_L_at) (maxL := 5) (ret := (some .int)) (by decide) rfl ?_
  intro p e s m args below meth c s₁ B hml hv
  obtain ⟨rfl, hsz, hH, hK⟩ := hv
  have hx := B.exec
  have hb := B.bytes
  have hr := B.returns
  have hts := atoms_spec (ws := w_L_at) B.pre
  have hg : ∀ w ∈ gw, w.before _ s = true := fun w h => hts w (List.mem_cons_of_mem _ h)
  have hown : s.vm.findClass R_L = some m.cls := findClass_of_methodNamed B.named
  have hlocks := B.notSynchronized
  have hhh := lw_table B (hts _ List.mem_cons_self)
  subst hsz
  have hI := mp_I.start hH
  have hl := lv_entry ([.ref o, .int (nI z9), .int x, .ref oa]) (n := 5) (Nat.le_of_ble_eq_true rfl)
  rw [lg_entry_eq]
  generalize (lg_sl ([.ref o, .int (nI z9), .int x, .ref oa]) ++ List.replicate (5 - (lg_sl ([.ref o, .int (nI z9), .int x, .ref oa])).length) Slot.unset).toArray = ls at hl ⊢
  have hl : lv_has ls 5 [(0, .ref o), (1, .int (nI z9)), (2, .int x), (3, .ref oa)] := hl
  refine lv_aload_n hx hb d_L_at_0 rfl (lv_at hl 3 rfl) ?_
  refine lv_iconst (v := nI 0) hx hb d_L_at_1 (by decide) ?_
  refine lv_aload_n hx hb d_L_at_2 rfl (lv_at hl 0 rfl) ?_
  refine lv_iload_n hx hb d_L_at_3 rfl (lv_at hl 1 rfl) ?_
  refine lv_iload_n hx hb d_L_at_4 rfl (lv_at hl 2 rfl) ?_
  refine xp_catch (cls := "java/lang/IllegalArgumentException") (P := [(0, 10, 13, 13), (0, 10, 17, 19)]) (Rr := []) (a0 := 0) (b0 := 10) (h0 := 21) (t0 := 21) hown hhh (List.forall_mem_cons.mpr ⟨⟨by decide, "java/lang/IllegalStateException", hg _ q_545, nc_at hK (flat_of_before _ hK.1.2.2 _ (by decide +kernel))⟩, (List.forall_mem_cons.mpr ⟨⟨by decide, "java/lang/IndexOutOfBoundsException", hg _ q_622, nc_at hK (flat_of_before _ hK.1.2.2 _ (by decide +kernel))⟩, (fun _ h9 => absurd h9 List.not_mem_nil)⟩)⟩) (by decide) (by decide) (by decide) (hg _ q_623) hI (xp_runV (As := [.int (nI z9), .int x]) (rest := [.int (nI 0), .ref oa]) ⟨hx, hb, hml, hown, hg⟩ (x_B_atL l hl9 D g S _ o pa vo qo ky lz za mu9 po nl s9 zc v2 v3 v4 v5 v6 u0 u1 u3 u5 u6 q0 q3 q4 q5 q6 q7 q8 q9 q10 q11 eo le la kQ MQ dl CL ZZ z9 x h_o h_pa h_vo h_qo h_ky h_lz h_za h_mu9 hLo hZ hnl hs hzc hz9 hx9) ⟨(callB_of 2 hg (wd_goodG q_760) rfl rfl rfl (hg _ q_1) (hg _ q_757) (by decide +kernel) ⟨Nat.le_of_ble_eq_true rfl, Nat.le_of_ble_eq_true rfl⟩), hg _ q_758, hg _ q_759⟩ (mp_preV (C := R_B) (T := F_B) hI hK h_o rfl [.int (nI z9), .int x]) rfl hl.1 (lv_room (Nat.le_of_ble_eq_true rfl)) d_L_at_5 ⟨Nat.le_of_ble_eq_true rfl, Nat.le_of_ble_eq_true rfl⟩) (fun q9 H9 hI => ?_)
  refine lv_astore (lv' := [(4, .ref q9), (0, .ref o), (1, .int (nI z9)), (2, .int x), (3, .ref oa)]) hx hb d_L_at_21 hl (by decide) rfl (fun ls hl => ?_)
  refine lv_iconst (v := nI 3) hx hb d_L_at_23 (by decide) ?_
  refine mp_iret hx hb hr hlocks hI (Nat.le_of_ble_eq_true rfl) (Nat.le_of_ble_eq_true rfl) ?_ d_L_at_24
  exact ⟨rfl, rfl⟩
set_option maxHeartbeats 4000000 in
set_option maxRecDepth 100000 in
/-- it throws -/
theorem c_L_mulZ (l : Launch) (D : mp_G) (g : Nat → ClassId) (S : mp_M) (sz : Nat) (o pa vo qo ky lz za mu9 po nl s9 zc : Nat) (v2 v3 v4 v5 v6 u0 u1 u3 u5 u6 q0 q3 q4 q5 q6 q7 q8 q9 q10 q11 : Value) (eo le la kQ MQ : Nat → Nat) (dl : Nat → Int32) (CL ZZ : Nat → Nat → fF) (oa : Nat) (of : Nat → Int64) (x : Int32) (h_o : S o = some (0, .inr (0, [.int (nI nl), .ref pa, v2, v3, v4, v5, v6, .int 1, .int (nI zc), .ref vo]))) (h_pa : S pa = some (1, .inl ((g 2), 40, .inr (.inr (.inr (.inr (rfs eo 40))))))) (h_vo : S vo = some (10, .inr (7, [u0, u1, .ref qo, u3, .ref lz, u5, u6, .ref za, .ref mu9, .int (nI zc), .ref po]))) (h_qo : S qo = some (14, .inr (4, [q0, .ref ky, .int (nI s9), q3, q4, q5, q6, q7, q8, q9, q10, q11]))) (h_ky : S ky = some (15, .inl ((g 0), 16, .inl (fun j => nI (kQ j))))) (h_lz : S lz = some (32, .inl ((g 3), 3, .inr (.inr (.inr (.inr (rfs le 3))))))) (h_za : S za = some (35, .inl ((g 1), 16, .inr (.inr (.inr (.inr (rfs (fun ii => za + 1 + ii) 16))))))) (h_mu9 : S mu9 = some (36, .inl ((g 0), 16, .inl (fun j => nI (MQ j))))) (h_oa : S oa = some (9, .inl ((g 4), 1, .inr (.inl of)))) (hl9 : l.stackTraces = false) (hLo : oS g 570 3 le la dl (fun ii j => nI (CL ii j).val) S) (hZ : rS g 590 16 3 (fun ii => za + 1 + ii) (fun ii j => nI (ZZ ii j).val) S) (hnl : nl ≤ 3) (hs : s9 ≤ 16) (hzc : zc ≤ 16) (hx9 : x < 0 ∨ nI zc ≤ x) : Met l y_L_multiplicity w_L_multiplicity ({ frames := 8, cells := 1, slots := 6, locals := 134 }) (va_Pc [.ref o, .int x, .ref oa] (mp_B0 D classes (tys g) S sz)) (va_Qi (fun (r : Int32) (S1 : mp_M) => r = nI 2 ∧ S1 = S) (mp_B1 D classes S sz) (mp_A S sz)) 1 6 (mp_A S sz) := by
  refine va_MetW (hh := hh_L_multiplicity) (cc := b_L_multiplicity) (maxL := 4) (ret := (some .int)) (by decide) rfl ?_
  intro p e s m args below meth c s₁ B hml hv
  obtain ⟨rfl, hsz, hH, hK⟩ := hv
  have hx := B.exec
  have hb := B.bytes
  have hr := B.returns
  have hts := atoms_spec (ws := w_L_multiplicity) B.pre
  have hg : ∀ w ∈ gw, w.before _ s = true := fun w h => hts w (List.mem_cons_of_mem _ h)
  have hown : s.vm.findClass R_L = some m.cls := findClass_of_methodNamed B.named
  have hlocks := B.notSynchronized
  have hhh := lw_table B (hts _ List.mem_cons_self)
  subst hsz
  have hI := mp_I.start hH
  have hl := lv_entry ([.ref o, .int x, .ref oa]) (n := 4) (Nat.le_of_ble_eq_true rfl)
  rw [lg_entry_eq]
  generalize (lg_sl ([.ref o, .int x, .ref oa]) ++ List.replicate (4 - (lg_sl ([.ref o, .int x, .ref oa])).length) Slot.unset).toArray = ls at hl ⊢
  have hl : lv_has ls 4 [(0, .ref o), (1, .int x), (2, .ref oa)] := hl
  refine lv_aload_n hx hb d_L_multiplicity_0 rfl (lv_at hl 2 rfl) ?_
  refine lv_iconst (v := nI 0) hx hb d_L_multiplicity_1 (by decide) ?_
  refine lv_aload_n hx hb d_L_multiplicity_2 rfl (lv_at hl 0 rfl) ?_
  refine lv_iload_n hx hb d_L_multiplicity_3 rfl (lv_at hl 1 rfl) ?_
  refine xp_catch (cls := "java/lang/IndexOutOfBoundsException") (P := [(0, 9, 12, 13)]) (Rr := []) (a0 := 0) (b0 := 9) (h0 := 15) (t0 := 19) hown hhh (List.forall_mem_cons.mpr ⟨⟨by decide, "java/lang/IllegalStateException", hg _ q_545, nc_at hK (flat_of_before _ hK.1.2.2 _ (by decide +kernel))⟩, (fun _ h9 => absurd h9 List.not_mem_nil)⟩) (by decide) (by decide) (by decide) (hg _ q_622) hI (xp_runV (As := [.int x]) (rest := [.int (nI 0), .ref oa]) ⟨hx, hb, hml, hown, hg⟩ (x_B_mulZ l hl9 D g S _ o pa vo qo ky lz za mu9 po nl s9 zc v2 v3 v4 v5 v6 u0 u1 u3 u5 u6 q0 q3 q4 q5 q6 q7 q8 q9 q10 q11 eo le la kQ MQ dl CL ZZ x h_o h_pa h_vo h_qo h_ky h_lz h_za h_mu9 hLo hZ hnl hs hzc hx9) ⟨(callB_of 1 hg (wd_goodG q_776) rfl rfl rfl (hg _ q_1) (hg _ q_773) (by decide +kernel) ⟨Nat.le_of_ble_eq_true rfl, Nat.le_of_ble_eq_true rfl⟩), hg _ q_774, hg _ q_775⟩ (mp_preV (C := R_B) (T := F_B) hI hK h_o rfl [.int x]) rfl hl.1 (lv_room (Nat.le_of_ble_eq_true rfl)) d_L_multiplicity_4 ⟨Nat.le_of_ble_eq_true rfl, Nat.le_of_ble_eq_true rfl⟩) (fun q9 H9 hI => ?_)
  refine lv_astore_n (lv' := [(3, .ref q9), (0, .ref o), (1, .int x), (2, .ref oa)]) hx hb d_L_multiplicity_15 rfl hl (by decide) rfl (fun ls hl => ?_)
  refine lv_iconst (v := nI 2) hx hb d_L_multiplicity_16 (by decide) ?_
  refine mp_iret hx hb hr hlocks hI (Nat.le_of_ble_eq_true rfl) (Nat.le_of_ble_eq_true rfl) ?_ d_L_multiplicity_17
  exact ⟨rfl, rfl⟩
set_option maxHeartbeats 4000000 in
set_option maxRecDepth 100000 in
/-- it throws -/
theorem c_L_minL (l : Launch) (D : mp_G) (g : Nat → ClassId) (S : mp_M) (sz : Nat) (o pa vo qo ky lz za mu9 po nl s9 zc : Nat) (v2 v3 v4 v5 v6 u0 u1 u3 u5 u6 q0 q3 q4 q5 q6 q7 q8 q9 q10 q11 : Value) (eo le la kQ MQ : Nat → Nat) (dl : Nat → Int32) (CL ZZ : Nat → Nat → fF) (oa : Nat) (of : Nat → Int64) (x y9 : Int32) (h_o : S o = some (0, .inr (0, [.int (nI nl), .ref pa, v2, v3, v4, v5, v6, .int 1, .int (nI zc), .ref vo]))) (h_pa : S pa = some (1, .inl ((g 2), 40, .inr (.inr (.inr (.inr (rfs eo 40))))))) (h_vo : S vo = some (10, .inr (7, [u0, u1, .ref qo, u3, .ref lz, u5, u6, .ref za, .ref mu9, .int (nI zc), .ref po]))) (h_qo : S qo = some (14, .inr (4, [q0, .ref ky, .int (nI s9), q3, q4, q5, q6, q7, q8, q9, q10, q11]))) (h_ky : S ky = some (15, .inl ((g 0), 16, .inl (fun j => nI (kQ j))))) (h_lz : S lz = some (32, .inl ((g 3), 3, .inr (.inr (.inr (.inr (rfs le 3))))))) (h_za : S za = some (35, .inl ((g 1), 16, .inr (.inr (.inr (.inr (rfs (fun ii => za + 1 + ii) 16))))))) (h_mu9 : S mu9 = some (36, .inl ((g 0), 16, .inl (fun j => nI (MQ j))))) (h_oa : S oa = some (9, .inl ((g 4), 1, .inr (.inl of)))) (hl9 : l.stackTraces = false) (hLo : oS g 570 3 le la dl (fun ii j => nI (CL ii j).val) S) (hZ : rS g 590 16 3 (fun ii => za + 1 + ii) (fun ii j => nI (ZZ ii j).val) S) (hnl : nl ≤ 3) (hs : s9 ≤ 16) (hzc : zc ≤ 16) (hx9 : x < 0 ∨ nI nl ≤ x) : Met l y_L_minimal w_L_minimal ({ frames := 8, cells := 1, slots := 6, locals := 135 }) (va_Pc [.ref o, .int x, .int y9, .ref oa] (mp_B0 D classes (tys g) S sz)) (va_Qi (fun (r : Int32) (S1 : mp_M) => r = nI 2 ∧ S1 = S) (mp_B1 D classes S sz) (mp_A S sz)) 1 6 (mp_A S sz) := by
  refine va_MetW (hh := hh_L_minimal) (cc := b_L_minimal) (maxL := 5) (ret := (some .int)) (by decide) rfl ?_
  intro p e s m args below meth c s₁ B hml hv
  obtain ⟨rfl, hsz, hH, hK⟩ := hv
  have hx := B.exec
  have hb := B.bytes
  have hr := B.returns
  have hts := atoms_spec (ws := w_L_minimal) B.pre
  have hg : ∀ w ∈ gw, w.before _ s = true := fun w h => hts w (List.mem_cons_of_mem _ h)
  have hown : s.vm.findClass R_L = some m.cls := findClass_of_methodNamed B.named
  have hlocks := B.notSynchronized
  have hhh := lw_table B (hts _ List.mem_cons_self)
  subst hsz
  have hI := mp_I.start hH
  have hl := lv_entry ([.ref o, .int x, .int y9, .ref oa]) (n := 5) (Nat.le_of_ble_eq_true rfl)
  rw [lg_entry_eq]
  generalize (lg_sl ([.ref o, .int x, .int y9, .ref oa]) ++ List.replicate (5 - (lg_sl ([.ref o, .int x, .int y9, .ref oa])).length) Slot.unset).toArray = ls at hl ⊢
  have hl : lv_has ls 5 [(0, .ref o), (1, .int x), (2, .int y9), (3, .ref oa)] := hl
  refine lv_aload_n hx hb d_L_minimal_0 rfl (lv_at hl 3 rfl) ?_
  refine lv_iconst (v := nI 0) hx hb d_L_minimal_1 (by decide) ?_
  refine lv_aload_n hx hb d_L_minimal_2 rfl (lv_at hl 0 rfl) ?_
  refine lv_iload_n hx hb d_L_minimal_3 rfl (lv_at hl 1 rfl) ?_
  refine lv_iload_n hx hb d_L_minimal_4 rfl (lv_at hl 2 rfl) ?_
  refine xp_catch (cls := "java/lang/IllegalArgumentException") (P := [(0, 10, 13, 13)]) (Rr := []) (a0 := 0) (b0 := 10) (h0 := 17) (t0 := 21) hown hhh (List.forall_mem_cons.mpr ⟨⟨by decide, "java/lang/IllegalStateException", hg _ q_545, nc_at hK (flat_of_before _ hK.1.2.2 _ (by decide +kernel))⟩, (fun _ h9 => absurd h9 List.not_mem_nil)⟩) (by decide) (by decide) (by decide) (hg _ q_623) hI (xp_runV (As := [.int x, .int y9]) (rest := [.int (nI 0), .ref oa]) ⟨hx, hb, hml, hown, hg⟩ (x_B_minL l hl9 D g S _ o pa vo qo ky lz za mu9 po nl s9 zc v2 v3 v4 v5 v6 u0 u1 u3 u5 u6 q0 q3 q4 q5 q6 q7 q8 q9 q10 q11 eo le la kQ MQ dl CL ZZ x y9 h_o h_pa h_vo h_qo h_ky h_lz h_za h_mu9 hLo hZ hnl hs hzc hx9) ⟨(callB_of 2 hg (wd_goodG q_783) rfl rfl rfl (hg _ q_1) (hg _ q_780) (by decide +kernel) ⟨Nat.le_of_ble_eq_true rfl, Nat.le_of_ble_eq_true rfl⟩), hg _ q_781, hg _ q_782⟩ (mp_preV (C := R_B) (T := F_B) hI hK h_o rfl [.int x, .int y9]) rfl hl.1 (lv_room (Nat.le_of_ble_eq_true rfl)) d_L_minimal_5 ⟨Nat.le_of_ble_eq_true rfl, Nat.le_of_ble_eq_true rfl⟩) (fun q9 H9 hI => ?_)
  refine lv_astore (lv' := [(4, .ref q9), (0, .ref o), (1, .int x), (2, .int y9), (3, .ref oa)]) hx hb d_L_minimal_17 hl (by decide) rfl (fun ls hl => ?_)
  refine lv_iconst (v := nI 2) hx hb d_L_minimal_19 (by decide) ?_
  refine mp_iret hx hb hr hlocks hI (Nat.le_of_ble_eq_true rfl) (Nat.le_of_ble_eq_true rfl) ?_ d_L_minimal_20
  exact ⟨rfl, rfl⟩
set_option maxHeartbeats 4000000 in
set_option maxRecDepth 100000 in
/-- it throws -/
theorem c_L_valP (l : Launch) (D : mp_G) (g : Nat → ClassId) (S : mp_M) (sz : Nat) (o pa vo qo ky lz za mu9 po nl s9 zc : Nat) (v2 v3 v4 v5 v6 u0 u1 u3 u5 u6 q0 q3 q4 q5 q6 q7 q8 q9 q10 q11 : Value) (eo le la kQ MQ : Nat → Nat) (dl : Nat → Int32) (CL ZZ : Nat → Nat → fF) (oa : Nat) (of : Nat → Int64) (x y9 : Int32) (h_o : S o = some (0, .inr (0, [.int (nI nl), .ref pa, v2, v3, v4, v5, v6, .int 1, .int (nI zc), .ref vo]))) (h_pa : S pa = some (1, .inl ((g 2), 40, .inr (.inr (.inr (.inr (rfs eo 40))))))) (h_vo : S vo = some (10, .inr (7, [u0, u1, .ref qo, u3, .ref lz, u5, u6, .ref za, .ref mu9, .int (nI zc), .ref po]))) (h_qo : S qo = some (14, .inr (4, [q0, .ref ky, .int (nI s9), q3, q4, q5, q6, q7, q8, q9, q10, q11]))) (h_ky : S ky = some (15, .inl ((g 0), 16, .inl (fun j => nI (kQ j))))) (h_lz : S lz = some (32, .inl ((g 3), 3, .inr (.inr (.inr (.inr (rfs le 3))))))) (h_za : S za = some (35, .inl ((g 1), 16, .inr (.inr (.inr (.inr (rfs (fun ii => za + 1 + ii) 16))))))) (h_mu9 : S mu9 = some (36, .inl ((g 0), 16, .inl (fun j => nI (MQ j))))) (h_oa : S oa = some (9, .inl ((g 4), 1, .inr (.inl of)))) (hl9 : l.stackTraces = false) (hLo : oS g 570 3 le la dl (fun ii j => nI (CL ii j).val) S) (hZ : rS g 590 16 3 (fun ii => za + 1 + ii) (fun ii j => nI (ZZ ii j).val) S) (hnl : nl ≤ 3) (hs : s9 ≤ 16) (hzc : zc ≤ 16) (hx9 : x < 0 ∨ nI 40 ≤ x) : Met l y_L_value w_L_value ({ frames := 8, cells := 1, slots := 6, locals := 138 }) (va_Pc [.ref o, .int x, .int y9, .ref oa] (mp_B0 D classes (tys g) S sz)) (va_Qi (fun (r : Int32) (S1 : mp_M) => r = nI 2 ∧ S1 = S) (mp_B1 D classes S sz) (mp_A S sz)) 1 6 (mp_A S sz) := by
  refine va_MetW (hh := hh_L_value) (cc := b_L_value) (maxL := 5) (ret := (some .int)) (by decide) rfl ?_
  intro p e s m args below meth c s₁ B hml hv
  obtain ⟨rfl, hsz, hH, hK⟩ := hv
  have hx := B.exec
  have hb := B.bytes
  have hr := B.returns
  have hts := atoms_spec (ws := w_L_value) B.pre
  have hg : ∀ w ∈ gw, w.before _ s = true := fun w h => hts w (List.mem_cons_of_mem _ h)
  have hown : s.vm.findClass R_L = some m.cls := findClass_of_methodNamed B.named
  have hlocks := B.notSynchronized
  have hhh := lw_table B (hts _ List.mem_cons_self)
  subst hsz
  have hI := mp_I.start hH
  have hl := lv_entry ([.ref o, .int x, .int y9, .ref oa]) (n := 5) (Nat.le_of_ble_eq_true rfl)
  rw [lg_entry_eq]
  generalize (lg_sl ([.ref o, .int x, .int y9, .ref oa]) ++ List.replicate (5 - (lg_sl ([.ref o, .int x, .int y9, .ref oa])).length) Slot.unset).toArray = ls at hl ⊢
  have hl : lv_has ls 5 [(0, .ref o), (1, .int x), (2, .int y9), (3, .ref oa)] := hl
  refine lv_aload_n hx hb d_L_value_0 rfl (lv_at hl 3 rfl) ?_
  refine lv_iconst (v := nI 0) hx hb d_L_value_1 (by decide) ?_
  refine lv_aload_n hx hb d_L_value_2 rfl (lv_at hl 0 rfl) ?_
  refine lv_iload_n hx hb d_L_value_3 rfl (lv_at hl 1 rfl) ?_
  refine lv_iload_n hx hb d_L_value_4 rfl (lv_at hl 2 rfl) ?_
  refine xp_catch (cls := "java/lang/IndexOutOfBoundsException") (P := [(0, 10, 13, 13)]) (Rr := []) (a0 := 0) (b0 := 10) (h0 := 17) (t0 := 19) hown hhh (List.forall_mem_cons.mpr ⟨⟨by decide, "java/lang/IllegalStateException", hg _ q_545, nc_at hK (flat_of_before _ hK.1.2.2 _ (by decide +kernel))⟩, (fun _ h9 => absurd h9 List.not_mem_nil)⟩) (by decide) (by decide) (by decide) (hg _ q_622) hI (xp_runV (As := [.int x, .int y9]) (rest := [.int (nI 0), .ref oa]) ⟨hx, hb, hml, hown, hg⟩ (x_B_valP l hl9 D g S _ o pa vo qo ky lz za mu9 po nl s9 zc v2 v3 v4 v5 v6 u0 u1 u3 u5 u6 q0 q3 q4 q5 q6 q7 q8 q9 q10 q11 eo le la kQ MQ dl CL ZZ x y9 h_o h_pa h_vo h_qo h_ky h_lz h_za h_mu9 hLo hZ hnl hs hzc hx9) ⟨(callB_of 2 hg (wd_goodG q_794) rfl rfl rfl (hg _ q_1) (hg _ q_791) (by decide +kernel) ⟨Nat.le_of_ble_eq_true rfl, Nat.le_of_ble_eq_true rfl⟩), hg _ q_792, hg _ q_793⟩ (mp_preV (C := R_B) (T := F_B) hI hK h_o rfl [.int x, .int y9]) rfl hl.1 (lv_room (Nat.le_of_ble_eq_true rfl)) d_L_value_5 ⟨Nat.le_of_ble_eq_true rfl, Nat.le_of_ble_eq_true rfl⟩) (fun q9 H9 hI => ?_)
  refine lv_astore (lv' := [(4, .ref q9), (0, .ref o), (1, .int x), (2, .int y9), (3, .ref oa)]) hx hb d_L_value_17 hl (by decide) rfl (fun ls hl => ?_)
  refine lv_iconst (v := nI 2) hx hb d_L_value_19 (by decide) ?_
  refine mp_iret hx hb hr hlocks hI (Nat.le_of_ble_eq_true rfl) (Nat.le_of_ble_eq_true rfl) ?_ d_L_value_20
  exact ⟨rfl, rfl⟩
set_option maxHeartbeats 4000000 in
set_option maxRecDepth 100000 in
/-- it throws -/
theorem c_L_valZ (l : Launch) (D : mp_G) (g : Nat → ClassId) (S : mp_M) (sz : Nat) (o pa vo qo ky lz za mu9 po nl s9 zc : Nat) (v2 v3 v4 v5 v6 u0 u1 u3 u5 u6 q0 q3 q4 q5 q6 q7 q8 q9 q10 q11 : Value) (eo le la kQ MQ : Nat → Nat) (dl : Nat → Int32) (CL ZZ : Nat → Nat → fF) (oa : Nat) (of : Nat → Int64) (k9 : Nat) (x : Int32) (h_o : S o = some (0, .inr (0, [.int (nI nl), .ref pa, v2, v3, v4, v5, v6, .int 1, .int (nI zc), .ref vo]))) (h_pa : S pa = some (1, .inl ((g 2), 40, .inr (.inr (.inr (.inr (rfs eo 40))))))) (h_vo : S vo = some (10, .inr (7, [u0, u1, .ref qo, u3, .ref lz, u5, u6, .ref za, .ref mu9, .int (nI zc), .ref po]))) (h_qo : S qo = some (14, .inr (4, [q0, .ref ky, .int (nI s9), q3, q4, q5, q6, q7, q8, q9, q10, q11]))) (h_ky : S ky = some (15, .inl ((g 0), 16, .inl (fun j => nI (kQ j))))) (h_lz : S lz = some (32, .inl ((g 3), 3, .inr (.inr (.inr (.inr (rfs le 3))))))) (h_za : S za = some (35, .inl ((g 1), 16, .inr (.inr (.inr (.inr (rfs (fun ii => za + 1 + ii) 16))))))) (h_mu9 : S mu9 = some (36, .inl ((g 0), 16, .inl (fun j => nI (MQ j))))) (h_oa : S oa = some (9, .inl ((g 4), 1, .inr (.inl of)))) (hl9 : l.stackTraces = false) (hLo : oS g 570 3 le la dl (fun ii j => nI (CL ii j).val) S) (hZ : rS g 590 16 3 (fun ii => za + 1 + ii) (fun ii j => nI (ZZ ii j).val) S) (hnl : nl ≤ 3) (hs : s9 ≤ 16) (hzc : zc ≤ 16) (hk9 : k9 < 40) (hx9 : x < 0 ∨ nI zc ≤ x) : Met l y_L_value w_L_value ({ frames := 8, cells := 1, slots := 6, locals := 138 }) (va_Pc [.ref o, .int (nI k9), .int x, .ref oa] (mp_B0 D classes (tys g) S sz)) (va_Qi (fun (r : Int32) (S1 : mp_M) => r = nI 2 ∧ S1 = S) (mp_B1 D classes S sz) (mp_A S sz)) 1 6 (mp_A S sz) := by
  refine va_MetW (hh := hh_L_value) (cc := b_L_value) (maxL := 5) (ret := (some .int)) (by decide) rfl ?_
  intro p e s m args below meth c s₁ B hml hv
  obtain ⟨rfl, hsz, hH, hK⟩ := hv
  have hx := B.exec
  have hb := B.bytes
  have hr := B.returns
  have hts := atoms_spec (ws := w_L_value) B.pre
  have hg : ∀ w ∈ gw, w.before _ s = true := fun w h => hts w (List.mem_cons_of_mem _ h)
  have hown : s.vm.findClass R_L = some m.cls := findClass_of_methodNamed B.named
  have hlocks := B.notSynchronized
  have hhh := lw_table B (hts _ List.mem_cons_self)
  subst hsz
  have hI := mp_I.start hH
  have hl := lv_entry ([.ref o, .int (nI k9), .int x, .ref oa]) (n := 5) (Nat.le_of_ble_eq_true rfl)
  rw [lg_entry_eq]
  generalize (lg_sl ([.ref o, .int (nI k9), .int x, .ref oa]) ++ List.replicate (5 - (lg_sl ([.ref o, .int (nI k9), .int x, .ref oa])).length) Slot.unset).toArray = ls at hl ⊢
  have hl : lv_has ls 5 [(0, .ref o), (1, .int (nI k9)), (2, .int x), (3, .ref oa)] := hl
  refine lv_aload_n hx hb d_L_value_0 rfl (lv_at hl 3 rfl) ?_
  refine lv_iconst (v := nI 0) hx hb d_L_value_1 (by decide) ?_
  refine lv_aload_n hx hb d_L_value_2 rfl (lv_at hl 0 rfl) ?_
  refine lv_iload_n hx hb d_L_value_3 rfl (lv_at hl 1 rfl) ?_
  refine lv_iload_n hx hb d_L_value_4 rfl (lv_at hl 2 rfl) ?_
  refine xp_catch (cls := "java/lang/IndexOutOfBoundsException") (P := [(0, 10, 13, 13)]) (Rr := []) (a0 := 0) (b0 := 10) (h0 := 17) (t0 := 19) hown hhh (List.forall_mem_cons.mpr ⟨⟨by decide, "java/lang/IllegalStateException", hg _ q_545, nc_at hK (flat_of_before _ hK.1.2.2 _ (by decide +kernel))⟩, (fun _ h9 => absurd h9 List.not_mem_nil)⟩) (by decide) (by decide) (by decide) (hg _ q_622) hI (xp_runV (As := [.int (nI k9), .int x]) (rest := [.int (nI 0), .ref oa]) ⟨hx, hb, hml, hown, hg⟩ (x_B_valZ l hl9 D g S _ o pa vo qo ky lz za mu9 po nl s9 zc v2 v3 v4 v5 v6 u0 u1 u3 u5 u6 q0 q3 q4 q5 q6 q7 q8 q9 q10 q11 eo le la kQ MQ dl CL ZZ k9 x h_o h_pa h_vo h_qo h_ky h_lz h_za h_mu9 hLo hZ hnl hs hzc hk9 hx9) ⟨(callB_of 2 hg (wd_goodG q_794) rfl rfl rfl (hg _ q_1) (hg _ q_791) (by decide +kernel) ⟨Nat.le_of_ble_eq_true rfl, Nat.le_of_ble_eq_true rfl⟩), hg _ q_792, hg _ q_793⟩ (mp_preV (C := R_B) (T := F_B) hI hK h_o rfl [.int (nI k9), .int x]) rfl hl.1 (lv_room (Nat.le_of_ble_eq_true rfl)) d_L_value_5 ⟨Nat.le_of_ble_eq_true rfl, Nat.le_of_ble_eq_true rfl⟩) (fun q9 H9 hI => ?_)
  refine lv_astore (lv' := [(4, .ref q9), (0, .ref o), (1, .int (nI k9)), (2, .int x), (3, .ref oa)]) hx hb d_L_value_17 hl (by decide) rfl (fun ls hl => ?_)
  refine lv_iconst (v := nI 2) hx hb d_L_value_19 (by decide) ?_
  refine mp_iret hx hb hr hlocks hI (Nat.le_of_ble_eq_true rfl) (Nat.le_of_ble_eq_true rfl) ?_ d_L_value_20
  exact ⟨rfl, rfl⟩
set_option maxHeartbeats 4000000 in
set_option maxRecDepth 100000 in
/-- a value comes back -/
theorem c_L_valK (l : Launch) (D : mp_G) (g : Nat → ClassId) (S : mp_M) (sz : Nat) (o pa vo qo ky lz za mu9 po nl s9 zc : Nat) (v2 v3 v4 v5 v6 u0 u1 u3 u5 u6 q0 q3 q4 q5 q6 q7 q8 q9 q10 q11 : Value) (eo le la kQ MQ : Nat → Nat) (dl : Nat → Int32) (CL ZZ : Nat → Nat → fF) (oa : Nat) (of : Nat → Int64) (pn pp : Nat) (X : Nat → fF) (W9 : Nat → Nat → fF) (ek en cap pz : Nat → Nat) (kf nf : Nat → Nat → Int32) (k9 z9 : Nat) (mo : Nat → m3) (co : Nat → fF) (h_o : S o = some (0, .inr (0, [.int (nI nl), .ref pa, v2, v3, v4, v5, v6, .int 1, .int (nI zc), .ref vo]))) (h_pa : S pa = some (1, .inl ((g 2), 40, .inr (.inr (.inr (.inr (rfs eo 40))))))) (h_vo : S vo = some (10, .inr (7, [u0, u1, .ref qo, u3, .ref lz, u5, u6, .ref za, .ref mu9, .int (nI zc), .ref po]))) (h_qo : S qo = some (14, .inr (4, [q0, .ref ky, .int (nI s9), q3, q4, q5, q6, q7, q8, q9, q10, q11]))) (h_ky : S ky = some (15, .inl ((g 0), 16, .inl (fun j => nI (kQ j))))) (h_lz : S lz = some (32, .inl ((g 3), 3, .inr (.inr (.inr (.inr (rfs le 3))))))) (h_za : S za = some (35, .inl ((g 1), 16, .inr (.inr (.inr (.inr (rfs (fun ii => za + 1 + ii) 16))))))) (h_mu9 : S mu9 = some (36, .inl ((g 0), 16, .inl (fun j => nI (MQ j))))) (h_po : S po = some (37, .inr (2, [.ref pn, .ref pp]))) (h_pn : S pn = some (38, .inl ((g 0), 3, .inl (fun j => nI (X j).val)))) (h_pp : S pp = some (39, .inl ((g 1), 3, .inr (.inr (.inr (.inr (rfs (fun ii => pp + 1 + ii) 3))))))) (h_oa : S oa = some (9, .inl ((g 4), 1, .inr (.inl of)))) (hLo : oS g 570 3 le la dl (fun ii j => nI (CL ii j).val) S) (hZ : rS g 590 16 3 (fun ii => za + 1 + ii) (fun ii j => nI (ZZ ii j).val) S) (hnl : nl ≤ 3) (hs : s9 ≤ 16) (hzc : zc ≤ 16) (hW : rS g 610 3 10 (fun ii => pp + 1 + ii) (fun ii j => nI (W9 ii j).val) S) (hE : yS g 100 40 eo ek en cap pz kf nf S) (hk9 : k9 < 40) (hz9 : z9 < zc) (hz : pz k9 ≤ cap k9) (hcp : cap k9 ≤ 2048) (hkk : ∀ k, k < pz k9 → kf k9 k = nI (kN (mo k).1 (mo k).2.1 (mo k).2.2) ∧ nf k9 k = nI (co k).val ∧ e9 (mo k)) : Met l y_L_value w_L_value ({ frames := 4, cells := 0, slots := 0, locals := 96 }) (va_Pc [.ref o, .int (nI k9), .int (nI z9), .ref oa] (mp_B0 D classes (tys g) S sz)) (va_Qi (fun (r : Int32) (S1 : mp_M) => r = nI 0 ∧ (∃ f1 : Nat → Int64, S1 oa = some (9, .inl ((g 4), 1, .inr (.inl f1))) ∧ f1 0 = (nI (sm (pz k9) (fun k => co k * ev (ZZ z9 0) (ZZ z9 1) (ZZ z9 2) (mo k))).val).toInt64) ∧ ∃ (X1 : Nat → fF) (W1 : Nat → Nat → fF), S1 pn = some (38, .inl ((g 0), 3, .inl (fun j => nI (X1 j).val))) ∧ (rS g 610 3 10 (fun ii => pp + 1 + ii) (fun ii j => nI (W1 ii j).val) S1) ∧ (∀ b t e9, S b = some (t, e9) → (t ≠ 9) → (t ≠ 38) → ((t < 610 ∨ 613 ≤ t)) → S1 b = some (t, e9))) (mp_B1 D classes S sz) (mp_A S sz)) 0 0 (mp_A S sz) := by
  refine va_MetW (hh := hh_L_value) (cc := b_L_value) (maxL := 5) (ret := (some .int)) (by decide) rfl ?_
  intro p e s m args below meth c s₁ B hml hv
  obtain ⟨rfl, hsz, hH, hK⟩ := hv
  have hx := B.exec
  have hb := B.bytes
  have hr := B.returns
  have hts := atoms_spec (ws := w_L_value) B.pre
  have hg : ∀ w ∈ gw, w.before _ s = true := fun w h => hts w (List.mem_cons_of_mem _ h)
  have hown : s.vm.findClass R_L = some m.cls := findClass_of_methodNamed B.named
  have hlocks := B.notSynchronized
  have hhh := lw_table B (hts _ List.mem_cons_self)
  subst hsz
  have hI := mp_I.start hH
  have hl := lv_entry ([.ref o, .int (nI k9), .int (nI z9), .ref oa]) (n := 5) (Nat.le_of_ble_eq_true rfl)
  rw [lg_entry_eq]
  generalize (lg_sl ([.ref o, .int (nI k9), .int (nI z9), .ref oa]) ++ List.replicate (5 - (lg_sl ([.ref o, .int (nI k9), .int (nI z9), .ref oa])).length) Slot.unset).toArray = ls at hl ⊢
  have hl : lv_has ls 5 [(0, .ref o), (1, .int (nI k9)), (2, .int (nI z9)), (3, .ref oa)] := hl
  have hfr : ∀ b t e9, S b = some (t, e9) → (t ≠ 9) → (t ≠ 38) → ((t < 610 ∨ 613 ≤ t)) → S b = some (t, e9) := fun _ _ _ h9 _ _ _ => h9
  refine lv_aload_n hx hb d_L_value_0 rfl (lv_at hl 3 rfl) ?_
  refine lv_iconst (v := nI 0) hx hb d_L_value_1 (by decide) ?_
  refine lv_aload_n hx hb d_L_value_2 rfl (lv_at hl 0 rfl) ?_
  refine lv_iload_n hx hb d_L_value_3 rfl (lv_at hl 1 rfl) ?_
  refine lv_iload_n hx hb d_L_value_4 rfl (lv_at hl 2 rfl) ?_
  refine mp_calli hI (va_runV (As := [.int (nI k9), .int (nI z9)]) (rest := [.int (nI 0), .ref oa]) ⟨hx, hb, hml, hown, hg⟩ (c_B_valK l D g S _ o pa vo qo ky lz za mu9 po nl s9 zc v2 v3 v4 v5 v6 u0 u1 u3 u5 u6 q0 q3 q4 q5 q6 q7 q8 q9 q10 q11 eo le la kQ MQ dl CL ZZ pn pp X W9 ek en cap pz kf nf k9 z9 mo co h_o h_pa h_vo h_qo h_ky h_lz h_za h_mu9 h_po h_pn h_pp hLo hZ hnl hs hzc hW hE hk9 hz9 hz hcp hkk) ⟨(callB_of 2 hg (wd_goodG q_794) rfl rfl rfl (hg _ q_1) (hg _ q_791) (by decide +kernel) ⟨Nat.le_of_ble_eq_true rfl, Nat.le_of_ble_eq_true rfl⟩), hg _ q_792, hg _ q_793⟩ (mp_preV (C := R_B) (T := F_B) hI hK h_o rfl [.int (nI k9), .int (nI z9)]) rfl rfl hl.1 rfl (lv_room (Nat.le_of_ble_eq_true rfl)) d_L_value_5 ⟨Nat.le_of_ble_eq_true rfl, Nat.le_of_ble_eq_true rfl⟩) (fun r4 S1 H2 locs p_3 hI => ?_)
  obtain ⟨X1, W1, er4, q_pn, q_W, fq⟩ := p_3
  have h_o : S1 o = some (0, .inr (0, [.int (nI nl), .ref pa, v2, v3, v4, v5, v6, .int 1, .int (nI zc), .ref vo])) := fq o _ _ h_o (by omega) (by omega)
  have h_pa : S1 pa = some (1, .inl ((g 2), 40, .inr (.inr (.inr (.inr (rfs eo 40)))))) := fq pa _ _ h_pa (by omega) (by omega)
  have h_vo : S1 vo = some (10, .inr (7, [u0, u1, .ref qo, u3, .ref lz, u5, u6, .ref za, .ref mu9, .int (nI zc), .ref po])) := fq vo _ _ h_vo (by omega) (by omega)
  have h_qo : S1 qo = some (14, .inr (4, [q0, .ref ky, .int (nI s9), q3, q4, q5, q6, q7, q8, q9, q10, q11])) := fq qo _ _ h_qo (by omega) (by omega)
  have h_ky : S1 ky = some (15, .inl ((g 0), 16, .inl (fun j => nI (kQ j)))) := fq ky _ _ h_ky (by omega) (by omega)
  have h_lz : S1 lz = some (32, .inl ((g 3), 3, .inr (.inr (.inr (.inr (rfs le 3)))))) := fq lz _ _ h_lz (by omega) (by omega)
  have h_za : S1 za = some (35, .inl ((g 1), 16, .inr (.inr (.inr (.inr (rfs (fun ii => za + 1 + ii) 16)))))) := fq za _ _ h_za (by omega) (by omega)
  have h_mu9 : S1 mu9 = some (36, .inl ((g 0), 16, .inl (fun j => nI (MQ j)))) := fq mu9 _ _ h_mu9 (by omega) (by omega)
  have h_po : S1 po = some (37, .inr (2, [.ref pn, .ref pp])) := fq po _ _ h_po (by omega) (by omega)
  have h_pp : S1 pp = some (39, .inl ((g 1), 3, .inr (.inr (.inr (.inr (rfs (fun ii => pp + 1 + ii) 3)))))) := fq pp _ _ h_pp (by omega) (by omega)
  have h_oa : S1 oa = some (9, .inl ((g 4), 1, .inr (.inl of))) := fq oa _ _ h_oa (by omega) (by omega)
  have hfr : ∀ b t e9, S b = some (t, e9) → (t ≠ 9) → (t ≠ 38) → ((t < 610 ∨ 613 ≤ t)) → S1 b = some (t, e9) := fun b t e9 h9 k0 k1 k2 => by have h8 := hfr b t e9 h9 k0 k1 k2; exact fq b _ _ h8 (by omega) (by omega)
  have h_pn := q_pn
  have hW := q_W
  refine lv_i2l (v := (r4).toInt64) hx hb d_L_value_8 rfl ?_
  refine mp_last hx hb hK.va hI 4 h_oa rfl (vp_in_nI (by decide) (by decide)) d_L_value_9 (fun S5 H6 locs e_7 hI => ?_)
  have h_oa_o := h_oa
  have e_7 : S5 = va_up S1 oa (some (9, .inl ((g 4), 1, .inr (.inl (vp_updL of (nI 0).toNatClampNeg ((r4).toInt64)))))) := e_7
  have h_oa_o := h_oa
  have h_o : S5 o = some (0, .inr (0, [.int (nI nl), .ref pa, v2, v3, v4, v5, v6, .int 1, .int (nI zc), .ref vo])) := by rw [e_7]; exact mp_keep h_o h_oa (by decide)
  have h_pa : S5 pa = some (1, .inl ((g 2), 40, .inr (.inr (.inr (.inr (rfs eo 40)))))) := by rw [e_7]; exact mp_keep h_pa h_oa (by decide)
  have h_vo : S5 vo = some (10, .inr (7, [u0, u1, .ref qo, u3, .ref lz, u5, u6, .ref za, .ref mu9, .int (nI zc), .ref po])) := by rw [e_7]; exact mp_keep h_vo h_oa (by decide)
  have h_qo : S5 qo = some (14, .inr (4, [q0, .ref ky, .int (nI s9), q3, q4, q5, q6, q7, q8, q9, q10, q11])) := by rw [e_7]; exact mp_keep h_qo h_oa (by decide)
  have h_ky : S5 ky = some (15, .inl ((g 0), 16, .inl (fun j => nI (kQ j)))) := by rw [e_7]; exact mp_keep h_ky h_oa (by decide)
  have h_lz : S5 lz = some (32, .inl ((g 3), 3, .inr (.inr (.inr (.inr (rfs le 3)))))) := by rw [e_7]; exact mp_keep h_lz h_oa (by decide)
  have h_za : S5 za = some (35, .inl ((g 1), 16, .inr (.inr (.inr (.inr (rfs (fun ii => za + 1 + ii) 16)))))) := by rw [e_7]; exact mp_keep h_za h_oa (by decide)
  have h_mu9 : S5 mu9 = some (36, .inl ((g 0), 16, .inl (fun j => nI (MQ j)))) := by rw [e_7]; exact mp_keep h_mu9 h_oa (by decide)
  have h_po : S5 po = some (37, .inr (2, [.ref pn, .ref pp])) := by rw [e_7]; exact mp_keep h_po h_oa (by decide)
  have h_pn : S5 pn = some (38, .inl ((g 0), 3, .inl (fun j => nI (X1 j).val))) := by rw [e_7]; exact mp_keep h_pn h_oa (by decide)
  have h_pp : S5 pp = some (39, .inl ((g 1), 3, .inr (.inr (.inr (.inr (rfs (fun ii => pp + 1 + ii) 3)))))) := by rw [e_7]; exact mp_keep h_pp h_oa (by decide)
  have h_oa : S5 oa = some (9, .inl ((g 4), 1, .inr (.inl (vp_updL of (nI 0).toNatClampNeg ((r4).toInt64))))) := by rw [e_7]; exact mp_us _ _ _
  have hW := rS_kept hW (S1 := S5) (fun b t9 e9 hb9 h1 h2 => by rw [e_7]; exact mp_un (mp_ne hb9 h_oa_o (by omega)))
  have hfr : ∀ b t e9, S b = some (t, e9) → (t ≠ 9) → (t ≠ 38) → ((t < 610 ∨ 613 ≤ t)) → S5 b = some (t, e9) := fun b t e9 h9 k0 k1 k2 => by rw [e_7]; exact mp_keep (hfr b t e9 h9 k0 k1 k2) h_oa_o (by omega)
  refine lv_goto (tgt := 21) hx hb d_L_value_10 (by decide) ?_
  refine lv_iconst (v := nI 0) hx hb d_L_value_21 (by decide) ?_
  have hV9 : (r4).toInt64 = (nI (sm (pz k9) (fun k => co k * ev (ZZ z9 0) (ZZ z9 1) (ZZ z9 2) (mo k))).val).toInt64 := congrArg Int32.toInt64 er4
  refine mp_iret hx hb hr hlocks hI (Nat.le_of_ble_eq_true rfl) (Nat.le_of_ble_eq_true rfl) ?_ d_L_value_22
  exact ⟨rfl, ⟨_, h_oa, hV9⟩, X1, W1, h_pn, hW, hfr⟩
set_option maxHeartbeats 4000000 in
set_option maxRecDepth 100000 in
/-- term -/
theorem c_L_term (l : Launch) (D : mp_G) (g : Nat → ClassId) (S : mp_M) (sz : Nat) (o pa n : Nat) (eo ek en cap pz : Nat → Nat) (kf nf : Nat → Nat → Int32) (cf : Nat → Nat → Nat) (v2 v3 v4 v5 v6 v7 v8 v9 : Value) (k9 v : Nat) (ab be : Int64) (oa : Nat) (of : Nat → Int64) (h_o : S o = some (0, .inr (0, [.int (nI n), .ref pa, v2, v3, v4, v5, v6, v7, v8, v9]))) (h_pa : S pa = some (1, .inl ((g 2), 40, .inr (.inr (.inr (.inr (rfs eo 40))))))) (h_oa : S oa = some (9, .inl ((g 4), 1, .inr (.inl of)))) (hE : yS g 100 40 eo ek en cap pz kf nf S) (hG : pG 40 cap pz kf nf cf) (hk9 : k9 < 40) (hv : v < 2 ^ 31) (hn : n < 4) (hn0 : 0 < n) (hp : pwOk n v) (hq : rsN be ≠ 0) : Met l y_L_term w_L_term ({ frames := 5, cells := 2, slots := 4096, locals := 158 }) (va_Pc [.ref o, .int (nI k9), .long ab, .long be, .int (nI v), .ref oa] (mp_B0 D classes (tys g) S sz)) (va_Qi (fun (r : Int32) (S1 : mp_M) => r = nI 0 ∧ (∃ f1 : Nat → Int64, S1 oa = some (9, .inl ((g 4), 1, .inr (.inl f1))) ∧ f1 0 = (if cf k9 (kN (v % 16) (v / 16 % 16) (v / 256)) = (rsN ab * (rsN be ^ 32001 % 32003) % 32003) then lN 0 else lN 1)) ∧ ∃ (ek1 en1 cap1 pz1 : Nat → Nat) (kf1 nf1 : Nat → Nat → Int32), yS g 100 40 eo ek1 en1 cap1 pz1 kf1 nf1 S1 ∧ pG 40 cap1 pz1 kf1 nf1 (va_up cf k9 (va_up (cf k9) (kN (v % 16) (v / 16 % 16) (v / 256)) (rsN ab * (rsN be ^ 32001 % 32003) % 32003))) ∧ (∀ b t e9, S b = some (t, e9) → (t ≠ 9) → ((t < 100 ∨ 220 ≤ t)) → S1 b = some (t, e9))) (mp_B1 D classes S sz) (mp_A S sz)) 2 4096 (mp_A S sz) := by
  refine va_MetW (hh := hh_L_term) (cc := b_L_term) (maxL := 9) (ret := (some .int)) (by decide) rfl ?_
  intro p e s m args below meth c s₁ B hml hv
  obtain ⟨rfl, hsz, hH, hK⟩ := hv
  have hx := B.exec
  have hb := B.bytes
  have hr := B.returns
  have hts := atoms_spec (ws := w_L_term) B.pre
  have hg : ∀ w ∈ gw, w.before _ s = true := fun w h => hts w (List.mem_cons_of_mem _ h)
  have hown : s.vm.findClass R_L = some m.cls := findClass_of_methodNamed B.named
  have hlocks := B.notSynchronized
  have hhh := lw_table B (hts _ List.mem_cons_self)
  subst hsz
  have hI := mp_I.start hH
  have hl := lv_entry ([.ref o, .int (nI k9), .long ab, .long be, .int (nI v), .ref oa]) (n := 9) (Nat.le_of_ble_eq_true rfl)
  rw [lg_entry_eq]
  generalize (lg_sl ([.ref o, .int (nI k9), .long ab, .long be, .int (nI v), .ref oa]) ++ List.replicate (9 - (lg_sl ([.ref o, .int (nI k9), .long ab, .long be, .int (nI v), .ref oa])).length) Slot.unset).toArray = ls at hl ⊢
  have hl : lv_has ls 9 [(0, .ref o), (1, .int (nI k9)), (2, .long ab), (4, .long be), (6, .int (nI v)), (7, .ref oa)] := hl
  have hfr : ∀ b t e9, S b = some (t, e9) → (t ≠ 9) → ((t < 100 ∨ 220 ≤ t)) → S b = some (t, e9) := fun _ _ _ h9 _ _ => h9
  refine lv_aload hx hb d_L_term_0 (lv_at hl 5 rfl) ?_
  refine lv_iconst (v := nI 0) hx hb d_L_term_2 (by decide) ?_
  refine lv_aload_n hx hb d_L_term_3 rfl (lv_at hl 0 rfl) ?_
  refine lv_iload_n hx hb d_L_term_4 rfl (lv_at hl 1 rfl) ?_
  refine lv_lload_n hx hb d_L_term_5 rfl (lv_at hl 2 rfl) ?_
  refine lv_lload hx hb d_L_term_6 (lv_at hl 3 rfl) ?_
  refine lv_iload hx hb d_L_term_8 (lv_at hl 4 rfl) ?_
  refine mp_calli hI (va_runV (As := [.int (nI k9), .long ab, .long be, .int (nI v)]) (rest := [.int (nI 0), .ref oa]) ⟨hx, hb, hml, hown, hg⟩ (c_B_term l D g S _ o pa n eo ek en cap pz kf nf cf v2 v3 v4 v5 v6 v7 v8 v9 k9 v ab be h_o h_pa hE hG hk9 hv hn hn0 hp hq) ⟨(callB_of 4 hg (wd_goodG q_628) rfl rfl rfl (hg _ q_1) (hg _ q_625) (by decide +kernel) ⟨Nat.le_of_ble_eq_true rfl, Nat.le_of_ble_eq_true rfl⟩), hg _ q_626, hg _ q_627⟩ (mp_preV (C := R_B) (T := F_B) hI hK h_o rfl [.int (nI k9), .long ab, .long be, .int (nI v)]) rfl rfl hl.1 rfl (lv_room (Nat.le_of_ble_eq_true rfl)) d_L_term_10 ⟨Nat.le_of_ble_eq_true rfl, Nat.le_of_ble_eq_true rfl⟩) (fun r4 S1 H2 locs p_3 hI => ?_)
  obtain ⟨er4, ek1, en1, cap1, pz1, kf1, nf1, hE, hG, fq0⟩ := p_3
  have fq : ∀ b t e9, S b = some (t, e9) → (t < 100 ∨ 220 ≤ t) → S1 b = some (t, e9) := fun b t e9 h9 k9 => (fq0 b t e9 h9 k9).trans h9
  have h_o : S1 o = some (0, .inr (0, [.int (nI n), .ref pa, v2, v3, v4, v5, v6, v7, v8, v9])) := fq o _ _ h_o (by omega)
  have h_pa : S1 pa = some (1, .inl ((g 2), 40, .inr (.inr (.inr (.inr (rfs eo 40)))))) := fq pa _ _ h_pa (by omega)
  have h_oa : S1 oa = some (9, .inl ((g 4), 1, .inr (.inl of))) := fq oa _ _ h_oa (by omega)
  have hfr : ∀ b t e9, S b = some (t, e9) → (t ≠ 9) → ((t < 100 ∨ 220 ≤ t)) → S1 b = some (t, e9) := fun b t e9 h9 k0 k1 => by have h8 := hfr b t e9 h9 k0 k1; exact fq b _ _ h8 (by omega)
  rcases er4 with ⟨hz9, rfl⟩ | ⟨hz9, rfl⟩
  · refine lv_if_eq (tgt := 20) hx hb d_L_term_13 (by decide) (fun _ => ?_) (fun h9 => absurd (by decide) h9)
    refine lv_lconst (v := lN 0) hx hb d_L_term_20 (by decide) ?_
    refine mp_last hx hb hK.va hI 4 h_oa rfl (vp_in_nI (by decide) (by decide)) d_L_term_21 (fun S5 H6 locs e_7 hI => ?_)
    have h_oa_o := h_oa
    have e_7 : S5 = va_up S1 oa (some (9, .inl ((g 4), 1, .inr (.inl (vp_updL of (nI 0).toNatClampNeg (lN 0)))))) := e_7
    have h_oa_o := h_oa
    have h_o : S5 o = some (0, .inr (0, [.int (nI n), .ref pa, v2, v3, v4, v5, v6, v7, v8, v9])) := by rw [e_7]; exact mp_keep h_o h_oa (by decide)
    have h_pa : S5 pa = some (1, .inl ((g 2), 40, .inr (.inr (.inr (.inr (rfs eo 40)))))) := by rw [e_7]; exact mp_keep h_pa h_oa (by decide)
    have h_oa : S5 oa = some (9, .inl ((g 4), 1, .inr (.inl (vp_updL of (nI 0).toNatClampNeg (lN 0))))) := by rw [e_7]; exact mp_us _ _ _
    have hE := yS_kept hE (S1 := S5) (fun b t9 e9 hb9 h1 h2 => by rw [e_7]; exact mp_un (mp_ne hb9 h_oa_o (by omega)))
    have hfr : ∀ b t e9, S b = some (t, e9) → (t ≠ 9) → ((t < 100 ∨ 220 ≤ t)) → S5 b = some (t, e9) := fun b t e9 h9 k0 k1 => by rw [e_7]; exact mp_keep (hfr b t e9 h9 k0 k1) h_oa_o (by omega)
    refine lv_goto (tgt := 37) hx hb d_L_term_22 (by decide) ?_
    refine lv_iconst (v := nI 0) hx hb d_L_term_37 (by decide) ?_
    refine mp_iret hx hb hr hlocks hI (Nat.le_of_ble_eq_true rfl) (Nat.le_of_ble_eq_true rfl) ?_ d_L_term_38
    exact ⟨rfl, ⟨_, h_oa, (if_pos hz9).symm⟩, ek1, en1, cap1, pz1, kf1, nf1, hE, hG, hfr⟩
  · refine lv_if_eq (tgt := 20) hx hb d_L_term_13 (by decide) (fun h9 => absurd h9 (by decide)) (fun _ => ?_)
    refine lv_lconst (v := lN 1) hx hb d_L_term_16 (by decide) ?_
    refine lv_goto (tgt := 21) hx hb d_L_term_17 (by decide) ?_
    refine mp_last hx hb hK.va hI 4 h_oa rfl (vp_in_nI (by decide) (by decide)) d_L_term_21 (fun S8 H9 locs e_10 hI => ?_)
    have h_oa_o := h_oa
    have e_10 : S8 = va_up S1 oa (some (9, .inl ((g 4), 1, .inr (.inl (vp_updL of (nI 0).toNatClampNeg (lN 1)))))) := e_10
    have h_oa_o := h_oa
    have h_o : S8 o = some (0, .inr (0, [.int (nI n), .ref pa, v2, v3, v4, v5, v6, v7, v8, v9])) := by rw [e_10]; exact mp_keep h_o h_oa (by decide)
    have h_pa : S8 pa = some (1, .inl ((g 2), 40, .inr (.inr (.inr (.inr (rfs eo 40)))))) := by rw [e_10]; exact mp_keep h_pa h_oa (by decide)
    have h_oa : S8 oa = some (9, .inl ((g 4), 1, .inr (.inl (vp_updL of (nI 0).toNatClampNeg (lN 1))))) := by rw [e_10]; exact mp_us _ _ _
    have hE := yS_kept hE (S1 := S8) (fun b t9 e9 hb9 h1 h2 => by rw [e_10]; exact mp_un (mp_ne hb9 h_oa_o (by omega)))
    have hfr : ∀ b t e9, S b = some (t, e9) → (t ≠ 9) → ((t < 100 ∨ 220 ≤ t)) → S8 b = some (t, e9) := fun b t e9 h9 k0 k1 => by rw [e_10]; exact mp_keep (hfr b t e9 h9 k0 k1) h_oa_o (by omega)
    refine lv_goto (tgt := 37) hx hb d_L_term_22 (by decide) ?_
    refine lv_iconst (v := nI 0) hx hb d_L_term_37 (by decide) ?_
    refine mp_iret hx hb hr hlocks hI (Nat.le_of_ble_eq_true rfl) (Nat.le_of_ble_eq_true rfl) ?_ d_L_term_38
    exact ⟨rfl, ⟨_, h_oa, (if_neg hz9).symm⟩, ek1, en1, cap1, pz1, kf1, nf1, hE, hG, hfr⟩
set_option maxHeartbeats 4000000 in
set_option maxRecDepth 100000 in
/-- take: 12 were taken -/
theorem c_L_takeF (l : Launch) (D : mp_G) (g : Nat → ClassId) (S : mp_M) (sz : Nat) (o pa lo nl : Nat) (eo : Nat → Nat) (v3 v4 v6 v8 v9 : Value) (an : Int32) (k9 : Nat) (oa : Nat) (of : Nat → Int64) (h_o : S o = some (0, .inr (0, [.int (nI nl), .ref pa, .ref lo, v3, v4, .int (nI 12), v6, .int an, v8, v9]))) (h_pa : S pa = some (1, .inl ((g 2), 40, .inr (.inr (.inr (.inr (rfs eo 40))))))) (h_oa : S oa = some (9, .inl ((g 4), 1, .inr (.inl of)))) (hk9 : k9 < 40) : Met l y_L_take w_L_take ({ frames := 2, cells := 0, slots := 0, locals := 43 }) (va_Pc [.ref o, .int (nI k9), .ref oa] (mp_B0 D classes (tys g) S sz)) (va_Qi (fun (r : Int32) (S1 : mp_M) => r = nI 0 ∧ (∃ f1 : Nat → Int64, S1 oa = some (9, .inl ((g 4), 1, .inr (.inl f1))) ∧ f1 0 = lN 0) ∧ (∀ b t e9, S b = some (t, e9) → (t ≠ 9) → S1 b = some (t, e9))) (mp_B1 D classes S sz) (mp_A S sz)) 0 0 (mp_A S sz) := by
  refine va_MetW (hh := hh_L_take) (cc := b_L_take) (maxL := 4) (ret := (some .int)) (by decide) rfl ?_
  intro p e s m args below meth c s₁ B hml hv
  obtain ⟨rfl, hsz, hH, hK⟩ := hv
  have hx := B.exec
  have hb := B.bytes
  have hr := B.returns
  have hts := atoms_spec (ws := w_L_take) B.pre
  have hg : ∀ w ∈ gw, w.before _ s = true := fun w h => hts w (List.mem_cons_of_mem _ h)
  have hown : s.vm.findClass R_L = some m.cls := findClass_of_methodNamed B.named
  have hlocks := B.notSynchronized
  have hhh := lw_table B (hts _ List.mem_cons_self)
  subst hsz
  have hI := mp_I.start hH
  have hl := lv_entry ([.ref o, .int (nI k9), .ref oa]) (n := 4) (Nat.le_of_ble_eq_true rfl)
  rw [lg_entry_eq]
  generalize (lg_sl ([.ref o, .int (nI k9), .ref oa]) ++ List.replicate (4 - (lg_sl ([.ref o, .int (nI k9), .ref oa])).length) Slot.unset).toArray = ls at hl ⊢
  have hl : lv_has ls 4 [(0, .ref o), (1, .int (nI k9)), (2, .ref oa)] := hl
  have hfr : ∀ b t e9, S b = some (t, e9) → (t ≠ 9) → S b = some (t, e9) := fun _ _ _ h9 _ => h9
  refine lv_aload_n hx hb d_L_take_0 rfl (lv_at hl 2 rfl) ?_
  refine lv_iconst (v := nI 0) hx hb d_L_take_1 (by decide) ?_
  refine lv_aload_n hx hb d_L_take_2 rfl (lv_at hl 0 rfl) ?_
  refine lv_iload_n hx hb d_L_take_3 rfl (lv_at hl 1 rfl) ?_
  refine mp_calli hI (va_runV (As := [.int (nI k9)]) (rest := [.int (nI 0), .ref oa]) ⟨hx, hb, hml, hown, hg⟩ (c_B_takeF l D g S _ o pa lo nl eo v3 v4 v6 v8 v9 an k9 h_o h_pa hk9) ⟨(callB_of 1 hg (wd_goodG q_722) rfl rfl rfl (hg _ q_1) (hg _ q_719) (by decide +kernel) ⟨Nat.le_of_ble_eq_true rfl, Nat.le_of_ble_eq_true rfl⟩), hg _ q_720, hg _ q_721⟩ (mp_preV (C := R_B) (T := F_B) hI hK h_o rfl [.int (nI k9)]) rfl rfl hl.1 rfl (lv_room (Nat.le_of_ble_eq_true rfl)) d_L_take_4 ⟨Nat.le_of_ble_eq_true rfl, Nat.le_of_ble_eq_true rfl⟩) (fun r4 S1 H2 locs p_3 hI => ?_)
  obtain ⟨er4, eS5⟩ := p_3
  rw [eS5] at hI
  have er4 : r4 = 0 := er4
  subst er4
  refine lv_if_eq (tgt := 14) hx hb d_L_take_7 (by decide) (fun _ => ?_) (fun h9 => absurd (by decide) h9)
  refine lv_lconst (v := lN 0) hx hb d_L_take_14 (by decide) ?_
  refine mp_last hx hb hK.va hI 4 h_oa rfl (vp_in_nI (by decide) (by decide)) d_L_take_15 (fun S6 H7 locs e_8 hI => ?_)
  have h_oa_o := h_oa
  have e_8 : S6 = va_up S oa (some (9, .inl ((g 4), 1, .inr (.inl (vp_updL of (nI 0).toNatClampNeg (lN 0)))))) := e_8
  have h_o : S6 o = some (0, .inr (0, [.int (nI nl), .ref pa, .ref lo, v3, v4, .int (nI 12), v6, .int an, v8, v9])) := by rw [e_8]; exact mp_keep h_o h_oa (by decide)
  have h_pa : S6 pa = some (1, .inl ((g 2), 40, .inr (.inr (.inr (.inr (rfs eo 40)))))) := by rw [e_8]; exact mp_keep h_pa h_oa (by decide)
  have h_oa : S6 oa = some (9, .inl ((g 4), 1, .inr (.inl (vp_updL of (nI 0).toNatClampNeg (lN 0))))) := by rw [e_8]; exact mp_us _ _ _
  have hfr : ∀ b t e9, S b = some (t, e9) → (t ≠ 9) → S6 b = some (t, e9) := fun b t e9 h9 k0 => by rw [e_8]; exact mp_keep (hfr b t e9 h9 k0) h_oa_o (by omega)
  refine lv_goto (tgt := 22) hx hb d_L_take_16 (by decide) ?_
  refine lv_iconst (v := nI 0) hx hb d_L_take_22 (by decide) ?_
  refine mp_iret hx hb hr hlocks hI (Nat.le_of_ble_eq_true rfl) (Nat.le_of_ble_eq_true rfl) ?_ d_L_take_23
  exact ⟨rfl, ⟨_, h_oa, rfl⟩, hfr⟩
set_option maxHeartbeats 4000000 in
set_option maxRecDepth 100000 in
/-- take: it is added -/
theorem c_L_takeA (l : Launch) (D : mp_G) (g : Nat → ClassId) (S : mp_M) (sz : Nat) (o pa lo ma hd nl tk n : Nat) (eo ek en cap pz : Nat → Nat) (kf nf : Nat → Nat → Int32) (me mk mn mcap mz : Nat → Nat) (mkf mnf : Nat → Nat → Int32) (hf : Nat → Int32) (X : Nat → Nat) (v3 v4 v6 v8 v9 : Value) (an : Int32) (k9 : Nat) (oa : Nat) (of : Nat → Int64) (h_o : S o = some (0, .inr (0, [.int (nI nl), .ref pa, .ref lo, v3, v4, .int (nI tk), v6, .int an, v8, v9]))) (h_pa : S pa = some (1, .inl ((g 2), 40, .inr (.inr (.inr (.inr (rfs eo 40))))))) (h_lo : S lo = some (2, .inr (9, [.ref ma, .ref hd, .int (nI n)]))) (h_ma : S ma = some (4, .inl ((g 2), 12, .inr (.inr (.inr (.inr (rfs me 12))))))) (h_hd : S hd = some (5, .inl ((g 0), 12, .inl hf))) (h_oa : S oa = some (9, .inl ((g 4), 1, .inr (.inl of)))) (hE : yS g 100 40 eo ek en cap pz kf nf S) (hM : yS g 300 12 me mk mn mcap mz mkf mnf S) (hX : ∀ i, i < pz k9 → nf k9 i = nI (X i) ∧ X i < 32003) (hz0 : 0 < pz k9) (hz2 : pz k9 ≤ cap k9) (hz3 : pz k9 ≤ 1000) (hcp : cap k9 ≤ 2048) (hmc : ∀ i, i < 12 → mcap i ≤ 2048) (hn : n < 12) (hk9 : k9 < 40) (htk : tk < 12) : Met l y_L_take w_L_take ({ frames := 4, cells := 2, slots := 4096, locals := 89 }) (va_Pc [.ref o, .int (nI k9), .ref oa] (mp_B0 D classes (tys g) S sz)) (va_Qi (fun (r : Int32) (S1 : mp_M) => r = nI 0 ∧ (∃ f1 : Nat → Int64, S1 oa = some (9, .inl ((g 4), 1, .inr (.inl f1))) ∧ f1 0 = lN 1) ∧ S1 o = some (0, .inr (0, [.int (nI nl), .ref pa, .ref lo, v3, v4, .int (nI (tk + 1)), v6, .int 0, v8, v9])) ∧ ∃ (mk1 mn1 mcap1 mz1 : Nat → Nat) (mkf1 mnf1 : Nat → Nat → Int32), S1 lo = some (2, .inr (9, [.ref ma, .ref hd, .int (nI (n + 1))])) ∧ S1 hd = some (5, .inl ((g 0), 12, .inl (upd hf n (kf k9 0)))) ∧ yS g 300 12 me mk1 mn1 mcap1 mz1 mkf1 mnf1 S1 ∧ (∀ i, i < 12 → mcap1 i ≤ 2048) ∧ mz1 n = pz k9 ∧ pz k9 ≤ mcap1 n ∧ (∀ j, j < pz k9 → mkf1 n j = kf k9 j) ∧ (∀ j, j < pz k9 → mnf1 n j = nI (X j * (X 0 ^ 32001 % 32003) % 32003)) ∧ (∀ i, i ≠ n → mz1 i = mz i ∧ mcap1 i = mcap i ∧ mkf1 i = mkf i ∧ mnf1 i = mnf i) ∧ (∀ b t e9, S b = some (t, e9) → (t ≠ 9) → (t ≠ 0) → (t ≠ 2) → (t ≠ 5) → ((t < 300 ∨ 336 ≤ t)) → S1 b = some (t, e9))) (mp_B1 D classes S sz) (mp_A S sz)) 2 4096 (mp_A S sz) := by
  refine va_MetW (hh := hh_L_take) (cc := b_L_take) (maxL := 4) (ret := (some .int)) (by decide) rfl ?_
  intro p e s m args below meth c s₁ B hml hv
  obtain ⟨rfl, hsz, hH, hK⟩ := hv
  have hx := B.exec
  have hb := B.bytes
  have hr := B.returns
  have hts := atoms_spec (ws := w_L_take) B.pre
  have hg : ∀ w ∈ gw, w.before _ s = true := fun w h => hts w (List.mem_cons_of_mem _ h)
  have hown : s.vm.findClass R_L = some m.cls := findClass_of_methodNamed B.named
  have hlocks := B.notSynchronized
  have hhh := lw_table B (hts _ List.mem_cons_self)
  subst hsz
  have hI := mp_I.start hH
  have hl := lv_entry ([.ref o, .int (nI k9), .ref oa]) (n := 4) (Nat.le_of_ble_eq_true rfl)
  rw [lg_entry_eq]
  generalize (lg_sl ([.ref o, .int (nI k9), .ref oa]) ++ List.replicate (4 - (lg_sl ([.ref o, .int (nI k9), .ref oa])).length) Slot.unset).toArray = ls at hl ⊢
  have hl : lv_has ls 4 [(0, .ref o), (1, .int (nI k9)), (2, .ref oa)] := hl
  have hfr : ∀ b t e9, S b = some (t, e9) → (t ≠ 9) → (t ≠ 0) → (t ≠ 2) → (t ≠ 5) → ((t < 300 ∨ 336 ≤ t)) → S b = some (t, e9) := fun _ _ _ h9 _ _ _ _ _ => h9
  refine lv_aload_n hx hb d_L_take_0 rfl (lv_at hl 2 rfl) ?_
  refine lv_iconst (v := nI 0) hx hb d_L_take_1 (by decide) ?_
  refine lv_aload_n hx hb d_L_take_2 rfl (lv_at hl 0 rfl) ?_
  refine lv_iload_n hx hb d_L_take_3 rfl (lv_at hl 1 rfl) ?_
  refine mp_calli hI (va_runV (As := [.int (nI k9)]) (rest := [.int (nI 0), .ref oa]) ⟨hx, hb, hml, hown, hg⟩ (c_B_takeA l D g S _ o pa lo ma hd nl tk n eo ek en cap pz kf nf me mk mn mcap mz mkf mnf hf X v3 v4 v6 v8 v9 an k9 h_o h_pa h_lo h_ma h_hd hE hM hX hz0 hz2 hz3 hcp hmc hn hk9 htk) ⟨(callB_of 1 hg (wd_goodG q_722) rfl rfl rfl (hg _ q_1) (hg _ q_719) (by decide +kernel) ⟨Nat.le_of_ble_eq_true rfl, Nat.le_of_ble_eq_true rfl⟩), hg _ q_720, hg _ q_721⟩ (mp_preV (C := R_B) (T := F_B) hI hK h_o rfl [.int (nI k9)]) rfl rfl hl.1 rfl (lv_room (Nat.le_of_ble_eq_true rfl)) d_L_take_4 ⟨Nat.le_of_ble_eq_true rfl, Nat.le_of_ble_eq_true rfl⟩) (fun r4 S1 H2 locs p_3 hI => ?_)
  obtain ⟨rfl, q_o, mk1, mn1, mcap1, mz1, mkf1, mnf1, q_lo, q_hd, hM, _, g1, g2, g3, g4, g5, g6, fq0⟩ := p_3
  have fq : ∀ b t e9, S b = some (t, e9) → t ≠ 0 → t ≠ 2 → t ≠ 5 → (t < 300 ∨ 336 ≤ t) → S1 b = some (t, e9) := fun b t e9 h9 k1 k2 k3 k4 => (fq0 b t e9 h9 k1 k2 k3 k4).trans h9
  have h_pa : S1 pa = some (1, .inl ((g 2), 40, .inr (.inr (.inr (.inr (rfs eo 40)))))) := fq pa _ _ h_pa (by omega) (by omega) (by omega) (by omega)
  have h_ma : S1 ma = some (4, .inl ((g 2), 12, .inr (.inr (.inr (.inr (rfs me 12)))))) := fq ma _ _ h_ma (by omega) (by omega) (by omega) (by omega)
  have h_oa : S1 oa = some (9, .inl ((g 4), 1, .inr (.inl of))) := fq oa _ _ h_oa (by omega) (by omega) (by omega) (by omega)
  have hfr : ∀ b t e9, S b = some (t, e9) → (t ≠ 9) → (t ≠ 0) → (t ≠ 2) → (t ≠ 5) → ((t < 300 ∨ 336 ≤ t)) → S1 b = some (t, e9) := fun b t e9 h9 k0 k1 k2 k3 k4 => by have h8 := hfr b t e9 h9 k0 k1 k2 k3 k4; exact fq b _ _ h8 (by omega) (by omega) (by omega) (by omega)
  have h_o := q_o
  have h_lo := q_lo
  have h_hd := q_hd
  refine lv_if_eq (tgt := 14) hx hb d_L_take_7 (by decide) (fun h9 => absurd h9 (by decide)) (fun _ => ?_)
  refine lv_lconst (v := lN 1) hx hb d_L_take_10 (by decide) ?_
  refine lv_goto (tgt := 15) hx hb d_L_take_11 (by decide) ?_
  refine mp_last hx hb hK.va hI 4 h_oa rfl (vp_in_nI (by decide) (by decide)) d_L_take_15 (fun S5 H6 locs e_7 hI => ?_)
  have h_oa_o := h_oa
  have e_7 : S5 = va_up S1 oa (some (9, .inl ((g 4), 1, .inr (.inl (vp_updL of (nI 0).toNatClampNeg (lN 1)))))) := e_7
  have h_oa_o := h_oa
  have h_o : S5 o = some (0, .inr (0, [.int (nI nl), .ref pa, .ref lo, v3, v4, .int (nI (tk + 1)), v6, .int 0, v8, v9])) := by rw [e_7]; exact mp_keep h_o h_oa (by decide)
  have h_pa : S5 pa = some (1, .inl ((g 2), 40, .inr (.inr (.inr (.inr (rfs eo 40)))))) := by rw [e_7]; exact mp_keep h_pa h_oa (by decide)
  have h_lo : S5 lo = some (2, .inr (9, [.ref ma, .ref hd, .int (nI (n + 1))])) := by rw [e_7]; exact mp_keep h_lo h_oa (by decide)
  have h_ma : S5 ma = some (4, .inl ((g 2), 12, .inr (.inr (.inr (.inr (rfs me 12)))))) := by rw [e_7]; exact mp_keep h_ma h_oa (by decide)
  have h_hd : S5 hd = some (5, .inl ((g 0), 12, .inl (upd hf n (kf k9 0)))) := by rw [e_7]; exact mp_keep h_hd h_oa (by decide)
  have h_oa : S5 oa = some (9, .inl ((g 4), 1, .inr (.inl (vp_updL of (nI 0).toNatClampNeg (lN 1))))) := by rw [e_7]; exact mp_us _ _ _
  have hM := yS_kept hM (S1 := S5) (fun b t9 e9 hb9 h1 h2 => by rw [e_7]; exact mp_un (mp_ne hb9 h_oa_o (by omega)))
  have hfr : ∀ b t e9, S b = some (t, e9) → (t ≠ 9) → (t ≠ 0) → (t ≠ 2) → (t ≠ 5) → ((t < 300 ∨ 336 ≤ t)) → S5 b = some (t, e9) := fun b t e9 h9 k0 k1 k2 k3 k4 => by rw [e_7]; exact mp_keep (hfr b t e9 h9 k0 k1 k2 k3 k4) h_oa_o (by omega)
  refine lv_goto (tgt := 22) hx hb d_L_take_16 (by decide) ?_
  refine lv_iconst (v := nI 0) hx hb d_L_take_22 (by decide) ?_
  refine mp_iret hx hb hr hlocks hI (Nat.le_of_ble_eq_true rfl) (Nat.le_of_ble_eq_true rfl) ?_ d_L_take_23
  exact ⟨rfl, ⟨_, h_oa, rfl⟩, h_o, mk1, mn1, mcap1, mz1, mkf1, mnf1, h_lo, h_hd, hM, g1, g2, g3, g4, g5, g6, hfr⟩
