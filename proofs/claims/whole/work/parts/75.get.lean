theorem d_B_at_4 : decode b_B_at 4 = .ok (.iload_n 1, 1) := by decide +kernel
theorem d_B_at_5 : decode b_B_at 5 = .ok (.invokestatic 133, 3) := by decide +kernel
theorem d_B_at_8 : decode b_B_at 8 = .ok (.astore_n 3, 1) := by decide +kernel
theorem d_B_at_9 : decode b_B_at 9 = .ok (.aload_n 0, 1) := by decide +kernel
theorem d_B_at_10 : decode b_B_at 10 = .ok (.iload_n 2, 1) := by decide +kernel
theorem d_B_at_11 : decode b_B_at 11 = .ok (.invokevirtual 137, 3) := by decide +kernel
theorem d_B_at_14 : decode b_B_at 14 = .ok (.aload_n 3, 1) := by decide +kernel
theorem d_B_at_15 : decode b_B_at 15 = .ok (.iload_n 2, 1) := by decide +kernel
theorem d_B_at_16 : decode b_B_at 16 = .ok (.iaload, 1) := by decide +kernel
theorem d_B_at_17 : decode b_B_at 17 = .ok (.ireturn, 1) := by decide +kernel
theorem d_B_known_31 : decode b_B_known 31 = .ok (.aload_n 0, 1) := by decide +kernel
theorem d_B_known_32 : decode b_B_known 32 = .ok (.getfield 95, 3) := by decide +kernel
theorem d_B_known_35 : decode b_B_known 35 = .ok (.areturn, 1) := by decide +kernel
theorem d_B_left_4 : decode b_B_left 4 = .ok (.getfield 118, 3) := by decide +kernel
theorem d_B_left_7 : decode b_B_left 7 = .ok (.astore_n 2, 1) := by decide +kernel
theorem d_B_left_8 : decode b_B_left 8 = .ok (.iload_n 1, 1) := by decide +kernel
theorem d_B_left_9 : decode b_B_left 9 = .ok (.ifCond .lt 11, 3) := by decide +kernel
theorem d_B_left_12 : decode b_B_left 12 = .ok (.iload_n 1, 1) := by decide +kernel
theorem d_B_left_13 : decode b_B_left 13 = .ok (.aload_n 2, 1) := by decide +kernel
theorem d_B_left_14 : decode b_B_left 14 = .ok (.getfield 122, 3) := by decide +kernel
theorem d_B_left_17 : decode b_B_left 17 = .ok (.if_icmp .lt 7, 3) := by decide +kernel
theorem d_B_left_20 : decode b_B_left 20 = .ok (.iconst (-1), 1) := by decide +kernel
theorem d_B_left_21 : decode b_B_left 21 = .ok (.goto 12, 3) := by decide +kernel
theorem d_B_left_24 : decode b_B_left 24 = .ok (.aload_n 2, 1) := by decide +kernel
theorem d_B_left_25 : decode b_B_left 25 = .ok (.getfield 127, 3) := by decide +kernel
theorem d_B_left_28 : decode b_B_left 28 = .ok (.iload_n 1, 1) := by decide +kernel
theorem d_B_left_29 : decode b_B_left 29 = .ok (.iaload, 1) := by decide +kernel
theorem d_B_left_30 : decode b_B_left 30 = .ok (.invokestatic 130, 3) := by decide +kernel
theorem d_B_left_33 : decode b_B_left 33 = .ok (.ireturn, 1) := by decide +kernel
theorem d_B_minimal_4 : decode b_B_minimal 4 = .ok (.astore_n 3, 1) := by decide +kernel
theorem d_B_minimal_5 : decode b_B_minimal 5 = .ok (.aload_n 0, 1) := by decide +kernel
theorem d_B_minimal_6 : decode b_B_minimal 6 = .ok (.iload_n 1, 1) := by decide +kernel
theorem d_B_minimal_7 : decode b_B_minimal 7 = .ok (.invokevirtual 137, 3) := by decide +kernel
theorem d_B_minimal_10 : decode b_B_minimal 10 = .ok (.aload_n 3, 1) := by decide +kernel
theorem d_B_minimal_11 : decode b_B_minimal 11 = .ok (.getfield 143, 3) := by decide +kernel
theorem d_B_minimal_14 : decode b_B_minimal 14 = .ok (.iload_n 1, 1) := by decide +kernel
theorem d_B_minimal_15 : decode b_B_minimal 15 = .ok (.aaload, 1) := by decide +kernel
theorem d_B_minimal_16 : decode b_B_minimal 16 = .ok (.iload_n 2, 1) := by decide +kernel
theorem d_B_minimal_17 : decode b_B_minimal 17 = .ok (.invokevirtual 147, 3) := by decide +kernel
theorem d_B_minimal_20 : decode b_B_minimal 20 = .ok (.ireturn, 1) := by decide +kernel
theorem d_B_multiplicity_4 : decode b_B_multiplicity 4 = .ok (.astore_n 2, 1) := by decide +kernel
theorem d_B_multiplicity_5 : decode b_B_multiplicity 5 = .ok (.aload_n 2, 1) := by decide +kernel
theorem d_B_multiplicity_6 : decode b_B_multiplicity 6 = .ok (.iload_n 1, 1) := by decide +kernel
theorem d_B_multiplicity_7 : decode b_B_multiplicity 7 = .ok (.invokestatic 133, 3) := by decide +kernel
theorem d_B_multiplicity_10 : decode b_B_multiplicity 10 = .ok (.pop, 1) := by decide +kernel
theorem d_B_multiplicity_11 : decode b_B_multiplicity 11 = .ok (.aload_n 2, 1) := by decide +kernel
theorem d_B_multiplicity_12 : decode b_B_multiplicity 12 = .ok (.getfield 140, 3) := by decide +kernel
theorem d_B_multiplicity_15 : decode b_B_multiplicity 15 = .ok (.iload_n 1, 1) := by decide +kernel
theorem d_B_multiplicity_16 : decode b_B_multiplicity 16 = .ok (.iaload, 1) := by decide +kernel
theorem d_B_multiplicity_17 : decode b_B_multiplicity 17 = .ok (.ireturn, 1) := by decide +kernel
theorem d_B_requireLetter_0 : decode b_B_requireLetter 0 = .ok (.iload_n 1, 1) := by decide +kernel
theorem d_B_requireLetter_1 : decode b_B_requireLetter 1 = .ok (.ifCond .lt 11, 3) := by decide +kernel
theorem d_B_requireLetter_4 : decode b_B_requireLetter 4 = .ok (.iload_n 1, 1) := by decide +kernel
theorem d_B_requireLetter_5 : decode b_B_requireLetter 5 = .ok (.aload_n 0, 1) := by decide +kernel
theorem d_B_requireLetter_6 : decode b_B_requireLetter 6 = .ok (.getfield 35, 3) := by decide +kernel
theorem d_B_requireLetter_9 : decode b_B_requireLetter 9 = .ok (.if_icmp .lt 13, 3) := by decide +kernel
theorem d_B_requireLetter_12 : decode b_B_requireLetter 12 = .ok (.new 62, 3) := by decide +kernel
theorem d_B_requireLetter_15 : decode b_B_requireLetter 15 = .ok (.dup, 1) := by decide +kernel
theorem d_B_requireLetter_16 : decode b_B_requireLetter 16 = .ok (.ldc 175, 2) := by decide +kernel
theorem d_B_requireLetter_18 : decode b_B_requireLetter 18 = .ok (.invokespecial 66, 3) := by decide +kernel
theorem d_B_requireLetter_21 : decode b_B_requireLetter 21 = .ok (.athrow, 1) := by decide +kernel
theorem d_B_requireLetter_22 : decode b_B_requireLetter 22 = .ok (.return_, 1) := by decide +kernel
theorem d_B_total_4 : decode b_B_total 4 = .ok (.getfield 118, 3) := by decide +kernel
theorem d_B_total_7 : decode b_B_total 7 = .ok (.getfield 122, 3) := by decide +kernel
theorem d_B_total_10 : decode b_B_total 10 = .ok (.ireturn, 1) := by decide +kernel
theorem d_B_value_4 : decode b_B_value 4 = .ok (.astore_n 3, 1) := by decide +kernel
theorem d_B_value_5 : decode b_B_value 5 = .ok (.aload_n 0, 1) := by decide +kernel
theorem d_B_value_6 : decode b_B_value 6 = .ok (.iload_n 1, 1) := by decide +kernel
theorem d_B_value_7 : decode b_B_value 7 = .ok (.invokevirtual 53, 3) := by decide +kernel
theorem d_B_value_10 : decode b_B_value 10 = .ok (.astore 4, 2) := by decide +kernel
theorem d_B_value_12 : decode b_B_value 12 = .ok (.aload_n 3, 1) := by decide +kernel
theorem d_B_value_13 : decode b_B_value 13 = .ok (.iload_n 2, 1) := by decide +kernel
theorem d_B_value_14 : decode b_B_value 14 = .ok (.invokestatic 133, 3) := by decide +kernel
theorem d_B_value_17 : decode b_B_value 17 = .ok (.astore 5, 2) := by decide +kernel
theorem d_B_value_19 : decode b_B_value 19 = .ok (.iconst 0, 1) := by decide +kernel
theorem d_B_value_20 : decode b_B_value 20 = .ok (.istore 6, 2) := by decide +kernel
theorem d_B_value_22 : decode b_B_value 22 = .ok (.iload 6, 2) := by decide +kernel
theorem d_B_value_24 : decode b_B_value 24 = .ok (.iconst 3, 1) := by decide +kernel
theorem d_B_value_25 : decode b_B_value 25 = .ok (.if_icmp .ge 23, 3) := by decide +kernel
theorem d_B_value_28 : decode b_B_value 28 = .ok (.aload_n 3, 1) := by decide +kernel
theorem d_B_value_29 : decode b_B_value 29 = .ok (.getfield 152, 3) := by decide +kernel
theorem d_B_value_32 : decode b_B_value 32 = .ok (.iload 6, 2) := by decide +kernel
theorem d_B_value_34 : decode b_B_value 34 = .ok (.aload 5, 2) := by decide +kernel
theorem d_B_value_36 : decode b_B_value 36 = .ok (.iload 6, 2) := by decide +kernel
theorem d_B_value_38 : decode b_B_value 38 = .ok (.iaload, 1) := by decide +kernel
theorem d_B_value_39 : decode b_B_value 39 = .ok (.invokevirtual 156, 3) := by decide +kernel
theorem d_B_value_42 : decode b_B_value 42 = .ok (.iinc 6 1, 3) := by decide +kernel
theorem d_B_value_45 : decode b_B_value 45 = .ok (.goto (-23), 3) := by decide +kernel
theorem d_B_value_48 : decode b_B_value 48 = .ok (.aload 4, 2) := by decide +kernel
theorem d_B_value_50 : decode b_B_value 50 = .ok (.aload_n 3, 1) := by decide +kernel
theorem d_B_value_51 : decode b_B_value 51 = .ok (.getfield 152, 3) := by decide +kernel
theorem d_B_value_54 : decode b_B_value 54 = .ok (.invokevirtual 162, 3) := by decide +kernel
theorem d_B_value_57 : decode b_B_value 57 = .ok (.ireturn, 1) := by decide +kernel
theorem d_B_zeroOf_0 : decode b_B_zeroOf 0 = .ok (.iload_n 1, 1) := by decide +kernel
theorem d_B_zeroOf_1 : decode b_B_zeroOf 1 = .ok (.ifCond .lt 11, 3) := by decide +kernel
theorem d_B_zeroOf_4 : decode b_B_zeroOf 4 = .ok (.iload_n 1, 1) := by decide +kernel
theorem d_B_zeroOf_5 : decode b_B_zeroOf 5 = .ok (.aload_n 0, 1) := by decide +kernel
theorem d_B_zeroOf_6 : decode b_B_zeroOf 6 = .ok (.getfield 179, 3) := by decide +kernel
theorem d_B_zeroOf_9 : decode b_B_zeroOf 9 = .ok (.if_icmp .lt 13, 3) := by decide +kernel
theorem d_B_zeroOf_12 : decode b_B_zeroOf 12 = .ok (.new 170, 3) := by decide +kernel
theorem d_B_zeroOf_15 : decode b_B_zeroOf 15 = .ok (.dup, 1) := by decide +kernel
theorem d_B_zeroOf_16 : decode b_B_zeroOf 16 = .ok (.ldc 182, 2) := by decide +kernel
theorem d_B_zeroOf_18 : decode b_B_zeroOf 18 = .ok (.invokespecial 174, 3) := by decide +kernel
theorem d_B_zeroOf_21 : decode b_B_zeroOf 21 = .ok (.athrow, 1) := by decide +kernel
theorem d_B_zeroOf_22 : decode b_B_zeroOf 22 = .ok (.aload_n 0, 1) := by decide +kernel
theorem d_B_zeroOf_23 : decode b_B_zeroOf 23 = .ok (.getfield 184, 3) := by decide +kernel
theorem d_B_zeroOf_26 : decode b_B_zeroOf 26 = .ok (.iload_n 1, 1) := by decide +kernel
theorem d_B_zeroOf_27 : decode b_B_zeroOf 27 = .ok (.aaload, 1) := by decide +kernel
theorem d_B_zeroOf_28 : decode b_B_zeroOf 28 = .ok (.areturn, 1) := by decide +kernel
theorem d_O_numberAt_0 : decode b_O_numberAt 0 = .ok (.iload_n 1, 1) := by decide +kernel
theorem d_O_numberAt_1 : decode b_O_numberAt 1 = .ok (.ifCond .lt 11, 3) := by decide +kernel
theorem d_O_numberAt_4 : decode b_O_numberAt 4 = .ok (.iload_n 1, 1) := by decide +kernel
theorem d_O_numberAt_5 : decode b_O_numberAt 5 = .ok (.aload_n 0, 1) := by decide +kernel
theorem d_O_numberAt_6 : decode b_O_numberAt 6 = .ok (.getfield 15, 3) := by decide +kernel
theorem d_O_numberAt_9 : decode b_O_numberAt 9 = .ok (.if_icmp .le 7, 3) := by decide +kernel
theorem d_O_numberAt_12 : decode b_O_numberAt 12 = .ok (.iconst 0, 1) := by decide +kernel
theorem d_O_numberAt_13 : decode b_O_numberAt 13 = .ok (.goto 9, 3) := by decide +kernel
theorem d_O_numberAt_16 : decode b_O_numberAt 16 = .ok (.aload_n 0, 1) := by decide +kernel
theorem d_O_numberAt_17 : decode b_O_numberAt 17 = .ok (.getfield 9, 3) := by decide +kernel
theorem d_O_numberAt_20 : decode b_O_numberAt 20 = .ok (.iload_n 1, 1) := by decide +kernel
theorem d_O_numberAt_21 : decode b_O_numberAt 21 = .ok (.iaload, 1) := by decide +kernel
theorem d_O_numberAt_22 : decode b_O_numberAt 22 = .ok (.ireturn, 1) := by decide +kernel
set_option maxHeartbeats 4000000 in
set_option maxRecDepth 100000 in
/-- only reads -/
theorem p_B_known (l : Launch) (D : mp_G) (g : Nat → ClassId) (S : mp_M) (sz : Nat) (o pa vo nl zc : Nat) (v2 v3 v4 v5 v6 : Value) (h_o : S o = some (0, .inr (0, [.int (nI nl), .ref pa, v2, v3, v4, v5, v6, .int 1, .int (nI zc), .ref vo]))) (hzc : zc ≤ 16) : Met l y_B_known w_B_known ({ frames := 0, cells := 0, slots := 0, locals := 0 }) (va_Pc [.ref o] (mp_B0 D classes (tys g) S sz)) (pp_Qr (fun (r : Nat) => r = vo)) 0 0 (fun _ => False) := by
  refine Met.ofW (cc := b_B_known) (maxL := 1) (ret := (some (.object "SolutionBoxes$Solver"))) (by decide) rfl ?_
  intro p e s m args below meth c s₁ B hml hv
  obtain ⟨rfl, hsz, hH, hK⟩ := hv
  have hx := B.exec
  have hb := B.bytes
  have hr := B.returns
  have hts := atoms_spec (ws := w_B_known) B.pre
  have hg : ∀ w ∈ gw, w.before _ s = true := fun w h => hts w (List.mem_cons_of_mem _ h)
  have hown : s.vm.findClass R_B = some m.cls := findClass_of_methodNamed B.named
  have hlocks := B.notSynchronized
  subst hsz
  have hI := mp_I.start hH
  have hl := lv_entry ([.ref o]) (n := 1) (Nat.le_of_ble_eq_true rfl)
  rw [lg_entry_eq]
  generalize (lg_sl ([.ref o]) ++ List.replicate (1 - (lg_sl ([.ref o])).length) Slot.unset).toArray = ls at hl ⊢
  have hl : lv_has ls 1 [(0, .ref o)] := hl
  refine lv_aload_n hx hb d_B_known_0 rfl (lv_at hl 0 rfl) ?_
  refine mp_get (C := R_B) (T := F_B) (N := 10) (v := .int 1) hx hb hg i_B hown hK.va hI h_o rfl 7 (by decide) (hg _ q_89) (fun _ h9 => h9) rfl d_B_known_1 ?_
  refine lv_if_eq (tgt := 21) hx hb d_B_known_4 (by decide) (fun h9 => absurd h9 (by decide)) (fun _ => ?_)
  refine lv_aload_n hx hb d_B_known_7 rfl (lv_at hl 0 rfl) ?_
  refine mp_get (C := R_B) (T := F_B) (N := 10) (v := .int (nI zc)) hx hb hg i_B hown hK.va hI h_o rfl 8 (by decide) (hg _ q_90) (fun _ h9 => h9) rfl d_B_known_8 ?_
  refine lv_if_lt (tgt := 21) hx hb d_B_known_11 (by decide) (fun h9 => absurd h9 (nI_pos (by omega))) (fun _ => ?_)
  refine lv_aload_n hx hb d_B_known_14 rfl (lv_at hl 0 rfl) ?_
  refine mp_get (C := R_B) (T := F_B) (N := 10) (v := .ref vo) hx hb hg i_B hown hK.va hI h_o rfl 9 (by decide) (hg _ q_91) (fun _ h9 => h9) rfl d_B_known_15 ?_
  refine lv_ifnonnull (tgt := 31) hx hb d_B_known_18 (by decide) ?_
  refine lv_aload_n hx hb d_B_known_31 rfl (lv_at hl 0 rfl) ?_
  refine mp_get (C := R_B) (T := F_B) (N := 10) (v := .ref vo) hx hb hg i_B hown hK.va hI h_o rfl 9 (by decide) (hg _ q_91) (fun _ h9 => h9) rfl d_B_known_32 ?_
  exact pp_aret hx hb hr (Or.inl ⟨_, rfl⟩) hlocks rfl d_B_known_35
set_option maxHeartbeats 4000000 in
set_option maxRecDepth 100000 in
/-- only reads -/
theorem p_B_zeroOf (l : Launch) (D : mp_G) (g : Nat → ClassId) (S : mp_M) (sz : Nat) (vo qo lz za mu9 po zc : Nat) (u0 u1 u3 u5 u6 : Value) (z9 : Nat) (h_vo : S vo = some (10, .inr (7, [u0, u1, .ref qo, u3, .ref lz, u5, u6, .ref za, .ref mu9, .int (nI zc), .ref po]))) (h_za : S za = some (35, .inl ((g 1), 16, .inr (.inr (.inr (.inr (rfs (fun ii => za + 1 + ii) 16))))))) (hz9 : z9 < zc) (hzc : zc ≤ 16) : Met l y_B_zeroOf w_B_zeroOf ({ frames := 0, cells := 0, slots := 0, locals := 0 }) (va_Pc [.ref vo, .int (nI z9)] (mp_B0 D classes (tys g) S sz)) (pp_Qr (fun (r : Nat) => r = za + 1 + z9)) 0 0 (fun _ => False) := by
  refine Met.ofW (cc := b_B_zeroOf) (maxL := 2) (ret := (some (.array .int))) (by decide) rfl ?_
  intro p e s m args below meth c s₁ B hml hv
  obtain ⟨rfl, hsz, hH, hK⟩ := hv
  have hx := B.exec
  have hb := B.bytes
  have hr := B.returns
  have hts := atoms_spec (ws := w_B_zeroOf) B.pre
  have hg : ∀ w ∈ gw, w.before _ s = true := fun w h => hts w (List.mem_cons_of_mem _ h)
  have hown : s.vm.findClass R_B = some m.cls := findClass_of_methodNamed B.named
  have hlocks := B.notSynchronized
  subst hsz
  have hI := mp_I.start hH
  have hl := lv_entry ([.ref vo, .int (nI z9)]) (n := 2) (Nat.le_of_ble_eq_true rfl)
  rw [lg_entry_eq]
  generalize (lg_sl ([.ref vo, .int (nI z9)]) ++ List.replicate (2 - (lg_sl ([.ref vo, .int (nI z9)])).length) Slot.unset).toArray = ls at hl ⊢
  have hl : lv_has ls 2 [(0, .ref vo), (1, .int (nI z9))] := hl
  refine lv_iload_n hx hb d_B_zeroOf_0 rfl (lv_at hl 1 rfl) ?_
  refine lv_if_lt (tgt := 12) hx hb d_B_zeroOf_1 (by decide) (fun h9 => absurd h9 (nI_pos (by omega))) (fun _ => ?_)
  refine lv_iload_n hx hb d_B_zeroOf_4 rfl (lv_at hl 1 rfl) ?_
  refine lv_aload_n hx hb d_B_zeroOf_5 rfl (lv_at hl 0 rfl) ?_
  refine mp_getN (C := R_V) (T := F_V) (N := 11) (v := .int (nI zc)) hx hb hg i_V hown hK.va hI h_vo rfl 9 (by decide) (hK.use q_273 rfl) (fun _ h9 => h9) rfl d_B_zeroOf_6 ?_
  refine lv_icmp_lt (tgt := 22) hx hb d_B_zeroOf_9 (by decide) (fun _ => ?_) (fun h9 => absurd (by rw [nI_ltI (by omega) (by omega)]; omega) h9)
  refine lv_aload_n hx hb d_B_zeroOf_22 rfl (lv_at hl 0 rfl) ?_
  refine mp_getN (C := R_V) (T := F_V) (N := 11) (v := .ref za) hx hb hg i_V hown hK.va hI h_vo rfl 7 (by decide) (hK.use q_269 rfl) (fun _ h9 => h9) rfl d_B_zeroOf_23 ?_
  refine lv_iload_n hx hb d_B_zeroOf_26 rfl (lv_at hl 1 rfl) ?_
  refine mp_ald2 (b := za + 1 + z9) hx hb hK.va hI 1 h_za rfl (vp_in_nI (show z9 < 16 by omega) (by omega)) (by rw [nI_clamp (by omega)]; exact rfs_at (by omega)) d_B_zeroOf_27 ?_
  exact pp_aret hx hb hr (Or.inr ⟨_, rfl⟩) hlocks rfl d_B_zeroOf_28
set_option maxHeartbeats 4000000 in
set_option maxRecDepth 100000 in
/-- only reads -/
theorem p_B_requireLetter (l : Launch) (D : mp_G) (g : Nat → ClassId) (S : mp_M) (sz : Nat) (o nl k9 : Nat) (v1 v2 v3 v4 v5 v6 v7 v8 v9 : Value) (h_o : S o = some (0, .inr (0, [.int (nI nl), v1, v2, v3, v4, v5, v6, v7, v8, v9]))) (hk9 : k9 < nl) (hnl : nl ≤ 3) : Met l y_B_requireLetter w_B_requireLetter ({ frames := 0, cells := 0, slots := 0, locals := 0 }) (va_Pc [.ref o, .int (nI k9)] (mp_B0 D classes (tys g) S sz)) pp_Qv 0 0 (fun _ => False) := by
  refine Met.ofW (cc := b_B_requireLetter) (maxL := 2) (ret := none) (by decide) rfl ?_
  intro p e s m args below meth c s₁ B hml hv
  obtain ⟨rfl, hsz, hH, hK⟩ := hv
  have hx := B.exec
  have hb := B.bytes
  have hr := B.returns
  have hts := atoms_spec (ws := w_B_requireLetter) B.pre
  have hg : ∀ w ∈ gw, w.before _ s = true := fun w h => hts w (List.mem_cons_of_mem _ h)
  have hown : s.vm.findClass R_B = some m.cls := findClass_of_methodNamed B.named
  have hlocks := B.notSynchronized
  subst hsz
  have hI := mp_I.start hH
  have hl := lv_entry ([.ref o, .int (nI k9)]) (n := 2) (Nat.le_of_ble_eq_true rfl)
  rw [lg_entry_eq]
  generalize (lg_sl ([.ref o, .int (nI k9)]) ++ List.replicate (2 - (lg_sl ([.ref o, .int (nI k9)])).length) Slot.unset).toArray = ls at hl ⊢
  have hl : lv_has ls 2 [(0, .ref o), (1, .int (nI k9))] := hl
  refine lv_iload_n hx hb d_B_requireLetter_0 rfl (lv_at hl 1 rfl) ?_
  refine lv_if_lt (tgt := 12) hx hb d_B_requireLetter_1 (by decide) (fun h9 => absurd h9 (nI_pos (by omega))) (fun _ => ?_)
  refine lv_iload_n hx hb d_B_requireLetter_4 rfl (lv_at hl 1 rfl) ?_
  refine lv_aload_n hx hb d_B_requireLetter_5 rfl (lv_at hl 0 rfl) ?_
  refine mp_get (C := R_B) (T := F_B) (N := 10) (v := .int (nI nl)) hx hb hg i_B hown hK.va hI h_o rfl 0 (by decide) (hg _ q_82) (fun _ h9 => h9) rfl d_B_requireLetter_6 ?_
  refine lv_icmp_lt (tgt := 22) hx hb d_B_requireLetter_9 (by decide) (fun _ => ?_) (fun h9 => absurd (by rw [nI_ltI (by omega) (by omega)]; omega) h9)
  exact pp_vret hx hb hr hlocks d_B_requireLetter_22
set_option maxHeartbeats 4000000 in
set_option maxRecDepth 100000 in
/-- it throws -/
theorem x_B_zeroOf (l : Launch) (hl9 : l.stackTraces = false) (D : mp_G) (g : Nat → ClassId) (S : mp_M) (sz : Nat) (vo qo lz za mu9 po zc : Nat) (u0 u1 u3 u5 u6 : Value) (x : Int32) (h_vo : S vo = some (10, .inr (7, [u0, u1, .ref qo, u3, .ref lz, u5, u6, .ref za, .ref mu9, .int (nI zc), .ref po]))) (hx9 : x < 0 ∨ nI zc ≤ x) : xp_Met l y_B_zeroOf w_B_zeroOf ({ frames := 6, cells := 1, slots := 6, locals := 90 }) (va_Pc [.ref vo, .int x] (mp_B0 D classes (tys g) S sz)) "java/lang/IndexOutOfBoundsException" D classes S 1 6 := by
  refine xp_ofW (cc := b_B_zeroOf) (maxL := 2) (ret := (some (.array .int))) (by decide) rfl ?_
  intro p e s m args below meth c s₁ B hml hv
  obtain ⟨rfl, hsz, hH, hK⟩ := hv
  have hx := B.exec
  have hb := B.bytes
  have hr := B.returns
  have hts := atoms_spec (ws := w_B_zeroOf) B.pre
  have hg : ∀ w ∈ gw, w.before _ s = true := fun w h => hts w (List.mem_cons_of_mem _ h)
  have hown : s.vm.findClass R_B = some m.cls := findClass_of_methodNamed B.named
  have hlocks := B.notSynchronized
  have hne := B.noHandlers (hts _ List.mem_cons_self)
  subst hsz
  have hI := mp_I.start hH
  have hl := lv_entry ([.ref vo, .int x]) (n := 2) (Nat.le_of_ble_eq_true rfl)
  rw [lg_entry_eq]
  generalize (lg_sl ([.ref vo, .int x]) ++ List.replicate (2 - (lg_sl ([.ref vo, .int x])).length) Slot.unset).toArray = ls at hl ⊢
  have hl : lv_has ls 2 [(0, .ref vo), (1, .int x)] := hl
  refine lv_iload_n hx hb d_B_zeroOf_0 rfl (lv_at hl 1 rfl) ?_
  refine lv_if_lt (tgt := 12) hx hb d_B_zeroOf_1 (by decide) (fun c1 => ?_) (fun c1 => ?_)
  · obtain ⟨sa, hsa⟩ := xs_182 hK
    exact xp_throwS (names := ["java/lang/RuntimeException", "java/lang/Exception"]) hx hb hl9 hown (by decide +kernel) (by decide +kernel) (hg _ q_633) (hg _ q_10) hsa (xw_own hK hH xa_Ei) hH (hl.1.trans hml.symm) d_B_zeroOf_12 d_B_zeroOf_15 d_B_zeroOf_16 d_B_zeroOf_18 d_B_zeroOf_21 (noh hne) (Nat.le_of_ble_eq_true rfl) (Nat.le_of_ble_eq_true rfl) (Nat.le_of_ble_eq_true rfl) (Nat.le_of_ble_eq_true rfl) hlocks
  · refine lv_iload_n hx hb d_B_zeroOf_4 rfl (lv_at hl 1 rfl) ?_
    refine lv_aload_n hx hb d_B_zeroOf_5 rfl (lv_at hl 0 rfl) ?_
    refine mp_getN (C := R_V) (T := F_V) (N := 11) (v := .int (nI zc)) hx hb hg i_V hown hK.va hI h_vo rfl 9 (by decide) (hK.use q_273 rfl) (fun _ h9 => h9) rfl d_B_zeroOf_6 ?_
    refine lv_icmp_lt (tgt := 22) hx hb d_B_zeroOf_9 (by decide) (fun c2 => ?_) (fun c2 => ?_)
    · exact absurd c2 (Int32.not_lt.mpr (hx9.resolve_left c1))
    · obtain ⟨sa, hsa⟩ := xs_182 hK
      exact xp_throwS (names := ["java/lang/RuntimeException", "java/lang/Exception"]) hx hb hl9 hown (by decide +kernel) (by decide +kernel) (hg _ q_633) (hg _ q_10) hsa (xw_own hK hH xa_Ei) hH (hl.1.trans hml.symm) d_B_zeroOf_12 d_B_zeroOf_15 d_B_zeroOf_16 d_B_zeroOf_18 d_B_zeroOf_21 (noh hne) (Nat.le_of_ble_eq_true rfl) (Nat.le_of_ble_eq_true rfl) (Nat.le_of_ble_eq_true rfl) (Nat.le_of_ble_eq_true rfl) hlocks
set_option maxHeartbeats 4000000 in
set_option maxRecDepth 100000 in
/-- it throws -/
theorem x_B_requireLetter (l : Launch) (hl9 : l.stackTraces = false) (D : mp_G) (g : Nat → ClassId) (S : mp_M) (sz : Nat) (o nl : Nat) (v1 v2 v3 v4 v5 v6 v7 v8 v9 : Value) (x : Int32) (h_o : S o = some (0, .inr (0, [.int (nI nl), v1, v2, v3, v4, v5, v6, v7, v8, v9]))) (hx9 : x < 0 ∨ nI nl ≤ x) : xp_Met l y_B_requireLetter w_B_requireLetter ({ frames := 6, cells := 1, slots := 6, locals := 90 }) (va_Pc [.ref o, .int x] (mp_B0 D classes (tys g) S sz)) "java/lang/IllegalArgumentException" D classes S 1 6 := by
  refine xp_ofW (cc := b_B_requireLetter) (maxL := 2) (ret := none) (by decide) rfl ?_
  intro p e s m args below meth c s₁ B hml hv
  obtain ⟨rfl, hsz, hH, hK⟩ := hv
  have hx := B.exec
  have hb := B.bytes
  have hr := B.returns
  have hts := atoms_spec (ws := w_B_requireLetter) B.pre
  have hg : ∀ w ∈ gw, w.before _ s = true := fun w h => hts w (List.mem_cons_of_mem _ h)
  have hown : s.vm.findClass R_B = some m.cls := findClass_of_methodNamed B.named
  have hlocks := B.notSynchronized
  have hne := B.noHandlers (hts _ List.mem_cons_self)
  subst hsz
  have hI := mp_I.start hH
  have hl := lv_entry ([.ref o, .int x]) (n := 2) (Nat.le_of_ble_eq_true rfl)
  rw [lg_entry_eq]
  generalize (lg_sl ([.ref o, .int x]) ++ List.replicate (2 - (lg_sl ([.ref o, .int x])).length) Slot.unset).toArray = ls at hl ⊢
  have hl : lv_has ls 2 [(0, .ref o), (1, .int x)] := hl
  refine lv_iload_n hx hb d_B_requireLetter_0 rfl (lv_at hl 1 rfl) ?_
  refine lv_if_lt (tgt := 12) hx hb d_B_requireLetter_1 (by decide) (fun c1 => ?_) (fun c1 => ?_)
  · obtain ⟨sa, hsa⟩ := xs_175 hK
    exact xp_throwS (names := ["java/lang/RuntimeException", "java/lang/Exception"]) hx hb hl9 hown (by decide +kernel) (by decide +kernel) (hg _ q_652) (hg _ q_12) hsa (xw_own hK hH xa_Ea) hH (hl.1.trans hml.symm) d_B_requireLetter_12 d_B_requireLetter_15 d_B_requireLetter_16 d_B_requireLetter_18 d_B_requireLetter_21 (noh hne) (Nat.le_of_ble_eq_true rfl) (Nat.le_of_ble_eq_true rfl) (Nat.le_of_ble_eq_true rfl) (Nat.le_of_ble_eq_true rfl) hlocks
  · refine lv_iload_n hx hb d_B_requireLetter_4 rfl (lv_at hl 1 rfl) ?_
    refine lv_aload_n hx hb d_B_requireLetter_5 rfl (lv_at hl 0 rfl) ?_
    refine mp_get (C := R_B) (T := F_B) (N := 10) (v := .int (nI nl)) hx hb hg i_B hown hK.va hI h_o rfl 0 (by decide) (hg _ q_82) (fun _ h9 => h9) rfl d_B_requireLetter_6 ?_
    refine lv_icmp_lt (tgt := 22) hx hb d_B_requireLetter_9 (by decide) (fun c2 => ?_) (fun c2 => ?_)
    · exact absurd c2 (Int32.not_lt.mpr (hx9.resolve_left c1))
    · obtain ⟨sa, hsa⟩ := xs_175 hK
      exact xp_throwS (names := ["java/lang/RuntimeException", "java/lang/Exception"]) hx hb hl9 hown (by decide +kernel) (by decide +kernel) (hg _ q_652) (hg _ q_12) hsa (xw_own hK hH xa_Ea) hH (hl.1.trans hml.symm) d_B_requireLetter_12 d_B_requireLetter_15 d_B_requireLetter_16 d_B_requireLetter_18 d_B_requireLetter_21 (noh hne) (Nat.le_of_ble_eq_true rfl) (Nat.le_of_ble_eq_true rfl) (Nat.le_of_ble_eq_true rfl) (Nat.le_of_ble_eq_true rfl) hlocks
set_option maxHeartbeats 4000000 in
set_option maxRecDepth 100000 in
/-- only reads -/
theorem p_O_numberAtN (l : Launch) (D : mp_G) (g : Nat → ClassId) (S : mp_M) (sz : Nat) (oo oa TO d9 : Nat) (c0 : Nat → fF) (x : Int32) (h_oo : S oo = some (TO, .inr (1, [.ref oa, .int (nI d9)]))) (h_oa : S oa = some ((TO + 1), .inl ((g 0), 33, .inl (fun j => nI (c0 j).val)))) (hx9 : x < 0 ∨ nI d9 < x) : Met l y_O_numberAt w_O_numberAt ({ frames := 0, cells := 0, slots := 0, locals := 0 }) (va_Pc [.ref oo, .int x] (mp_B0 D classes (tys g) S sz)) (vp_Si (fun (r : Int32) => r = 0)) 0 0 (fun _ => False) := by
  refine Met.ofW (cc := b_O_numberAt) (maxL := 2) (ret := (some .int)) (by decide) rfl ?_
  intro p e s m args below meth c s₁ B hml hv
  obtain ⟨rfl, hsz, hH, hK⟩ := hv
  have hx := B.exec
  have hb := B.bytes
  have hr := B.returns
  have hts := atoms_spec (ws := w_O_numberAt) B.pre
  have hg : ∀ w ∈ gw, w.before _ s = true := fun w h => hts w (List.mem_cons_of_mem _ h)
  have hown : s.vm.findClass R_O = some m.cls := findClass_of_methodNamed B.named
  have hlocks := B.notSynchronized
  subst hsz
  have hI := mp_I.start hH
  have hl := lv_entry ([.ref oo, .int x]) (n := 2) (Nat.le_of_ble_eq_true rfl)
  rw [lg_entry_eq]
  generalize (lg_sl ([.ref oo, .int x]) ++ List.replicate (2 - (lg_sl ([.ref oo, .int x])).length) Slot.unset).toArray = ls at hl ⊢
  have hl : lv_has ls 2 [(0, .ref oo), (1, .int x)] := hl
  refine lv_iload_n hx hb d_O_numberAt_0 rfl (lv_at hl 1 rfl) ?_
  refine lv_if_lt (tgt := 12) hx hb d_O_numberAt_1 (by decide) (fun c1 => ?_) (fun c1 => ?_)
  · refine lv_iconst (v := nI 0) hx hb d_O_numberAt_12 (by decide) ?_
    refine lv_goto (tgt := 22) hx hb d_O_numberAt_13 (by decide) ?_
    exact pp_iret hx hb hr hlocks (rfl) d_O_numberAt_22
  · refine lv_iload_n hx hb d_O_numberAt_4 rfl (lv_at hl 1 rfl) ?_
    refine lv_aload_n hx hb d_O_numberAt_5 rfl (lv_at hl 0 rfl) ?_
    refine mp_get (C := R_O) (T := F_O) (N := 2) (v := .int (nI d9)) hx hb hg i_O hown hK.va hI h_oo rfl 1 (by decide) (hg _ q_138) (fun _ h9 => h9) rfl d_O_numberAt_6 ?_
    refine lv_icmp_le (tgt := 16) hx hb d_O_numberAt_9 (by decide) (fun h9 => absurd h9 (fun h9 => absurd h9 (Int32.not_le.mpr (hx9.resolve_left c1)))) (fun _ => ?_)
    refine lv_iconst (v := nI 0) hx hb d_O_numberAt_12 (by decide) ?_
    refine lv_goto (tgt := 22) hx hb d_O_numberAt_13 (by decide) ?_
    exact pp_iret hx hb hr hlocks (rfl) d_O_numberAt_22
set_option maxHeartbeats 4000000 in
set_option maxRecDepth 100000 in
/-- only reads -/
theorem p_O_numberAt (l : Launch) (D : mp_G) (g : Nat → ClassId) (S : mp_M) (sz : Nat) (oo oa TO d9 : Nat) (c0 : Nat → fF) (e9 : Nat) (h_oo : S oo = some (TO, .inr (1, [.ref oa, .int (nI d9)]))) (h_oa : S oa = some ((TO + 1), .inl ((g 0), 33, .inl (fun j => nI (c0 j).val)))) (he9 : e9 ≤ d9) (hd9 : d9 ≤ 16) : Met l y_O_numberAt w_O_numberAt ({ frames := 0, cells := 0, slots := 0, locals := 0 }) (va_Pc [.ref oo, .int (nI e9)] (mp_B0 D classes (tys g) S sz)) (vp_Si (fun (r : Int32) => r = nI (c0 e9).val)) 0 0 (fun _ => False) := by
  refine Met.ofW (cc := b_O_numberAt) (maxL := 2) (ret := (some .int)) (by decide) rfl ?_
  intro p e s m args below meth c s₁ B hml hv
  obtain ⟨rfl, hsz, hH, hK⟩ := hv
  have hx := B.exec
  have hb := B.bytes
  have hr := B.returns
  have hts := atoms_spec (ws := w_O_numberAt) B.pre
  have hg : ∀ w ∈ gw, w.before _ s = true := fun w h => hts w (List.mem_cons_of_mem _ h)
  have hown : s.vm.findClass R_O = some m.cls := findClass_of_methodNamed B.named
  have hlocks := B.notSynchronized
  subst hsz
  have hI := mp_I.start hH
  have hl := lv_entry ([.ref oo, .int (nI e9)]) (n := 2) (Nat.le_of_ble_eq_true rfl)
  rw [lg_entry_eq]
  generalize (lg_sl ([.ref oo, .int (nI e9)]) ++ List.replicate (2 - (lg_sl ([.ref oo, .int (nI e9)])).length) Slot.unset).toArray = ls at hl ⊢
  have hl : lv_has ls 2 [(0, .ref oo), (1, .int (nI e9))] := hl
  refine lv_iload_n hx hb d_O_numberAt_0 rfl (lv_at hl 1 rfl) ?_
  refine lv_if_lt (tgt := 12) hx hb d_O_numberAt_1 (by decide) (fun h9 => absurd h9 (nI_pos (by omega))) (fun _ => ?_)
  refine lv_iload_n hx hb d_O_numberAt_4 rfl (lv_at hl 1 rfl) ?_
  refine lv_aload_n hx hb d_O_numberAt_5 rfl (lv_at hl 0 rfl) ?_
  refine mp_get (C := R_O) (T := F_O) (N := 2) (v := .int (nI d9)) hx hb hg i_O hown hK.va hI h_oo rfl 1 (by decide) (hg _ q_138) (fun _ h9 => h9) rfl d_O_numberAt_6 ?_
  refine lv_icmp_le (tgt := 16) hx hb d_O_numberAt_9 (by decide) (fun _ => ?_) (fun h9 => absurd (by rw [nI_leI (by omega) (by omega)]; omega) h9)
  refine lv_aload_n hx hb d_O_numberAt_16 rfl (lv_at hl 0 rfl) ?_
  refine mp_get (C := R_O) (T := F_O) (N := 2) (v := .ref oa) hx hb hg i_O hown hK.va hI h_oo rfl 0 (by decide) (hg _ q_136) (fun _ h9 => h9) rfl d_O_numberAt_17 ?_
  refine lv_iload_n hx hb d_O_numberAt_20 rfl (lv_at hl 1 rfl) ?_
  refine mp_iald hx hb hK.va hI 0 h_oa rfl (vp_in_nI (show e9 < 33 by omega) (by omega)) d_O_numberAt_21 ?_
  refine lv_topi (fun v1 ev1 => ?_)
  obtain rfl : v1 = nI (c0 e9).val := ev1.trans (by rw [nI_clamp (by omega)])
  exact pp_iret hx hb hr hlocks (rfl) d_O_numberAt_22
set_option maxHeartbeats 4000000 in
set_option maxRecDepth 100000 in
/-- a getter -/
theorem c_B_totalK (l : Launch) (D : mp_G) (g : Nat → ClassId) (S : mp_M) (sz : Nat) (o pa vo qo ky lz za mu9 po nl s9 zc : Nat) (v2 v3 v4 v5 v6 u0 u1 u3 u5 u6 q0 q3 q4 q5 q6 q7 q8 q9 q10 q11 : Value) (eo le la kQ MQ : Nat → Nat) (dl : Nat → Int32) (CL ZZ : Nat → Nat → fF) (h_o : S o = some (0, .inr (0, [.int (nI nl), .ref pa, v2, v3, v4, v5, v6, .int 1, .int (nI zc), .ref vo]))) (h_pa : S pa = some (1, .inl ((g 2), 40, .inr (.inr (.inr (.inr (rfs eo 40))))))) (h_vo : S vo = some (10, .inr (7, [u0, u1, .ref qo, u3, .ref lz, u5, u6, .ref za, .ref mu9, .int (nI zc), .ref po]))) (h_qo : S qo = some (14, .inr (4, [q0, .ref ky, .int (nI s9), q3, q4, q5, q6, q7, q8, q9, q10, q11]))) (h_ky : S ky = some (15, .inl ((g 0), 16, .inl (fun j => nI (kQ j))))) (h_lz : S lz = some (32, .inl ((g 3), 3, .inr (.inr (.inr (.inr (rfs le 3))))))) (h_za : S za = some (35, .inl ((g 1), 16, .inr (.inr (.inr (.inr (rfs (fun ii => za + 1 + ii) 16))))))) (h_mu9 : S mu9 = some (36, .inl ((g 0), 16, .inl (fun j => nI (MQ j))))) (hLo : oS g 570 3 le la dl (fun ii j => nI (CL ii j).val) S) (hZ : rS g 590 16 3 (fun ii => za + 1 + ii) (fun ii j => nI (ZZ ii j).val) S) (hnl : nl ≤ 3) (hs : s9 ≤ 16) (hzc : zc ≤ 16) : Met l y_B_total w_B_total ({ frames := 1, cells := 0, slots := 0, locals := 20 }) (va_Pc [.ref o] (mp_B0 D classes (tys g) S sz)) (va_Qi (fun (r : Int32) (S1 : mp_M) => r = nI s9 ∧ S1 = S) (mp_B1 D classes S sz) (mp_A S sz)) 0 0 (mp_A S sz) := by
  refine Met.ofW (cc := b_B_total) (maxL := 1) (ret := (some .int)) (by decide) rfl ?_
  intro p e s m args below meth c s₁ B hml hv
  obtain ⟨rfl, hsz, hH, hK⟩ := hv
  have hx := B.exec
  have hb := B.bytes
  have hr := B.returns
  have hts := atoms_spec (ws := w_B_total) B.pre
  have hg : ∀ w ∈ gw, w.before _ s = true := fun w h => hts w (List.mem_cons_of_mem _ h)
  have hown : s.vm.findClass R_B = some m.cls := findClass_of_methodNamed B.named
  have hlocks := B.notSynchronized
  subst hsz
  have hI := mp_I.start hH
  have hl := lv_entry ([.ref o]) (n := 1) (Nat.le_of_ble_eq_true rfl)
  rw [lg_entry_eq]
  generalize (lg_sl ([.ref o]) ++ List.replicate (1 - (lg_sl ([.ref o])).length) Slot.unset).toArray = ls at hl ⊢
  have hl : lv_has ls 1 [(0, .ref o)] := hl
  refine lv_aload_n hx hb d_B_total_0 rfl (lv_at hl 0 rfl) ?_
  refine pp_callr (va_runV (As := []) (rest := []) ⟨hx, hb, hml, hown, hg⟩ (p_B_known l D g S _ o pa vo nl zc v2 v3 v4 v5 v6 h_o hzc) ⟨(callB_of 0 hg (wd_goodG q_742) rfl rfl rfl (hg _ q_1) (hg _ q_739) (by decide +kernel) ⟨Nat.le_of_ble_eq_true rfl, Nat.le_of_ble_eq_true rfl⟩), hg _ q_741, hg _ qs_23⟩ (mp_preV (C := R_B) (T := F_B) hI hK h_o rfl []) rfl rfl hl.1 rfl (lv_room (Nat.le_of_ble_eq_true rfl)) d_B_total_1 ⟨Nat.le_of_ble_eq_true rfl, Nat.le_of_ble_eq_true rfl⟩) (fun r1 er1 => ?_)
  have er1 : vo = r1 := er1.symm
  subst er1
  refine mp_getN (C := R_V) (T := F_V) (N := 11) (v := .ref qo) hx hb hg i_V hown hK.va hI h_vo rfl 2 (by decide) (hK.use q_262 rfl) (fun _ h9 => h9) rfl d_B_total_4 ?_
  refine mp_getN (C := R_Q) (T := F_Q) (N := 12) (v := .int (nI s9)) hx hb hg i_Q hown hK.va hI h_qo rfl 2 (by decide) (hK.use q_223 rfl) (fun _ h9 => h9) rfl d_B_total_7 ?_
  refine mp_iret hx hb hr hlocks hI (Nat.le_of_ble_eq_true rfl) (Nat.le_of_ble_eq_true rfl) ?_ d_B_total_10
  exact ⟨rfl, rfl⟩
set_option maxHeartbeats 4000000 in
set_option maxRecDepth 100000 in
/-- a getter -/
theorem c_B_leftN (l : Launch) (D : mp_G) (g : Nat → ClassId) (S : mp_M) (sz : Nat) (o pa vo qo ky lz za mu9 po nl s9 zc : Nat) (v2 v3 v4 v5 v6 u0 u1 u3 u5 u6 q0 q3 q4 q5 q6 q7 q8 q9 q10 q11 : Value) (eo le la kQ MQ : Nat → Nat) (dl : Nat → Int32) (CL ZZ : Nat → Nat → fF) (x : Int32) (h_o : S o = some (0, .inr (0, [.int (nI nl), .ref pa, v2, v3, v4, v5, v6, .int 1, .int (nI zc), .ref vo]))) (h_pa : S pa = some (1, .inl ((g 2), 40, .inr (.inr (.inr (.inr (rfs eo 40))))))) (h_vo : S vo = some (10, .inr (7, [u0, u1, .ref qo, u3, .ref lz, u5, u6, .ref za, .ref mu9, .int (nI zc), .ref po]))) (h_qo : S qo = some (14, .inr (4, [q0, .ref ky, .int (nI s9), q3, q4, q5, q6, q7, q8, q9, q10, q11]))) (h_ky : S ky = some (15, .inl ((g 0), 16, .inl (fun j => nI (kQ j))))) (h_lz : S lz = some (32, .inl ((g 3), 3, .inr (.inr (.inr (.inr (rfs le 3))))))) (h_za : S za = some (35, .inl ((g 1), 16, .inr (.inr (.inr (.inr (rfs (fun ii => za + 1 + ii) 16))))))) (h_mu9 : S mu9 = some (36, .inl ((g 0), 16, .inl (fun j => nI (MQ j))))) (hLo : oS g 570 3 le la dl (fun ii j => nI (CL ii j).val) S) (hZ : rS g 590 16 3 (fun ii => za + 1 + ii) (fun ii j => nI (ZZ ii j).val) S) (hnl : nl ≤ 3) (hs : s9 ≤ 16) (hzc : zc ≤ 16) (hx9 : x < 0 ∨ nI s9 ≤ x) : Met l y_B_left w_B_left ({ frames := 1, cells := 0, slots := 0, locals := 20 }) (va_Pc [.ref o, .int x] (mp_B0 D classes (tys g) S sz)) (va_Qi (fun (r : Int32) (S1 : mp_M) => r = -1 ∧ S1 = S) (mp_B1 D classes S sz) (mp_A S sz)) 0 0 (mp_A S sz) := by
  refine Met.ofW (cc := b_B_left) (maxL := 3) (ret := (some .int)) (by decide) rfl ?_
  intro p e s m args below meth c s₁ B hml hv
  obtain ⟨rfl, hsz, hH, hK⟩ := hv
  have hx := B.exec
  have hb := B.bytes
  have hr := B.returns
  have hts := atoms_spec (ws := w_B_left) B.pre
  have hg : ∀ w ∈ gw, w.before _ s = true := fun w h => hts w (List.mem_cons_of_mem _ h)
  have hown : s.vm.findClass R_B = some m.cls := findClass_of_methodNamed B.named
  have hlocks := B.notSynchronized
  subst hsz
  have hI := mp_I.start hH
  have hl := lv_entry ([.ref o, .int x]) (n := 3) (Nat.le_of_ble_eq_true rfl)
  rw [lg_entry_eq]
  generalize (lg_sl ([.ref o, .int x]) ++ List.replicate (3 - (lg_sl ([.ref o, .int x])).length) Slot.unset).toArray = ls at hl ⊢
  have hl : lv_has ls 3 [(0, .ref o), (1, .int x)] := hl
  refine lv_aload_n hx hb d_B_left_0 rfl (lv_at hl 0 rfl) ?_
  refine pp_callr (va_runV (As := []) (rest := []) ⟨hx, hb, hml, hown, hg⟩ (p_B_known l D g S _ o pa vo nl zc v2 v3 v4 v5 v6 h_o hzc) ⟨(callB_of 0 hg (wd_goodG q_742) rfl rfl rfl (hg _ q_1) (hg _ q_739) (by decide +kernel) ⟨Nat.le_of_ble_eq_true rfl, Nat.le_of_ble_eq_true rfl⟩), hg _ q_741, hg _ qs_23⟩ (mp_preV (C := R_B) (T := F_B) hI hK h_o rfl []) rfl rfl hl.1 rfl (lv_room (Nat.le_of_ble_eq_true rfl)) d_B_left_1 ⟨Nat.le_of_ble_eq_true rfl, Nat.le_of_ble_eq_true rfl⟩) (fun r1 er1 => ?_)
  have er1 : vo = r1 := er1.symm
  subst er1
  refine mp_getN (C := R_V) (T := F_V) (N := 11) (v := .ref qo) hx hb hg i_V hown hK.va hI h_vo rfl 2 (by decide) (hK.use q_262 rfl) (fun _ h9 => h9) rfl d_B_left_4 ?_
  refine lv_astore_n (lv' := [(2, .ref qo), (0, .ref o), (1, .int x)]) hx hb d_B_left_7 rfl hl (by decide) rfl (fun ls hl => ?_)
  refine lv_iload_n hx hb d_B_left_8 rfl (lv_at hl 2 rfl) ?_
  refine lv_if_lt (tgt := 20) hx hb d_B_left_9 (by decide) (fun c1 => ?_) (fun c1 => ?_)
  · refine lv_iconst (v := (-1)) hx hb d_B_left_20 (by decide) ?_
    refine lv_goto (tgt := 33) hx hb d_B_left_21 (by decide) ?_
    refine mp_iret hx hb hr hlocks hI (Nat.le_of_ble_eq_true rfl) (Nat.le_of_ble_eq_true rfl) ?_ d_B_left_33
    exact ⟨rfl, rfl⟩
  · refine lv_iload_n hx hb d_B_left_12 rfl (lv_at hl 2 rfl) ?_
    refine lv_aload_n hx hb d_B_left_13 rfl (lv_at hl 0 rfl) ?_
    refine mp_getN (C := R_Q) (T := F_Q) (N := 12) (v := .int (nI s9)) hx hb hg i_Q hown hK.va hI h_qo rfl 2 (by decide) (hK.use q_223 rfl) (fun _ h9 => h9) rfl d_B_left_14 ?_
    refine lv_icmp_lt (tgt := 24) hx hb d_B_left_17 (by decide) (fun h9 => absurd h9 (fun h9 => absurd h9 (Int32.not_lt.mpr (hx9.resolve_left c1)))) (fun _ => ?_)
    refine lv_iconst (v := (-1)) hx hb d_B_left_20 (by decide) ?_
    refine lv_goto (tgt := 33) hx hb d_B_left_21 (by decide) ?_
    refine mp_iret hx hb hr hlocks hI (Nat.le_of_ble_eq_true rfl) (Nat.le_of_ble_eq_true rfl) ?_ d_B_left_33
    exact ⟨rfl, rfl⟩
set_option maxHeartbeats 4000000 in
set_option maxRecDepth 100000 in
/-- a getter -/
theorem c_B_leftK (l : Launch) (D : mp_G) (g : Nat → ClassId) (S : mp_M) (sz : Nat) (o pa vo qo ky lz za mu9 po nl s9 zc : Nat) (v2 v3 v4 v5 v6 u0 u1 u3 u5 u6 q0 q3 q4 q5 q6 q7 q8 q9 q10 q11 : Value) (eo le la kQ MQ : Nat → Nat) (dl : Nat → Int32) (CL ZZ : Nat → Nat → fF) (k9 a9 b9 d9 : Nat) (h_o : S o = some (0, .inr (0, [.int (nI nl), .ref pa, v2, v3, v4, v5, v6, .int 1, .int (nI zc), .ref vo]))) (h_pa : S pa = some (1, .inl ((g 2), 40, .inr (.inr (.inr (.inr (rfs eo 40))))))) (h_vo : S vo = some (10, .inr (7, [u0, u1, .ref qo, u3, .ref lz, u5, u6, .ref za, .ref mu9, .int (nI zc), .ref po]))) (h_qo : S qo = some (14, .inr (4, [q0, .ref ky, .int (nI s9), q3, q4, q5, q6, q7, q8, q9, q10, q11]))) (h_ky : S ky = some (15, .inl ((g 0), 16, .inl (fun j => nI (kQ j))))) (h_lz : S lz = some (32, .inl ((g 3), 3, .inr (.inr (.inr (.inr (rfs le 3))))))) (h_za : S za = some (35, .inl ((g 1), 16, .inr (.inr (.inr (.inr (rfs (fun ii => za + 1 + ii) 16))))))) (h_mu9 : S mu9 = some (36, .inl ((g 0), 16, .inl (fun j => nI (MQ j))))) (hLo : oS g 570 3 le la dl (fun ii j => nI (CL ii j).val) S) (hZ : rS g 590 16 3 (fun ii => za + 1 + ii) (fun ii j => nI (ZZ ii j).val) S) (hnl : nl ≤ 3) (hs : s9 ≤ 16) (hzc : zc ≤ 16) (hk9 : k9 < s9) (hkq : kQ k9 = kN a9 b9 d9) (ha9 : a9 ≤ 9) (hb9 : b9 ≤ 9) (hd9 : d9 ≤ 9) : Met l y_B_left w_B_left ({ frames := 2, cells := 0, slots := 0, locals := 43 }) (va_Pc [.ref o, .int (nI k9)] (mp_B0 D classes (tys g) S sz)) (va_Qi (fun (r : Int32) (S1 : mp_M) => r = nI (a9 + 16 * b9 + 256 * d9) ∧ S1 = S) (mp_B1 D classes S sz) (mp_A S sz)) 0 0 (mp_A S sz) := by
  refine Met.ofW (cc := b_B_left) (maxL := 3) (ret := (some .int)) (by decide) rfl ?_
  intro p e s m args below meth c s₁ B hml hv
  obtain ⟨rfl, hsz, hH, hK⟩ := hv
  have hx := B.exec
  have hb := B.bytes
  have hr := B.returns
  have hts := atoms_spec (ws := w_B_left) B.pre
  have hg : ∀ w ∈ gw, w.before _ s = true := fun w h => hts w (List.mem_cons_of_mem _ h)
  have hown : s.vm.findClass R_B = some m.cls := findClass_of_methodNamed B.named
  have hlocks := B.notSynchronized
  subst hsz
  have hI := mp_I.start hH
  have hl := lv_entry ([.ref o, .int (nI k9)]) (n := 3) (Nat.le_of_ble_eq_true rfl)
  rw [lg_entry_eq]
  generalize (lg_sl ([.ref o, .int (nI k9)]) ++ List.replicate (3 - (lg_sl ([.ref o, .int (nI k9)])).length) Slot.unset).toArray = ls at hl ⊢
  have hl : lv_has ls 3 [(0, .ref o), (1, .int (nI k9))] := hl
  refine lv_aload_n hx hb d_B_left_0 rfl (lv_at hl 0 rfl) ?_
  refine pp_callr (va_runV (As := []) (rest := []) ⟨hx, hb, hml, hown, hg⟩ (p_B_known l D g S _ o pa vo nl zc v2 v3 v4 v5 v6 h_o hzc) ⟨(callB_of 0 hg (wd_goodG q_742) rfl rfl rfl (hg _ q_1) (hg _ q_739) (by decide +kernel) ⟨Nat.le_of_ble_eq_true rfl, Nat.le_of_ble_eq_true rfl⟩), hg _ q_741, hg _ qs_23⟩ (mp_preV (C := R_B) (T := F_B) hI hK h_o rfl []) rfl rfl hl.1 rfl (lv_room (Nat.le_of_ble_eq_true rfl)) d_B_left_1 ⟨Nat.le_of_ble_eq_true rfl, Nat.le_of_ble_eq_true rfl⟩) (fun r1 er1 => ?_)
  have er1 : vo = r1 := er1.symm
  subst er1
  refine mp_getN (C := R_V) (T := F_V) (N := 11) (v := .ref qo) hx hb hg i_V hown hK.va hI h_vo rfl 2 (by decide) (hK.use q_262 rfl) (fun _ h9 => h9) rfl d_B_left_4 ?_
  refine lv_astore_n (lv' := [(2, .ref qo), (0, .ref o), (1, .int (nI k9))]) hx hb d_B_left_7 rfl hl (by decide) rfl (fun ls hl => ?_)
  refine lv_iload_n hx hb d_B_left_8 rfl (lv_at hl 2 rfl) ?_
  refine lv_if_lt (tgt := 20) hx hb d_B_left_9 (by decide) (fun h9 => absurd h9 (nI_pos (by omega))) (fun _ => ?_)
  refine lv_iload_n hx hb d_B_left_12 rfl (lv_at hl 2 rfl) ?_
  refine lv_aload_n hx hb d_B_left_13 rfl (lv_at hl 0 rfl) ?_
  refine mp_getN (C := R_Q) (T := F_Q) (N := 12) (v := .int (nI s9)) hx hb hg i_Q hown hK.va hI h_qo rfl 2 (by decide) (hK.use q_223 rfl) (fun _ h9 => h9) rfl d_B_left_14 ?_
  refine lv_icmp_lt (tgt := 24) hx hb d_B_left_17 (by decide) (fun _ => ?_) (fun h9 => absurd (by rw [nI_ltI (by omega) (by omega)]; omega) h9)
  refine lv_aload_n hx hb d_B_left_24 rfl (lv_at hl 0 rfl) ?_
  refine mp_getN (C := R_Q) (T := F_Q) (N := 12) (v := .ref ky) hx hb hg i_Q hown hK.va hI h_qo rfl 1 (by decide) (hK.use q_220 rfl) (fun _ h9 => h9) rfl d_B_left_25 ?_
  refine lv_iload_n hx hb d_B_left_28 rfl (lv_at hl 2 rfl) ?_
  refine mp_iald hx hb hK.va hI 0 h_ky rfl (vp_in_nI (show k9 < 16 by omega) (by omega)) d_B_left_29 ?_
  refine lv_topi (fun v2 ev2 => ?_)
  obtain rfl : v2 = nI (kQ k9) := ev2.trans (by rw [nI_clamp (by omega)])
  refine lv_topi (fun v3 ev3 => ?_)
  obtain rfl : v3 = nI (kN a9 b9 d9) := ev3.trans (by rw [hkq])
  refine mp_calli hI (va_runS (As := [.int (nI (kN a9 b9 d9))]) (rest := []) ⟨hx, hb, hml, hown, hg⟩ (c_W_written l D g S _ a9 b9 d9 (by omega) (by omega) (by omega)) ⟨(callB_of 1 hg (wd_goodG q_753) rfl rfl rfl (hg _ q_11) (hg _ q_751) (by decide +kernel) ⟨Nat.le_of_ble_eq_true rfl, Nat.le_of_ble_eq_true rfl⟩), hg _ q_752⟩ (mp_pre hI hK [.int (nI (kN a9 b9 d9))]) rfl rfl hl.1 rfl (lv_room (Nat.le_of_ble_eq_true rfl)) d_B_left_30 ⟨Nat.le_of_ble_eq_true rfl, Nat.le_of_ble_eq_true rfl⟩) (fun r7 S4 H5 locs p_6 hI => ?_)
  obtain ⟨er7, eS8⟩ := p_6
  rw [eS8] at hI
  have er7 : r7 = nI (a9 + 16 * b9 + 256 * d9) := er7
  subst er7
  refine mp_iret hx hb hr hlocks hI (Nat.le_of_ble_eq_true rfl) (Nat.le_of_ble_eq_true rfl) ?_ d_B_left_33
  exact ⟨rfl, rfl⟩
set_option maxHeartbeats 4000000 in
set_option maxRecDepth 100000 in
/-- a getter -/
theorem c_B_atK (l : Launch) (D : mp_G) (g : Nat → ClassId) (S : mp_M) (sz : Nat) (o pa vo qo ky lz za mu9 po nl s9 zc : Nat) (v2 v3 v4 v5 v6 u0 u1 u3 u5 u6 q0 q3 q4 q5 q6 q7 q8 q9 q10 q11 : Value) (eo le la kQ MQ : Nat → Nat) (dl : Nat → Int32) (CL ZZ : Nat → Nat → fF) (z9 k9 : Nat) (h_o : S o = some (0, .inr (0, [.int (nI nl), .ref pa, v2, v3, v4, v5, v6, .int 1, .int (nI zc), .ref vo]))) (h_pa : S pa = some (1, .inl ((g 2), 40, .inr (.inr (.inr (.inr (rfs eo 40))))))) (h_vo : S vo = some (10, .inr (7, [u0, u1, .ref qo, u3, .ref lz, u5, u6, .ref za, .ref mu9, .int (nI zc), .ref po]))) (h_qo : S qo = some (14, .inr (4, [q0, .ref ky, .int (nI s9), q3, q4, q5, q6, q7, q8, q9, q10, q11]))) (h_ky : S ky = some (15, .inl ((g 0), 16, .inl (fun j => nI (kQ j))))) (h_lz : S lz = some (32, .inl ((g 3), 3, .inr (.inr (.inr (.inr (rfs le 3))))))) (h_za : S za = some (35, .inl ((g 1), 16, .inr (.inr (.inr (.inr (rfs (fun ii => za + 1 + ii) 16))))))) (h_mu9 : S mu9 = some (36, .inl ((g 0), 16, .inl (fun j => nI (MQ j))))) (hLo : oS g 570 3 le la dl (fun ii j => nI (CL ii j).val) S) (hZ : rS g 590 16 3 (fun ii => za + 1 + ii) (fun ii j => nI (ZZ ii j).val) S) (hnl : nl ≤ 3) (hs : s9 ≤ 16) (hzc : zc ≤ 16) (hz9 : z9 < zc) (hk9 : k9 < nl) : Met l y_B_at w_B_at ({ frames := 1, cells := 0, slots := 0, locals := 22 }) (va_Pc [.ref o, .int (nI z9), .int (nI k9)] (mp_B0 D classes (tys g) S sz)) (va_Qi (fun (r : Int32) (S1 : mp_M) => r = nI (ZZ z9 k9).val ∧ S1 = S) (mp_B1 D classes S sz) (mp_A S sz)) 0 0 (mp_A S sz) := by
  refine Met.ofW (cc := b_B_at) (maxL := 4) (ret := (some .int)) (by decide) rfl ?_
  intro p e s m args below meth c s₁ B hml hv
  obtain ⟨rfl, hsz, hH, hK⟩ := hv
  have hx := B.exec
  have hb := B.bytes
  have hr := B.returns
  have hts := atoms_spec (ws := w_B_at) B.pre
  have hg : ∀ w ∈ gw, w.before _ s = true := fun w h => hts w (List.mem_cons_of_mem _ h)
  have hown : s.vm.findClass R_B = some m.cls := findClass_of_methodNamed B.named
  have hlocks := B.notSynchronized
  subst hsz
  have hI := mp_I.start hH
  have hl := lv_entry ([.ref o, .int (nI z9), .int (nI k9)]) (n := 4) (Nat.le_of_ble_eq_true rfl)
  rw [lg_entry_eq]
  generalize (lg_sl ([.ref o, .int (nI z9), .int (nI k9)]) ++ List.replicate (4 - (lg_sl ([.ref o, .int (nI z9), .int (nI k9)])).length) Slot.unset).toArray = ls at hl ⊢
  have hl : lv_has ls 4 [(0, .ref o), (1, .int (nI z9)), (2, .int (nI k9))] := hl
  refine lv_aload_n hx hb d_B_at_0 rfl (lv_at hl 0 rfl) ?_
  refine pp_callr (va_runV (As := []) (rest := []) ⟨hx, hb, hml, hown, hg⟩ (p_B_known l D g S _ o pa vo nl zc v2 v3 v4 v5 v6 h_o hzc) ⟨(callB_of 0 hg (wd_goodG q_742) rfl rfl rfl (hg _ q_1) (hg _ q_739) (by decide +kernel) ⟨Nat.le_of_ble_eq_true rfl, Nat.le_of_ble_eq_true rfl⟩), hg _ q_741, hg _ qs_23⟩ (mp_preV (C := R_B) (T := F_B) hI hK h_o rfl []) rfl rfl hl.1 rfl (lv_room (Nat.le_of_ble_eq_true rfl)) d_B_at_1 ⟨Nat.le_of_ble_eq_true rfl, Nat.le_of_ble_eq_true rfl⟩) (fun r1 er1 => ?_)
  have er1 : vo = r1 := er1.symm
  subst er1
  refine lv_iload_n hx hb d_B_at_4 rfl (lv_at hl 1 rfl) ?_
  refine pp_callr (va_runS (As := [.ref vo, .int (nI z9)]) (rest := []) ⟨hx, hb, hml, hown, hg⟩ (p_B_zeroOf l D g S _ vo qo lz za mu9 po zc u0 u1 u3 u5 u6 z9 h_vo h_za hz9 hzc) ⟨(callB_of 2 hg (wd_goodG q_763) rfl rfl rfl (hg _ q_1) (hg _ q_761) (by decide +kernel) ⟨Nat.le_of_ble_eq_true rfl, Nat.le_of_ble_eq_true rfl⟩), hg _ q_762⟩ (mp_pre hI hK [.ref vo, .int (nI z9)]) rfl rfl hl.1 rfl (lv_room (Nat.le_of_ble_eq_true rfl)) d_B_at_5 ⟨Nat.le_of_ble_eq_true rfl, Nat.le_of_ble_eq_true rfl⟩) (fun r2 er2 => ?_)
  have er2 : r2 = za + 1 + z9 := er2
  subst er2
  refine lv_astore_n (lv' := [(3, .ref (za + 1 + z9)), (0, .ref o), (1, .int (nI z9)), (2, .int (nI k9))]) hx hb d_B_at_8 rfl hl (by decide) rfl (fun ls hl => ?_)
  refine lv_aload_n hx hb d_B_at_9 rfl (lv_at hl 1 rfl) ?_
  refine lv_iload_n hx hb d_B_at_10 rfl (lv_at hl 3 rfl) ?_
  refine pp_callv (va_runV (As := [.int (nI k9)]) (rest := []) ⟨hx, hb, hml, hown, hg⟩ (p_B_requireLetter l D g S _ o nl k9 (.ref pa) v2 v3 v4 v5 v6 (.int 1) (.int (nI zc)) (.ref vo) h_o hk9 hnl) ⟨(callB_of 1 hg (wd_goodG q_768) rfl rfl rfl (hg _ q_1) (hg _ q_765) (by decide +kernel) ⟨Nat.le_of_ble_eq_true rfl, Nat.le_of_ble_eq_true rfl⟩), hg _ q_767, hg _ qs_24⟩ (mp_preV (C := R_B) (T := F_B) hI hK h_o rfl [.int (nI k9)]) rfl rfl hl.1 rfl (lv_room (Nat.le_of_ble_eq_true rfl)) d_B_at_11 ⟨Nat.le_of_ble_eq_true rfl, Nat.le_of_ble_eq_true rfl⟩) ?_
  have h_rw : S (za + 1 + z9) = some ((590 + z9), .inl ((g 0), 3, .inl (fun j => nI ((ZZ z9) j).val))) := hZ z9 (by omega)
  refine lv_aload_n hx hb d_B_at_14 rfl (lv_at hl 0 rfl) ?_
  refine lv_iload_n hx hb d_B_at_15 rfl (lv_at hl 3 rfl) ?_
  refine mp_iald hx hb hK.va hI 0 h_rw rfl (vp_in_nI (show k9 < 3 by omega) (by omega)) d_B_at_16 ?_
  refine lv_topi (fun v4 ev4 => ?_)
  obtain rfl : v4 = nI ((ZZ z9) k9).val := ev4.trans (by rw [nI_clamp (by omega)])
  refine mp_iret hx hb hr hlocks hI (Nat.le_of_ble_eq_true rfl) (Nat.le_of_ble_eq_true rfl) ?_ d_B_at_17
  exact ⟨rfl, rfl⟩
set_option maxHeartbeats 4000000 in
set_option maxRecDepth 100000 in
/-- a getter -/
theorem c_B_mulK (l : Launch) (D : mp_G) (g : Nat → ClassId) (S : mp_M) (sz : Nat) (o pa vo qo ky lz za mu9 po nl s9 zc : Nat) (v2 v3 v4 v5 v6 u0 u1 u3 u5 u6 q0 q3 q4 q5 q6 q7 q8 q9 q10 q11 : Value) (eo le la kQ MQ : Nat → Nat) (dl : Nat → Int32) (CL ZZ : Nat → Nat → fF) (z9 : Nat) (h_o : S o = some (0, .inr (0, [.int (nI nl), .ref pa, v2, v3, v4, v5, v6, .int 1, .int (nI zc), .ref vo]))) (h_pa : S pa = some (1, .inl ((g 2), 40, .inr (.inr (.inr (.inr (rfs eo 40))))))) (h_vo : S vo = some (10, .inr (7, [u0, u1, .ref qo, u3, .ref lz, u5, u6, .ref za, .ref mu9, .int (nI zc), .ref po]))) (h_qo : S qo = some (14, .inr (4, [q0, .ref ky, .int (nI s9), q3, q4, q5, q6, q7, q8, q9, q10, q11]))) (h_ky : S ky = some (15, .inl ((g 0), 16, .inl (fun j => nI (kQ j))))) (h_lz : S lz = some (32, .inl ((g 3), 3, .inr (.inr (.inr (.inr (rfs le 3))))))) (h_za : S za = some (35, .inl ((g 1), 16, .inr (.inr (.inr (.inr (rfs (fun ii => za + 1 + ii) 16))))))) (h_mu9 : S mu9 = some (36, .inl ((g 0), 16, .inl (fun j => nI (MQ j))))) (hLo : oS g 570 3 le la dl (fun ii j => nI (CL ii j).val) S) (hZ : rS g 590 16 3 (fun ii => za + 1 + ii) (fun ii j => nI (ZZ ii j).val) S) (hnl : nl ≤ 3) (hs : s9 ≤ 16) (hzc : zc ≤ 16) (hz9 : z9 < zc) : Met l y_B_multiplicity w_B_multiplicity ({ frames := 1, cells := 0, slots := 0, locals := 22 }) (va_Pc [.ref o, .int (nI z9)] (mp_B0 D classes (tys g) S sz)) (va_Qi (fun (r : Int32) (S1 : mp_M) => r = nI (MQ z9) ∧ S1 = S) (mp_B1 D classes S sz) (mp_A S sz)) 0 0 (mp_A S sz) := by
  refine Met.ofW (cc := b_B_multiplicity) (maxL := 3) (ret := (some .int)) (by decide) rfl ?_
  intro p e s m args below meth c s₁ B hml hv
  obtain ⟨rfl, hsz, hH, hK⟩ := hv
  have hx := B.exec
  have hb := B.bytes
  have hr := B.returns
  have hts := atoms_spec (ws := w_B_multiplicity) B.pre
  have hg : ∀ w ∈ gw, w.before _ s = true := fun w h => hts w (List.mem_cons_of_mem _ h)
  have hown : s.vm.findClass R_B = some m.cls := findClass_of_methodNamed B.named
  have hlocks := B.notSynchronized
  subst hsz
  have hI := mp_I.start hH
  have hl := lv_entry ([.ref o, .int (nI z9)]) (n := 3) (Nat.le_of_ble_eq_true rfl)
  rw [lg_entry_eq]
  generalize (lg_sl ([.ref o, .int (nI z9)]) ++ List.replicate (3 - (lg_sl ([.ref o, .int (nI z9)])).length) Slot.unset).toArray = ls at hl ⊢
  have hl : lv_has ls 3 [(0, .ref o), (1, .int (nI z9))] := hl
  refine lv_aload_n hx hb d_B_multiplicity_0 rfl (lv_at hl 0 rfl) ?_
  refine pp_callr (va_runV (As := []) (rest := []) ⟨hx, hb, hml, hown, hg⟩ (p_B_known l D g S _ o pa vo nl zc v2 v3 v4 v5 v6 h_o hzc) ⟨(callB_of 0 hg (wd_goodG q_742) rfl rfl rfl (hg _ q_1) (hg _ q_739) (by decide +kernel) ⟨Nat.le_of_ble_eq_true rfl, Nat.le_of_ble_eq_true rfl⟩), hg _ q_741, hg _ qs_23⟩ (mp_preV (C := R_B) (T := F_B) hI hK h_o rfl []) rfl rfl hl.1 rfl (lv_room (Nat.le_of_ble_eq_true rfl)) d_B_multiplicity_1 ⟨Nat.le_of_ble_eq_true rfl, Nat.le_of_ble_eq_true rfl⟩) (fun r1 er1 => ?_)
  have er1 : vo = r1 := er1.symm
  subst er1
  refine lv_astore_n (lv' := [(2, .ref vo), (0, .ref o), (1, .int (nI z9))]) hx hb d_B_multiplicity_4 rfl hl (by decide) rfl (fun ls hl => ?_)
  refine lv_aload_n hx hb d_B_multiplicity_5 rfl (lv_at hl 0 rfl) ?_
  refine lv_iload_n hx hb d_B_multiplicity_6 rfl (lv_at hl 2 rfl) ?_
  refine pp_callr (va_runS (As := [.ref vo, .int (nI z9)]) (rest := []) ⟨hx, hb, hml, hown, hg⟩ (p_B_zeroOf l D g S _ vo qo lz za mu9 po zc u0 u1 u3 u5 u6 z9 h_vo h_za hz9 hzc) ⟨(callB_of 2 hg (wd_goodG q_763) rfl rfl rfl (hg _ q_1) (hg _ q_761) (by decide +kernel) ⟨Nat.le_of_ble_eq_true rfl, Nat.le_of_ble_eq_true rfl⟩), hg _ q_762⟩ (mp_pre hI hK [.ref vo, .int (nI z9)]) rfl rfl hl.1 rfl (lv_room (Nat.le_of_ble_eq_true rfl)) d_B_multiplicity_7 ⟨Nat.le_of_ble_eq_true rfl, Nat.le_of_ble_eq_true rfl⟩) (fun r2 er2 => ?_)
  have er2 : r2 = za + 1 + z9 := er2
  subst er2
  refine lv_pop hx hb d_B_multiplicity_10 rfl ?_
  refine lv_aload_n hx hb d_B_multiplicity_11 rfl (lv_at hl 0 rfl) ?_
  refine mp_getN (C := R_V) (T := F_V) (N := 11) (v := .ref mu9) hx hb hg i_V hown hK.va hI h_vo rfl 8 (by decide) (hK.use q_271 rfl) (fun _ h9 => h9) rfl d_B_multiplicity_12 ?_
  refine lv_iload_n hx hb d_B_multiplicity_15 rfl (lv_at hl 2 rfl) ?_
  refine mp_iald hx hb hK.va hI 0 h_mu9 rfl (vp_in_nI (show z9 < 16 by omega) (by omega)) d_B_multiplicity_16 ?_
  refine lv_topi (fun v3 ev3 => ?_)
  obtain rfl : v3 = nI (MQ z9) := ev3.trans (by rw [nI_clamp (by omega)])
  refine mp_iret hx hb hr hlocks hI (Nat.le_of_ble_eq_true rfl) (Nat.le_of_ble_eq_true rfl) ?_ d_B_multiplicity_17
  exact ⟨rfl, rfl⟩
set_option maxHeartbeats 4000000 in
set_option maxRecDepth 100000 in
/-- a getter -/
theorem c_B_minE (l : Launch) (D : mp_G) (g : Nat → ClassId) (S : mp_M) (sz : Nat) (o pa vo qo ky lz za mu9 po nl s9 zc : Nat) (v2 v3 v4 v5 v6 u0 u1 u3 u5 u6 q0 q3 q4 q5 q6 q7 q8 q9 q10 q11 : Value) (eo le la kQ MQ : Nat → Nat) (dl : Nat → Int32) (CL ZZ : Nat → Nat → fF) (k9 d9 : Nat) (x : Int32) (h_o : S o = some (0, .inr (0, [.int (nI nl), .ref pa, v2, v3, v4, v5, v6, .int 1, .int (nI zc), .ref vo]))) (h_pa : S pa = some (1, .inl ((g 2), 40, .inr (.inr (.inr (.inr (rfs eo 40))))))) (h_vo : S vo = some (10, .inr (7, [u0, u1, .ref qo, u3, .ref lz, u5, u6, .ref za, .ref mu9, .int (nI zc), .ref po]))) (h_qo : S qo = some (14, .inr (4, [q0, .ref ky, .int (nI s9), q3, q4, q5, q6, q7, q8, q9, q10, q11]))) (h_ky : S ky = some (15, .inl ((g 0), 16, .inl (fun j => nI (kQ j))))) (h_lz : S lz = some (32, .inl ((g 3), 3, .inr (.inr (.inr (.inr (rfs le 3))))))) (h_za : S za = some (35, .inl ((g 1), 16, .inr (.inr (.inr (.inr (rfs (fun ii => za + 1 + ii) 16))))))) (h_mu9 : S mu9 = some (36, .inl ((g 0), 16, .inl (fun j => nI (MQ j))))) (hLo : oS g 570 3 le la dl (fun ii j => nI (CL ii j).val) S) (hZ : rS g 590 16 3 (fun ii => za + 1 + ii) (fun ii j => nI (ZZ ii j).val) S) (hnl : nl ≤ 3) (hs : s9 ≤ 16) (hzc : zc ≤ 16) (hk9 : k9 < nl) (hdl : dl k9 = nI d9) (hx9 : x < 0 ∨ nI d9 < x) : Met l y_B_minimal w_B_minimal ({ frames := 1, cells := 0, slots := 0, locals := 22 }) (va_Pc [.ref o, .int (nI k9), .int x] (mp_B0 D classes (tys g) S sz)) (va_Qi (fun (r : Int32) (S1 : mp_M) => r = 0 ∧ S1 = S) (mp_B1 D classes S sz) (mp_A S sz)) 0 0 (mp_A S sz) := by
  refine Met.ofW (cc := b_B_minimal) (maxL := 4) (ret := (some .int)) (by decide) rfl ?_
  intro p e s m args below meth c s₁ B hml hv
  obtain ⟨rfl, hsz, hH, hK⟩ := hv
  have hx := B.exec
  have hb := B.bytes
  have hr := B.returns
  have hts := atoms_spec (ws := w_B_minimal) B.pre
  have hg : ∀ w ∈ gw, w.before _ s = true := fun w h => hts w (List.mem_cons_of_mem _ h)
  have hown : s.vm.findClass R_B = some m.cls := findClass_of_methodNamed B.named
  have hlocks := B.notSynchronized
  subst hsz
  have hI := mp_I.start hH
  have hl := lv_entry ([.ref o, .int (nI k9), .int x]) (n := 4) (Nat.le_of_ble_eq_true rfl)
  rw [lg_entry_eq]
  generalize (lg_sl ([.ref o, .int (nI k9), .int x]) ++ List.replicate (4 - (lg_sl ([.ref o, .int (nI k9), .int x])).length) Slot.unset).toArray = ls at hl ⊢
  have hl : lv_has ls 4 [(0, .ref o), (1, .int (nI k9)), (2, .int x)] := hl
  refine lv_aload_n hx hb d_B_minimal_0 rfl (lv_at hl 0 rfl) ?_
  refine pp_callr (va_runV (As := []) (rest := []) ⟨hx, hb, hml, hown, hg⟩ (p_B_known l D g S _ o pa vo nl zc v2 v3 v4 v5 v6 h_o hzc) ⟨(callB_of 0 hg (wd_goodG q_742) rfl rfl rfl (hg _ q_1) (hg _ q_739) (by decide +kernel) ⟨Nat.le_of_ble_eq_true rfl, Nat.le_of_ble_eq_true rfl⟩), hg _ q_741, hg _ qs_23⟩ (mp_preV (C := R_B) (T := F_B) hI hK h_o rfl []) rfl rfl hl.1 rfl (lv_room (Nat.le_of_ble_eq_true rfl)) d_B_minimal_1 ⟨Nat.le_of_ble_eq_true rfl, Nat.le_of_ble_eq_true rfl⟩) (fun r1 er1 => ?_)
  have er1 : vo = r1 := er1.symm
  subst er1
  refine lv_astore_n (lv' := [(3, .ref vo), (0, .ref o), (1, .int (nI k9)), (2, .int x)]) hx hb d_B_minimal_4 rfl hl (by decide) rfl (fun ls hl => ?_)
  refine lv_aload_n hx hb d_B_minimal_5 rfl (lv_at hl 1 rfl) ?_
  refine lv_iload_n hx hb d_B_minimal_6 rfl (lv_at hl 2 rfl) ?_
  refine pp_callv (va_runV (As := [.int (nI k9)]) (rest := []) ⟨hx, hb, hml, hown, hg⟩ (p_B_requireLetter l D g S _ o nl k9 (.ref pa) v2 v3 v4 v5 v6 (.int 1) (.int (nI zc)) (.ref vo) h_o hk9 hnl) ⟨(callB_of 1 hg (wd_goodG q_768) rfl rfl rfl (hg _ q_1) (hg _ q_765) (by decide +kernel) ⟨Nat.le_of_ble_eq_true rfl, Nat.le_of_ble_eq_true rfl⟩), hg _ q_767, hg _ qs_24⟩ (mp_preV (C := R_B) (T := F_B) hI hK h_o rfl [.int (nI k9)]) rfl rfl hl.1 rfl (lv_room (Nat.le_of_ble_eq_true rfl)) d_B_minimal_7 ⟨Nat.le_of_ble_eq_true rfl, Nat.le_of_ble_eq_true rfl⟩) ?_
  have hLk := hLo k9 (by omega)
  have h_oo : S (le k9) = some ((570 + 2 * k9), .inr (1, [.ref (la k9), .int (nI d9)])) := by rw [← hdl]; exact hLk.1
  have h_oa : S (la k9) = some ((570 + 2 * k9 + 1), .inl ((g 0), 33, .inl (fun j => nI ((CL k9) j).val))) := hLk.2
  refine lv_aload_n hx hb d_B_minimal_10 rfl (lv_at hl 0 rfl) ?_
  refine mp_getN (C := R_V) (T := F_V) (N := 11) (v := .ref lz) hx hb hg i_V hown hK.va hI h_vo rfl 4 (by decide) (hK.use q_265 rfl) (fun _ h9 => h9) rfl d_B_minimal_11 ?_
  refine lv_iload_n hx hb d_B_minimal_14 rfl (lv_at hl 2 rfl) ?_
  refine mp_aldq (b := le k9) hx hb hK.va hI 3 h_lz rfl (vp_in_nI (show k9 < 3 by omega) (by omega)) (by rw [nI_clamp (by omega)]; exact rfs_at (by omega)) d_B_minimal_15 ?_
  refine lv_iload_n hx hb d_B_minimal_16 rfl (lv_at hl 3 rfl) ?_
  refine pp_calli (va_runV (As := [.int x]) (rest := []) ⟨hx, hb, hml, hown, hg⟩ (p_O_numberAtN l D g S _ (le k9) (la k9) (570 + 2 * k9) d9 (CL k9) x h_oo h_oa hx9) ⟨(callB_of 1 hg (wd_goodG q_787) rfl rfl rfl (hg _ q_18) (hg _ q_784) (by decide +kernel) ⟨Nat.le_of_ble_eq_true rfl, Nat.le_of_ble_eq_true rfl⟩), hg _ q_785, hg _ q_786⟩ (mp_preV (C := R_O) (T := F_O) hI hK h_oo rfl [.int x]) rfl rfl hl.1 rfl (lv_room (Nat.le_of_ble_eq_true rfl)) d_B_minimal_17 ⟨Nat.le_of_ble_eq_true rfl, Nat.le_of_ble_eq_true rfl⟩) (fun r3 er3 => ?_)
  have er3 : r3 = 0 := er3
  subst er3
  refine mp_iret hx hb hr hlocks hI (Nat.le_of_ble_eq_true rfl) (Nat.le_of_ble_eq_true rfl) ?_ d_B_minimal_20
  exact ⟨rfl, rfl⟩
set_option maxHeartbeats 4000000 in
set_option maxRecDepth 100000 in
/-- a getter -/
theorem c_B_minK (l : Launch) (D : mp_G) (g : Nat → ClassId) (S : mp_M) (sz : Nat) (o pa vo qo ky lz za mu9 po nl s9 zc : Nat) (v2 v3 v4 v5 v6 u0 u1 u3 u5 u6 q0 q3 q4 q5 q6 q7 q8 q9 q10 q11 : Value) (eo le la kQ MQ : Nat → Nat) (dl : Nat → Int32) (CL ZZ : Nat → Nat → fF) (k9 d9 e9 : Nat) (h_o : S o = some (0, .inr (0, [.int (nI nl), .ref pa, v2, v3, v4, v5, v6, .int 1, .int (nI zc), .ref vo]))) (h_pa : S pa = some (1, .inl ((g 2), 40, .inr (.inr (.inr (.inr (rfs eo 40))))))) (h_vo : S vo = some (10, .inr (7, [u0, u1, .ref qo, u3, .ref lz, u5, u6, .ref za, .ref mu9, .int (nI zc), .ref po]))) (h_qo : S qo = some (14, .inr (4, [q0, .ref ky, .int (nI s9), q3, q4, q5, q6, q7, q8, q9, q10, q11]))) (h_ky : S ky = some (15, .inl ((g 0), 16, .inl (fun j => nI (kQ j))))) (h_lz : S lz = some (32, .inl ((g 3), 3, .inr (.inr (.inr (.inr (rfs le 3))))))) (h_za : S za = some (35, .inl ((g 1), 16, .inr (.inr (.inr (.inr (rfs (fun ii => za + 1 + ii) 16))))))) (h_mu9 : S mu9 = some (36, .inl ((g 0), 16, .inl (fun j => nI (MQ j))))) (hLo : oS g 570 3 le la dl (fun ii j => nI (CL ii j).val) S) (hZ : rS g 590 16 3 (fun ii => za + 1 + ii) (fun ii j => nI (ZZ ii j).val) S) (hnl : nl ≤ 3) (hs : s9 ≤ 16) (hzc : zc ≤ 16) (hk9 : k9 < nl) (hdl : dl k9 = nI d9) (he9 : e9 ≤ d9) (hd9 : d9 ≤ 16) : Met l y_B_minimal w_B_minimal ({ frames := 1, cells := 0, slots := 0, locals := 22 }) (va_Pc [.ref o, .int (nI k9), .int (nI e9)] (mp_B0 D classes (tys g) S sz)) (va_Qi (fun (r : Int32) (S1 : mp_M) => r = nI (CL k9 e9).val ∧ S1 = S) (mp_B1 D classes S sz) (mp_A S sz)) 0 0 (mp_A S sz) := by
  refine Met.ofW (cc := b_B_minimal) (maxL := 4) (ret := (some .int)) (by decide) rfl ?_
  intro p e s m args below meth c s₁ B hml hv
  obtain ⟨rfl, hsz, hH, hK⟩ := hv
  have hx := B.exec
  have hb := B.bytes
  have hr := B.returns
  have hts := atoms_spec (ws := w_B_minimal) B.pre
  have hg : ∀ w ∈ gw, w.before _ s = true := fun w h => hts w (List.mem_cons_of_mem _ h)
  have hown : s.vm.findClass R_B = some m.cls := findClass_of_methodNamed B.named
  have hlocks := B.notSynchronized
  subst hsz
  have hI := mp_I.start hH
  have hl := lv_entry ([.ref o, .int (nI k9), .int (nI e9)]) (n := 4) (Nat.le_of_ble_eq_true rfl)
  rw [lg_entry_eq]
  generalize (lg_sl ([.ref o, .int (nI k9), .int (nI e9)]) ++ List.replicate (4 - (lg_sl ([.ref o, .int (nI k9), .int (nI e9)])).length) Slot.unset).toArray = ls at hl ⊢
  have hl : lv_has ls 4 [(0, .ref o), (1, .int (nI k9)), (2, .int (nI e9))] := hl
  refine lv_aload_n hx hb d_B_minimal_0 rfl (lv_at hl 0 rfl) ?_
  refine pp_callr (va_runV (As := []) (rest := []) ⟨hx, hb, hml, hown, hg⟩ (p_B_known l D g S _ o pa vo nl zc v2 v3 v4 v5 v6 h_o hzc) ⟨(callB_of 0 hg (wd_goodG q_742) rfl rfl rfl (hg _ q_1) (hg _ q_739) (by decide +kernel) ⟨Nat.le_of_ble_eq_true rfl, Nat.le_of_ble_eq_true rfl⟩), hg _ q_741, hg _ qs_23⟩ (mp_preV (C := R_B) (T := F_B) hI hK h_o rfl []) rfl rfl hl.1 rfl (lv_room (Nat.le_of_ble_eq_true rfl)) d_B_minimal_1 ⟨Nat.le_of_ble_eq_true rfl, Nat.le_of_ble_eq_true rfl⟩) (fun r1 er1 => ?_)
  have er1 : vo = r1 := er1.symm
  subst er1
  refine lv_astore_n (lv' := [(3, .ref vo), (0, .ref o), (1, .int (nI k9)), (2, .int (nI e9))]) hx hb d_B_minimal_4 rfl hl (by decide) rfl (fun ls hl => ?_)
  refine lv_aload_n hx hb d_B_minimal_5 rfl (lv_at hl 1 rfl) ?_
  refine lv_iload_n hx hb d_B_minimal_6 rfl (lv_at hl 2 rfl) ?_
  refine pp_callv (va_runV (As := [.int (nI k9)]) (rest := []) ⟨hx, hb, hml, hown, hg⟩ (p_B_requireLetter l D g S _ o nl k9 (.ref pa) v2 v3 v4 v5 v6 (.int 1) (.int (nI zc)) (.ref vo) h_o hk9 hnl) ⟨(callB_of 1 hg (wd_goodG q_768) rfl rfl rfl (hg _ q_1) (hg _ q_765) (by decide +kernel) ⟨Nat.le_of_ble_eq_true rfl, Nat.le_of_ble_eq_true rfl⟩), hg _ q_767, hg _ qs_24⟩ (mp_preV (C := R_B) (T := F_B) hI hK h_o rfl [.int (nI k9)]) rfl rfl hl.1 rfl (lv_room (Nat.le_of_ble_eq_true rfl)) d_B_minimal_7 ⟨Nat.le_of_ble_eq_true rfl, Nat.le_of_ble_eq_true rfl⟩) ?_
  have hLk := hLo k9 (by omega)
  have h_oo : S (le k9) = some ((570 + 2 * k9), .inr (1, [.ref (la k9), .int (nI d9)])) := by rw [← hdl]; exact hLk.1
  have h_oa : S (la k9) = some ((570 + 2 * k9 + 1), .inl ((g 0), 33, .inl (fun j => nI ((CL k9) j).val))) := hLk.2
  refine lv_aload_n hx hb d_B_minimal_10 rfl (lv_at hl 0 rfl) ?_
  refine mp_getN (C := R_V) (T := F_V) (N := 11) (v := .ref lz) hx hb hg i_V hown hK.va hI h_vo rfl 4 (by decide) (hK.use q_265 rfl) (fun _ h9 => h9) rfl d_B_minimal_11 ?_
  refine lv_iload_n hx hb d_B_minimal_14 rfl (lv_at hl 2 rfl) ?_
  refine mp_aldq (b := le k9) hx hb hK.va hI 3 h_lz rfl (vp_in_nI (show k9 < 3 by omega) (by omega)) (by rw [nI_clamp (by omega)]; exact rfs_at (by omega)) d_B_minimal_15 ?_
  refine lv_iload_n hx hb d_B_minimal_16 rfl (lv_at hl 3 rfl) ?_
  refine pp_calli (va_runV (As := [.int (nI e9)]) (rest := []) ⟨hx, hb, hml, hown, hg⟩ (p_O_numberAt l D g S _ (le k9) (la k9) (570 + 2 * k9) d9 (CL k9) e9 h_oo h_oa he9 hd9) ⟨(callB_of 1 hg (wd_goodG q_787) rfl rfl rfl (hg _ q_18) (hg _ q_784) (by decide +kernel) ⟨Nat.le_of_ble_eq_true rfl, Nat.le_of_ble_eq_true rfl⟩), hg _ q_785, hg _ q_786⟩ (mp_preV (C := R_O) (T := F_O) hI hK h_oo rfl [.int (nI e9)]) rfl rfl hl.1 rfl (lv_room (Nat.le_of_ble_eq_true rfl)) d_B_minimal_17 ⟨Nat.le_of_ble_eq_true rfl, Nat.le_of_ble_eq_true rfl⟩) (fun r3 er3 => ?_)
  have er3 : r3 = nI (CL k9 e9).val := er3
  subst er3
  refine mp_iret hx hb hr hlocks hI (Nat.le_of_ble_eq_true rfl) (Nat.le_of_ble_eq_true rfl) ?_ d_B_minimal_20
  exact ⟨rfl, rfl⟩
set_option maxHeartbeats 4000000 in
set_option maxRecDepth 100000 in
/-- it throws -/
theorem x_B_atZ (l : Launch) (hl9 : l.stackTraces = false) (D : mp_G) (g : Nat → ClassId) (S : mp_M) (sz : Nat) (o pa vo qo ky lz za mu9 po nl s9 zc : Nat) (v2 v3 v4 v5 v6 u0 u1 u3 u5 u6 q0 q3 q4 q5 q6 q7 q8 q9 q10 q11 : Value) (eo le la kQ MQ : Nat → Nat) (dl : Nat → Int32) (CL ZZ : Nat → Nat → fF) (x y9 : Int32) (h_o : S o = some (0, .inr (0, [.int (nI nl), .ref pa, v2, v3, v4, v5, v6, .int 1, .int (nI zc), .ref vo]))) (h_pa : S pa = some (1, .inl ((g 2), 40, .inr (.inr (.inr (.inr (rfs eo 40))))))) (h_vo : S vo = some (10, .inr (7, [u0, u1, .ref qo, u3, .ref lz, u5, u6, .ref za, .ref mu9, .int (nI zc), .ref po]))) (h_qo : S qo = some (14, .inr (4, [q0, .ref ky, .int (nI s9), q3, q4, q5, q6, q7, q8, q9, q10, q11]))) (h_ky : S ky = some (15, .inl ((g 0), 16, .inl (fun j => nI (kQ j))))) (h_lz : S lz = some (32, .inl ((g 3), 3, .inr (.inr (.inr (.inr (rfs le 3))))))) (h_za : S za = some (35, .inl ((g 1), 16, .inr (.inr (.inr (.inr (rfs (fun ii => za + 1 + ii) 16))))))) (h_mu9 : S mu9 = some (36, .inl ((g 0), 16, .inl (fun j => nI (MQ j))))) (hLo : oS g 570 3 le la dl (fun ii j => nI (CL ii j).val) S) (hZ : rS g 590 16 3 (fun ii => za + 1 + ii) (fun ii j => nI (ZZ ii j).val) S) (hnl : nl ≤ 3) (hs : s9 ≤ 16) (hzc : zc ≤ 16) (hx9 : x < 0 ∨ nI zc ≤ x) : xp_Met l y_B_at w_B_at ({ frames := 7, cells := 1, slots := 6, locals := 112 }) (va_Pc [.ref o, .int x, .int y9] (mp_B0 D classes (tys g) S sz)) "java/lang/IndexOutOfBoundsException" D classes S 1 6 := by
  refine xp_ofW (cc := b_B_at) (maxL := 4) (ret := (some .int)) (by decide) rfl ?_
  intro p e s m args below meth c s₁ B hml hv
  obtain ⟨rfl, hsz, hH, hK⟩ := hv
  have hx := B.exec
  have hb := B.bytes
  have hr := B.returns
  have hts := atoms_spec (ws := w_B_at) B.pre
  have hg : ∀ w ∈ gw, w.before _ s = true := fun w h => hts w (List.mem_cons_of_mem _ h)
  have hown : s.vm.findClass R_B = some m.cls := findClass_of_methodNamed B.named
  have hlocks := B.notSynchronized
  have hne := B.noHandlers (hts _ List.mem_cons_self)
  subst hsz
  have hI := mp_I.start hH
  have hl := lv_entry ([.ref o, .int x, .int y9]) (n := 4) (Nat.le_of_ble_eq_true rfl)
  rw [lg_entry_eq]
  generalize (lg_sl ([.ref o, .int x, .int y9]) ++ List.replicate (4 - (lg_sl ([.ref o, .int x, .int y9])).length) Slot.unset).toArray = ls at hl ⊢
  have hl : lv_has ls 4 [(0, .ref o), (1, .int x), (2, .int y9)] := hl
  refine lv_aload_n hx hb d_B_at_0 rfl (lv_at hl 0 rfl) ?_
  refine pp_callr (va_runV (As := []) (rest := []) ⟨hx, hb, hml, hown, hg⟩ (p_B_known l D g S _ o pa vo nl zc v2 v3 v4 v5 v6 h_o hzc) ⟨(callB_of 0 hg (wd_goodG q_742) rfl rfl rfl (hg _ q_1) (hg _ q_739) (by decide +kernel) ⟨Nat.le_of_ble_eq_true rfl, Nat.le_of_ble_eq_true rfl⟩), hg _ q_741, hg _ qs_23⟩ (mp_preV (C := R_B) (T := F_B) hI hK h_o rfl []) rfl rfl hl.1 rfl (lv_room (Nat.le_of_ble_eq_true rfl)) d_B_at_1 ⟨Nat.le_of_ble_eq_true rfl, Nat.le_of_ble_eq_true rfl⟩) (fun r1 er1 => ?_)
  have er1 : vo = r1 := er1.symm
  subst er1
  refine lv_iload_n hx hb d_B_at_4 rfl (lv_at hl 1 rfl) ?_
  exact xp_out (mc := 1) (ms := 6) (noh hne) hlocks (xp_runS (As := [.ref vo, .int x]) (rest := []) ⟨hx, hb, hml, hown, hg⟩ (x_B_zeroOf l hl9 D g S _ vo qo lz za mu9 po zc u0 u1 u3 u5 u6 x h_vo hx9) ⟨(callB_of 2 hg (wd_goodG q_763) rfl rfl rfl (hg _ q_1) (hg _ q_761) (by decide +kernel) ⟨Nat.le_of_ble_eq_true rfl, Nat.le_of_ble_eq_true rfl⟩), hg _ q_762⟩ (mp_pre hI hK [.ref vo, .int x]) rfl hl.1 (lv_room (Nat.le_of_ble_eq_true rfl)) d_B_at_5 ⟨Nat.le_of_ble_eq_true rfl, Nat.le_of_ble_eq_true rfl⟩)
set_option maxHeartbeats 4000000 in
set_option maxRecDepth 100000 in
/-- it throws -/
theorem x_B_atL (l : Launch) (hl9 : l.stackTraces = false) (D : mp_G) (g : Nat → ClassId) (S : mp_M) (sz : Nat) (o pa vo qo ky lz za mu9 po nl s9 zc : Nat) (v2 v3 v4 v5 v6 u0 u1 u3 u5 u6 q0 q3 q4 q5 q6 q7 q8 q9 q10 q11 : Value) (eo le la kQ MQ : Nat → Nat) (dl : Nat → Int32) (CL ZZ : Nat → Nat → fF) (z9 : Nat) (x : Int32) (h_o : S o = some (0, .inr (0, [.int (nI nl), .ref pa, v2, v3, v4, v5, v6, .int 1, .int (nI zc), .ref vo]))) (h_pa : S pa = some (1, .inl ((g 2), 40, .inr (.inr (.inr (.inr (rfs eo 40))))))) (h_vo : S vo = some (10, .inr (7, [u0, u1, .ref qo, u3, .ref lz, u5, u6, .ref za, .ref mu9, .int (nI zc), .ref po]))) (h_qo : S qo = some (14, .inr (4, [q0, .ref ky, .int (nI s9), q3, q4, q5, q6, q7, q8, q9, q10, q11]))) (h_ky : S ky = some (15, .inl ((g 0), 16, .inl (fun j => nI (kQ j))))) (h_lz : S lz = some (32, .inl ((g 3), 3, .inr (.inr (.inr (.inr (rfs le 3))))))) (h_za : S za = some (35, .inl ((g 1), 16, .inr (.inr (.inr (.inr (rfs (fun ii => za + 1 + ii) 16))))))) (h_mu9 : S mu9 = some (36, .inl ((g 0), 16, .inl (fun j => nI (MQ j))))) (hLo : oS g 570 3 le la dl (fun ii j => nI (CL ii j).val) S) (hZ : rS g 590 16 3 (fun ii => za + 1 + ii) (fun ii j => nI (ZZ ii j).val) S) (hnl : nl ≤ 3) (hs : s9 ≤ 16) (hzc : zc ≤ 16) (hz9 : z9 < zc) (hx9 : x < 0 ∨ nI nl ≤ x) : xp_Met l y_B_at w_B_at ({ frames := 7, cells := 1, slots := 6, locals := 112 }) (va_Pc [.ref o, .int (nI z9), .int x] (mp_B0 D classes (tys g) S sz)) "java/lang/IllegalArgumentException" D classes S 1 6 := by
  refine xp_ofW (cc := b_B_at) (maxL := 4) (ret := (some .int)) (by decide) rfl ?_
  intro p e s m args below meth c s₁ B hml hv
  obtain ⟨rfl, hsz, hH, hK⟩ := hv
  have hx := B.exec
  have hb := B.bytes
  have hr := B.returns
  have hts := atoms_spec (ws := w_B_at) B.pre
  have hg : ∀ w ∈ gw, w.before _ s = true := fun w h => hts w (List.mem_cons_of_mem _ h)
  have hown : s.vm.findClass R_B = some m.cls := findClass_of_methodNamed B.named
  have hlocks := B.notSynchronized
  have hne := B.noHandlers (hts _ List.mem_cons_self)
  subst hsz
  have hI := mp_I.start hH
  have hl := lv_entry ([.ref o, .int (nI z9), .int x]) (n := 4) (Nat.le_of_ble_eq_true rfl)
  rw [lg_entry_eq]
  generalize (lg_sl ([.ref o, .int (nI z9), .int x]) ++ List.replicate (4 - (lg_sl ([.ref o, .int (nI z9), .int x])).length) Slot.unset).toArray = ls at hl ⊢
  have hl : lv_has ls 4 [(0, .ref o), (1, .int (nI z9)), (2, .int x)] := hl
  refine lv_aload_n hx hb d_B_at_0 rfl (lv_at hl 0 rfl) ?_
  refine pp_callr (va_runV (As := []) (rest := []) ⟨hx, hb, hml, hown, hg⟩ (p_B_known l D g S _ o pa vo nl zc v2 v3 v4 v5 v6 h_o hzc) ⟨(callB_of 0 hg (wd_goodG q_742) rfl rfl rfl (hg _ q_1) (hg _ q_739) (by decide +kernel) ⟨Nat.le_of_ble_eq_true rfl, Nat.le_of_ble_eq_true rfl⟩), hg _ q_741, hg _ qs_23⟩ (mp_preV (C := R_B) (T := F_B) hI hK h_o rfl []) rfl rfl hl.1 rfl (lv_room (Nat.le_of_ble_eq_true rfl)) d_B_at_1 ⟨Nat.le_of_ble_eq_true rfl, Nat.le_of_ble_eq_true rfl⟩) (fun r1 er1 => ?_)
  have er1 : vo = r1 := er1.symm
  subst er1
  refine lv_iload_n hx hb d_B_at_4 rfl (lv_at hl 1 rfl) ?_
  refine pp_callr (va_runS (As := [.ref vo, .int (nI z9)]) (rest := []) ⟨hx, hb, hml, hown, hg⟩ (p_B_zeroOf l D g S _ vo qo lz za mu9 po zc u0 u1 u3 u5 u6 z9 h_vo h_za hz9 hzc) ⟨(callB_of 2 hg (wd_goodG q_763) rfl rfl rfl (hg _ q_1) (hg _ q_761) (by decide +kernel) ⟨Nat.le_of_ble_eq_true rfl, Nat.le_of_ble_eq_true rfl⟩), hg _ q_762⟩ (mp_pre hI hK [.ref vo, .int (nI z9)]) rfl rfl hl.1 rfl (lv_room (Nat.le_of_ble_eq_true rfl)) d_B_at_5 ⟨Nat.le_of_ble_eq_true rfl, Nat.le_of_ble_eq_true rfl⟩) (fun r2 er2 => ?_)
  have er2 : r2 = za + 1 + z9 := er2
  subst er2
  refine lv_astore_n (lv' := [(3, .ref (za + 1 + z9)), (0, .ref o), (1, .int (nI z9)), (2, .int x)]) hx hb d_B_at_8 rfl hl (by decide) rfl (fun ls hl => ?_)
  refine lv_aload_n hx hb d_B_at_9 rfl (lv_at hl 1 rfl) ?_
  refine lv_iload_n hx hb d_B_at_10 rfl (lv_at hl 3 rfl) ?_
  exact xp_out (mc := 1) (ms := 6) (noh hne) hlocks (xp_runV (As := [.int x]) (rest := []) ⟨hx, hb, hml, hown, hg⟩ (x_B_requireLetter l hl9 D g S _ o nl (.ref pa) v2 v3 v4 v5 v6 (.int 1) (.int (nI zc)) (.ref vo) x h_o hx9) ⟨(callB_of 1 hg (wd_goodG q_768) rfl rfl rfl (hg _ q_1) (hg _ q_765) (by decide +kernel) ⟨Nat.le_of_ble_eq_true rfl, Nat.le_of_ble_eq_true rfl⟩), hg _ q_767, hg _ qs_24⟩ (mp_preV (C := R_B) (T := F_B) hI hK h_o rfl [.int x]) rfl hl.1 (lv_room (Nat.le_of_ble_eq_true rfl)) d_B_at_11 ⟨Nat.le_of_ble_eq_true rfl, Nat.le_of_ble_eq_true rfl⟩)
set_option maxHeartbeats 4000000 in
set_option maxRecDepth 100000 in
/-- it throws -/
theorem x_B_mulZ (l : Launch) (hl9 : l.stackTraces = false) (D : mp_G) (g : Nat → ClassId) (S : mp_M) (sz : Nat) (o pa vo qo ky lz za mu9 po nl s9 zc : Nat) (v2 v3 v4 v5 v6 u0 u1 u3 u5 u6 q0 q3 q4 q5 q6 q7 q8 q9 q10 q11 : Value) (eo le la kQ MQ : Nat → Nat) (dl : Nat → Int32) (CL ZZ : Nat → Nat → fF) (x : Int32) (h_o : S o = some (0, .inr (0, [.int (nI nl), .ref pa, v2, v3, v4, v5, v6, .int 1, .int (nI zc), .ref vo]))) (h_pa : S pa = some (1, .inl ((g 2), 40, .inr (.inr (.inr (.inr (rfs eo 40))))))) (h_vo : S vo = some (10, .inr (7, [u0, u1, .ref qo, u3, .ref lz, u5, u6, .ref za, .ref mu9, .int (nI zc), .ref po]))) (h_qo : S qo = some (14, .inr (4, [q0, .ref ky, .int (nI s9), q3, q4, q5, q6, q7, q8, q9, q10, q11]))) (h_ky : S ky = some (15, .inl ((g 0), 16, .inl (fun j => nI (kQ j))))) (h_lz : S lz = some (32, .inl ((g 3), 3, .inr (.inr (.inr (.inr (rfs le 3))))))) (h_za : S za = some (35, .inl ((g 1), 16, .inr (.inr (.inr (.inr (rfs (fun ii => za + 1 + ii) 16))))))) (h_mu9 : S mu9 = some (36, .inl ((g 0), 16, .inl (fun j => nI (MQ j))))) (hLo : oS g 570 3 le la dl (fun ii j => nI (CL ii j).val) S) (hZ : rS g 590 16 3 (fun ii => za + 1 + ii) (fun ii j => nI (ZZ ii j).val) S) (hnl : nl ≤ 3) (hs : s9 ≤ 16) (hzc : zc ≤ 16) (hx9 : x < 0 ∨ nI zc ≤ x) : xp_Met l y_B_multiplicity w_B_multiplicity ({ frames := 7, cells := 1, slots := 6, locals := 112 }) (va_Pc [.ref o, .int x] (mp_B0 D classes (tys g) S sz)) "java/lang/IndexOutOfBoundsException" D classes S 1 6 := by
  refine xp_ofW (cc := b_B_multiplicity) (maxL := 3) (ret := (some .int)) (by decide) rfl ?_
  intro p e s m args below meth c s₁ B hml hv
  obtain ⟨rfl, hsz, hH, hK⟩ := hv
  have hx := B.exec
  have hb := B.bytes
  have hr := B.returns
  have hts := atoms_spec (ws := w_B_multiplicity) B.pre
  have hg : ∀ w ∈ gw, w.before _ s = true := fun w h => hts w (List.mem_cons_of_mem _ h)
  have hown : s.vm.findClass R_B = some m.cls := findClass_of_methodNamed B.named
  have hlocks := B.notSynchronized
  have hne := B.noHandlers (hts _ List.mem_cons_self)
  subst hsz
  have hI := mp_I.start hH
  have hl := lv_entry ([.ref o, .int x]) (n := 3) (Nat.le_of_ble_eq_true rfl)
  rw [lg_entry_eq]
  generalize (lg_sl ([.ref o, .int x]) ++ List.replicate (3 - (lg_sl ([.ref o, .int x])).length) Slot.unset).toArray = ls at hl ⊢
  have hl : lv_has ls 3 [(0, .ref o), (1, .int x)] := hl
  refine lv_aload_n hx hb d_B_multiplicity_0 rfl (lv_at hl 0 rfl) ?_
  refine pp_callr (va_runV (As := []) (rest := []) ⟨hx, hb, hml, hown, hg⟩ (p_B_known l D g S _ o pa vo nl zc v2 v3 v4 v5 v6 h_o hzc) ⟨(callB_of 0 hg (wd_goodG q_742) rfl rfl rfl (hg _ q_1) (hg _ q_739) (by decide +kernel) ⟨Nat.le_of_ble_eq_true rfl, Nat.le_of_ble_eq_true rfl⟩), hg _ q_741, hg _ qs_23⟩ (mp_preV (C := R_B) (T := F_B) hI hK h_o rfl []) rfl rfl hl.1 rfl (lv_room (Nat.le_of_ble_eq_true rfl)) d_B_multiplicity_1 ⟨Nat.le_of_ble_eq_true rfl, Nat.le_of_ble_eq_true rfl⟩) (fun r1 er1 => ?_)
  have er1 : vo = r1 := er1.symm
  subst er1
  refine lv_astore_n (lv' := [(2, .ref vo), (0, .ref o), (1, .int x)]) hx hb d_B_multiplicity_4 rfl hl (by decide) rfl (fun ls hl => ?_)
  refine lv_aload_n hx hb d_B_multiplicity_5 rfl (lv_at hl 0 rfl) ?_
  refine lv_iload_n hx hb d_B_multiplicity_6 rfl (lv_at hl 2 rfl) ?_
  exact xp_out (mc := 1) (ms := 6) (noh hne) hlocks (xp_runS (As := [.ref vo, .int x]) (rest := []) ⟨hx, hb, hml, hown, hg⟩ (x_B_zeroOf l hl9 D g S _ vo qo lz za mu9 po zc u0 u1 u3 u5 u6 x h_vo hx9) ⟨(callB_of 2 hg (wd_goodG q_763) rfl rfl rfl (hg _ q_1) (hg _ q_761) (by decide +kernel) ⟨Nat.le_of_ble_eq_true rfl, Nat.le_of_ble_eq_true rfl⟩), hg _ q_762⟩ (mp_pre hI hK [.ref vo, .int x]) rfl hl.1 (lv_room (Nat.le_of_ble_eq_true rfl)) d_B_multiplicity_7 ⟨Nat.le_of_ble_eq_true rfl, Nat.le_of_ble_eq_true rfl⟩)
set_option maxHeartbeats 4000000 in
set_option maxRecDepth 100000 in
/-- it throws -/
theorem x_B_minL (l : Launch) (hl9 : l.stackTraces = false) (D : mp_G) (g : Nat → ClassId) (S : mp_M) (sz : Nat) (o pa vo qo ky lz za mu9 po nl s9 zc : Nat) (v2 v3 v4 v5 v6 u0 u1 u3 u5 u6 q0 q3 q4 q5 q6 q7 q8 q9 q10 q11 : Value) (eo le la kQ MQ : Nat → Nat) (dl : Nat → Int32) (CL ZZ : Nat → Nat → fF) (x y9 : Int32) (h_o : S o = some (0, .inr (0, [.int (nI nl), .ref pa, v2, v3, v4, v5, v6, .int 1, .int (nI zc), .ref vo]))) (h_pa : S pa = some (1, .inl ((g 2), 40, .inr (.inr (.inr (.inr (rfs eo 40))))))) (h_vo : S vo = some (10, .inr (7, [u0, u1, .ref qo, u3, .ref lz, u5, u6, .ref za, .ref mu9, .int (nI zc), .ref po]))) (h_qo : S qo = some (14, .inr (4, [q0, .ref ky, .int (nI s9), q3, q4, q5, q6, q7, q8, q9, q10, q11]))) (h_ky : S ky = some (15, .inl ((g 0), 16, .inl (fun j => nI (kQ j))))) (h_lz : S lz = some (32, .inl ((g 3), 3, .inr (.inr (.inr (.inr (rfs le 3))))))) (h_za : S za = some (35, .inl ((g 1), 16, .inr (.inr (.inr (.inr (rfs (fun ii => za + 1 + ii) 16))))))) (h_mu9 : S mu9 = some (36, .inl ((g 0), 16, .inl (fun j => nI (MQ j))))) (hLo : oS g 570 3 le la dl (fun ii j => nI (CL ii j).val) S) (hZ : rS g 590 16 3 (fun ii => za + 1 + ii) (fun ii j => nI (ZZ ii j).val) S) (hnl : nl ≤ 3) (hs : s9 ≤ 16) (hzc : zc ≤ 16) (hx9 : x < 0 ∨ nI nl ≤ x) : xp_Met l y_B_minimal w_B_minimal ({ frames := 7, cells := 1, slots := 6, locals := 112 }) (va_Pc [.ref o, .int x, .int y9] (mp_B0 D classes (tys g) S sz)) "java/lang/IllegalArgumentException" D classes S 1 6 := by
  refine xp_ofW (cc := b_B_minimal) (maxL := 4) (ret := (some .int)) (by decide) rfl ?_
  intro p e s m args below meth c s₁ B hml hv
  obtain ⟨rfl, hsz, hH, hK⟩ := hv
  have hx := B.exec
  have hb := B.bytes
  have hr := B.returns
  have hts := atoms_spec (ws := w_B_minimal) B.pre
  have hg : ∀ w ∈ gw, w.before _ s = true := fun w h => hts w (List.mem_cons_of_mem _ h)
  have hown : s.vm.findClass R_B = some m.cls := findClass_of_methodNamed B.named
  have hlocks := B.notSynchronized
  have hne := B.noHandlers (hts _ List.mem_cons_self)
  subst hsz
  have hI := mp_I.start hH
  have hl := lv_entry ([.ref o, .int x, .int y9]) (n := 4) (Nat.le_of_ble_eq_true rfl)
  rw [lg_entry_eq]
  generalize (lg_sl ([.ref o, .int x, .int y9]) ++ List.replicate (4 - (lg_sl ([.ref o, .int x, .int y9])).length) Slot.unset).toArray = ls at hl ⊢
  have hl : lv_has ls 4 [(0, .ref o), (1, .int x), (2, .int y9)] := hl
  refine lv_aload_n hx hb d_B_minimal_0 rfl (lv_at hl 0 rfl) ?_
  refine pp_callr (va_runV (As := []) (rest := []) ⟨hx, hb, hml, hown, hg⟩ (p_B_known l D g S _ o pa vo nl zc v2 v3 v4 v5 v6 h_o hzc) ⟨(callB_of 0 hg (wd_goodG q_742) rfl rfl rfl (hg _ q_1) (hg _ q_739) (by decide +kernel) ⟨Nat.le_of_ble_eq_true rfl, Nat.le_of_ble_eq_true rfl⟩), hg _ q_741, hg _ qs_23⟩ (mp_preV (C := R_B) (T := F_B) hI hK h_o rfl []) rfl rfl hl.1 rfl (lv_room (Nat.le_of_ble_eq_true rfl)) d_B_minimal_1 ⟨Nat.le_of_ble_eq_true rfl, Nat.le_of_ble_eq_true rfl⟩) (fun r1 er1 => ?_)
  have er1 : vo = r1 := er1.symm
  subst er1
  refine lv_astore_n (lv' := [(3, .ref vo), (0, .ref o), (1, .int x), (2, .int y9)]) hx hb d_B_minimal_4 rfl hl (by decide) rfl (fun ls hl => ?_)
  refine lv_aload_n hx hb d_B_minimal_5 rfl (lv_at hl 1 rfl) ?_
  refine lv_iload_n hx hb d_B_minimal_6 rfl (lv_at hl 2 rfl) ?_
  exact xp_out (mc := 1) (ms := 6) (noh hne) hlocks (xp_runV (As := [.int x]) (rest := []) ⟨hx, hb, hml, hown, hg⟩ (x_B_requireLetter l hl9 D g S _ o nl (.ref pa) v2 v3 v4 v5 v6 (.int 1) (.int (nI zc)) (.ref vo) x h_o hx9) ⟨(callB_of 1 hg (wd_goodG q_768) rfl rfl rfl (hg _ q_1) (hg _ q_765) (by decide +kernel) ⟨Nat.le_of_ble_eq_true rfl, Nat.le_of_ble_eq_true rfl⟩), hg _ q_767, hg _ qs_24⟩ (mp_preV (C := R_B) (T := F_B) hI hK h_o rfl [.int x]) rfl hl.1 (lv_room (Nat.le_of_ble_eq_true rfl)) d_B_minimal_7 ⟨Nat.le_of_ble_eq_true rfl, Nat.le_of_ble_eq_true rfl⟩)
set_option maxHeartbeats 4000000 in
set_option maxRecDepth 100000 in
/-- it throws -/
theorem x_B_valP (l : Launch) (hl9 : l.stackTraces = false) (D : mp_G) (g : Nat → ClassId) (S : mp_M) (sz : Nat) (o pa vo qo ky lz za mu9 po nl s9 zc : Nat) (v2 v3 v4 v5 v6 u0 u1 u3 u5 u6 q0 q3 q4 q5 q6 q7 q8 q9 q10 q11 : Value) (eo le la kQ MQ : Nat → Nat) (dl : Nat → Int32) (CL ZZ : Nat → Nat → fF) (x y9 : Int32) (h_o : S o = some (0, .inr (0, [.int (nI nl), .ref pa, v2, v3, v4, v5, v6, .int 1, .int (nI zc), .ref vo]))) (h_pa : S pa = some (1, .inl ((g 2), 40, .inr (.inr (.inr (.inr (rfs eo 40))))))) (h_vo : S vo = some (10, .inr (7, [u0, u1, .ref qo, u3, .ref lz, u5, u6, .ref za, .ref mu9, .int (nI zc), .ref po]))) (h_qo : S qo = some (14, .inr (4, [q0, .ref ky, .int (nI s9), q3, q4, q5, q6, q7, q8, q9, q10, q11]))) (h_ky : S ky = some (15, .inl ((g 0), 16, .inl (fun j => nI (kQ j))))) (h_lz : S lz = some (32, .inl ((g 3), 3, .inr (.inr (.inr (.inr (rfs le 3))))))) (h_za : S za = some (35, .inl ((g 1), 16, .inr (.inr (.inr (.inr (rfs (fun ii => za + 1 + ii) 16))))))) (h_mu9 : S mu9 = some (36, .inl ((g 0), 16, .inl (fun j => nI (MQ j))))) (hLo : oS g 570 3 le la dl (fun ii j => nI (CL ii j).val) S) (hZ : rS g 590 16 3 (fun ii => za + 1 + ii) (fun ii j => nI (ZZ ii j).val) S) (hnl : nl ≤ 3) (hs : s9 ≤ 16) (hzc : zc ≤ 16) (hx9 : x < 0 ∨ nI 40 ≤ x) : xp_Met l y_B_value w_B_value ({ frames := 7, cells := 1, slots := 6, locals := 112 }) (va_Pc [.ref o, .int x, .int y9] (mp_B0 D classes (tys g) S sz)) "java/lang/IndexOutOfBoundsException" D classes S 1 6 := by
  refine xp_ofW (cc := b_B_value) (maxL := 7) (ret := (some .int)) (by decide) rfl ?_
  intro p e s m args below meth c s₁ B hml hv
  obtain ⟨rfl, hsz, hH, hK⟩ := hv
  have hx := B.exec
  have hb := B.bytes
  have hr := B.returns
  have hts := atoms_spec (ws := w_B_value) B.pre
  have hg : ∀ w ∈ gw, w.before _ s = true := fun w h => hts w (List.mem_cons_of_mem _ h)
  have hown : s.vm.findClass R_B = some m.cls := findClass_of_methodNamed B.named
  have hlocks := B.notSynchronized
  have hne := B.noHandlers (hts _ List.mem_cons_self)
  subst hsz
  have hI := mp_I.start hH
  have hl := lv_entry ([.ref o, .int x, .int y9]) (n := 7) (Nat.le_of_ble_eq_true rfl)
  rw [lg_entry_eq]
  generalize (lg_sl ([.ref o, .int x, .int y9]) ++ List.replicate (7 - (lg_sl ([.ref o, .int x, .int y9])).length) Slot.unset).toArray = ls at hl ⊢
  have hl : lv_has ls 7 [(0, .ref o), (1, .int x), (2, .int y9)] := hl
  refine lv_aload_n hx hb d_B_value_0 rfl (lv_at hl 0 rfl) ?_
  refine pp_callr (va_runV (As := []) (rest := []) ⟨hx, hb, hml, hown, hg⟩ (p_B_known l D g S _ o pa vo nl zc v2 v3 v4 v5 v6 h_o hzc) ⟨(callB_of 0 hg (wd_goodG q_742) rfl rfl rfl (hg _ q_1) (hg _ q_739) (by decide +kernel) ⟨Nat.le_of_ble_eq_true rfl, Nat.le_of_ble_eq_true rfl⟩), hg _ q_741, hg _ qs_23⟩ (mp_preV (C := R_B) (T := F_B) hI hK h_o rfl []) rfl rfl hl.1 rfl (lv_room (Nat.le_of_ble_eq_true rfl)) d_B_value_1 ⟨Nat.le_of_ble_eq_true rfl, Nat.le_of_ble_eq_true rfl⟩) (fun r1 er1 => ?_)
  have er1 : vo = r1 := er1.symm
  subst er1
  refine lv_astore_n (lv' := [(3, .ref vo), (0, .ref o), (1, .int x), (2, .int y9)]) hx hb d_B_value_4 rfl hl (by decide) rfl (fun ls hl => ?_)
  refine lv_aload_n hx hb d_B_value_5 rfl (lv_at hl 1 rfl) ?_
  refine lv_iload_n hx hb d_B_value_6 rfl (lv_at hl 2 rfl) ?_
  exact xp_out (mc := 1) (ms := 6) (noh hne) hlocks (xp_runV (As := [.int x]) (rest := []) ⟨hx, hb, hml, hown, hg⟩ (x_B_polynomialOf l hl9 D g S _ o pa (.int (nI nl)) v2 v3 v4 v5 v6 (.int 1) (.int (nI zc)) (.ref vo) x h_o hx9) ⟨(callB_of 1 hg (wd_goodG q_632) rfl rfl rfl (hg _ q_1) (hg _ q_629) (by decide +kernel) ⟨Nat.le_of_ble_eq_true rfl, Nat.le_of_ble_eq_true rfl⟩), hg _ q_631, hg _ qs_20⟩ (mp_preV (C := R_B) (T := F_B) hI hK h_o rfl [.int x]) rfl hl.1 (lv_room (Nat.le_of_ble_eq_true rfl)) d_B_value_7 ⟨Nat.le_of_ble_eq_true rfl, Nat.le_of_ble_eq_true rfl⟩)
set_option maxHeartbeats 4000000 in
set_option maxRecDepth 100000 in
/-- it throws -/
theorem x_B_valZ (l : Launch) (hl9 : l.stackTraces = false) (D : mp_G) (g : Nat → ClassId) (S : mp_M) (sz : Nat) (o pa vo qo ky lz za mu9 po nl s9 zc : Nat) (v2 v3 v4 v5 v6 u0 u1 u3 u5 u6 q0 q3 q4 q5 q6 q7 q8 q9 q10 q11 : Value) (eo le la kQ MQ : Nat → Nat) (dl : Nat → Int32) (CL ZZ : Nat → Nat → fF) (k9 : Nat) (x : Int32) (h_o : S o = some (0, .inr (0, [.int (nI nl), .ref pa, v2, v3, v4, v5, v6, .int 1, .int (nI zc), .ref vo]))) (h_pa : S pa = some (1, .inl ((g 2), 40, .inr (.inr (.inr (.inr (rfs eo 40))))))) (h_vo : S vo = some (10, .inr (7, [u0, u1, .ref qo, u3, .ref lz, u5, u6, .ref za, .ref mu9, .int (nI zc), .ref po]))) (h_qo : S qo = some (14, .inr (4, [q0, .ref ky, .int (nI s9), q3, q4, q5, q6, q7, q8, q9, q10, q11]))) (h_ky : S ky = some (15, .inl ((g 0), 16, .inl (fun j => nI (kQ j))))) (h_lz : S lz = some (32, .inl ((g 3), 3, .inr (.inr (.inr (.inr (rfs le 3))))))) (h_za : S za = some (35, .inl ((g 1), 16, .inr (.inr (.inr (.inr (rfs (fun ii => za + 1 + ii) 16))))))) (h_mu9 : S mu9 = some (36, .inl ((g 0), 16, .inl (fun j => nI (MQ j))))) (hLo : oS g 570 3 le la dl (fun ii j => nI (CL ii j).val) S) (hZ : rS g 590 16 3 (fun ii => za + 1 + ii) (fun ii j => nI (ZZ ii j).val) S) (hnl : nl ≤ 3) (hs : s9 ≤ 16) (hzc : zc ≤ 16) (hk9 : k9 < 40) (hx9 : x < 0 ∨ nI zc ≤ x) : xp_Met l y_B_value w_B_value ({ frames := 7, cells := 1, slots := 6, locals := 112 }) (va_Pc [.ref o, .int (nI k9), .int x] (mp_B0 D classes (tys g) S sz)) "java/lang/IndexOutOfBoundsException" D classes S 1 6 := by
  refine xp_ofW (cc := b_B_value) (maxL := 7) (ret := (some .int)) (by decide) rfl ?_
  intro p e s m args below meth c s₁ B hml hv
  obtain ⟨rfl, hsz, hH, hK⟩ := hv
  have hx := B.exec
  have hb := B.bytes
  have hr := B.returns
  have hts := atoms_spec (ws := w_B_value) B.pre
  have hg : ∀ w ∈ gw, w.before _ s = true := fun w h => hts w (List.mem_cons_of_mem _ h)
  have hown : s.vm.findClass R_B = some m.cls := findClass_of_methodNamed B.named
  have hlocks := B.notSynchronized
  have hne := B.noHandlers (hts _ List.mem_cons_self)
  subst hsz
  have hI := mp_I.start hH
  have hl := lv_entry ([.ref o, .int (nI k9), .int x]) (n := 7) (Nat.le_of_ble_eq_true rfl)
  rw [lg_entry_eq]
  generalize (lg_sl ([.ref o, .int (nI k9), .int x]) ++ List.replicate (7 - (lg_sl ([.ref o, .int (nI k9), .int x])).length) Slot.unset).toArray = ls at hl ⊢
  have hl : lv_has ls 7 [(0, .ref o), (1, .int (nI k9)), (2, .int x)] := hl
  refine lv_aload_n hx hb d_B_value_0 rfl (lv_at hl 0 rfl) ?_
  refine pp_callr (va_runV (As := []) (rest := []) ⟨hx, hb, hml, hown, hg⟩ (p_B_known l D g S _ o pa vo nl zc v2 v3 v4 v5 v6 h_o hzc) ⟨(callB_of 0 hg (wd_goodG q_742) rfl rfl rfl (hg _ q_1) (hg _ q_739) (by decide +kernel) ⟨Nat.le_of_ble_eq_true rfl, Nat.le_of_ble_eq_true rfl⟩), hg _ q_741, hg _ qs_23⟩ (mp_preV (C := R_B) (T := F_B) hI hK h_o rfl []) rfl rfl hl.1 rfl (lv_room (Nat.le_of_ble_eq_true rfl)) d_B_value_1 ⟨Nat.le_of_ble_eq_true rfl, Nat.le_of_ble_eq_true rfl⟩) (fun r1 er1 => ?_)
  have er1 : vo = r1 := er1.symm
  subst er1
  refine lv_astore_n (lv' := [(3, .ref vo), (0, .ref o), (1, .int (nI k9)), (2, .int x)]) hx hb d_B_value_4 rfl hl (by decide) rfl (fun ls hl => ?_)
  refine lv_aload_n hx hb d_B_value_5 rfl (lv_at hl 1 rfl) ?_
  refine lv_iload_n hx hb d_B_value_6 rfl (lv_at hl 2 rfl) ?_
  refine pp_callr (va_runV (As := [.int (nI k9)]) (rest := []) ⟨hx, hb, hml, hown, hg⟩ (p_B_polynomialOf l D g S _ o pa eo (.int (nI nl)) v2 v3 v4 v5 v6 (.int 1) (.int (nI zc)) (.ref vo) k9 h_o h_pa hk9) ⟨(callB_of 1 hg (wd_goodG q_632) rfl rfl rfl (hg _ q_1) (hg _ q_629) (by decide +kernel) ⟨Nat.le_of_ble_eq_true rfl, Nat.le_of_ble_eq_true rfl⟩), hg _ q_631, hg _ qs_20⟩ (mp_preV (C := R_B) (T := F_B) hI hK h_o rfl [.int (nI k9)]) rfl rfl hl.1 rfl (lv_room (Nat.le_of_ble_eq_true rfl)) d_B_value_7 ⟨Nat.le_of_ble_eq_true rfl, Nat.le_of_ble_eq_true rfl⟩) (fun r2 er2 => ?_)
  have er2 : r2 = eo k9 := er2
  subst er2
  refine lv_astore (lv' := [(4, .ref (eo k9)), (3, .ref vo), (0, .ref o), (1, .int (nI k9)), (2, .int x)]) hx hb d_B_value_10 hl (by decide) rfl (fun ls hl => ?_)
  refine lv_aload_n hx hb d_B_value_12 rfl (lv_at hl 1 rfl) ?_
  refine lv_iload_n hx hb d_B_value_13 rfl (lv_at hl 4 rfl) ?_
  exact xp_out (mc := 1) (ms := 6) (noh hne) hlocks (xp_runS (As := [.ref vo, .int x]) (rest := []) ⟨hx, hb, hml, hown, hg⟩ (x_B_zeroOf l hl9 D g S _ vo qo lz za mu9 po zc u0 u1 u3 u5 u6 x h_vo hx9) ⟨(callB_of 2 hg (wd_goodG q_763) rfl rfl rfl (hg _ q_1) (hg _ q_761) (by decide +kernel) ⟨Nat.le_of_ble_eq_true rfl, Nat.le_of_ble_eq_true rfl⟩), hg _ q_762⟩ (mp_pre hI hK [.ref vo, .int x]) rfl hl.1 (lv_room (Nat.le_of_ble_eq_true rfl)) d_B_value_14 ⟨Nat.le_of_ble_eq_true rfl, Nat.le_of_ble_eq_true rfl⟩)
set_option maxHeartbeats 4000000 in
set_option maxRecDepth 100000 in
theorem lp_B_val {p : Program} {l : Launch} {e : Env} {R : Room} {s : State} {m : MethodId} {args : Array Value} {below : List Frame} {meth : Method} {c : Code} {Q : State → Prop} {D : mp_G} {g : Nat → ClassId} {A : Nat → Prop} {cells slots : Nat} (hx : p.tables.exec = Jvm.exec) (hb : c.code = b_B_value) (hml : c.maxLocals = 7) (hg : ∀ w ∈ gw, w.before args s = true) (hown : s.vm.findClass R_B = some m.cls) (hK : mp_K D classes (tys g) s) (hRf : 1 ≤ R.frames) (hRl : 23 ≤ R.locals) (hRc : cells ≤ R.cells) (hRs : slots ≤ R.slots) {B : mp_M} {vo qo lz za mu9 po pn pp zc z9 yo : Nat} {u0 u1 u3 u5 u6 : Value} {ZZ : Nat → Nat → fF} (hz9 : z9 < 16) : ∀ (k : Nat) (i : Nat) (X : Nat → fF) (W9 : Nat → Nat → fF) (S : mp_M) (H : Heap) (locs : List Loc) (ls : Array Slot), i + k = 3 → (∀ j, j < i → pt1 j (ZZ z9 j) X W9) → S vo = some (10, .inr (7, [u0, u1, .ref qo, u3, .ref lz, u5, u6, .ref za, .ref mu9, .int (nI zc), .ref po])) → S po = some (37, .inr (2, [.ref pn, .ref pp])) → S pn = some (38, .inl ((g 0), 3, .inl (fun j => nI (X j).val))) → S pp = some (39, .inl ((g 1), 3, .inr (.inr (.inr (.inr (rfs (fun ii => pp + 1 + ii) 3)))))) → S (za + 1 + z9) = some ((590 + z9), .inl ((g 0), 3, .inl (fun j => nI ((ZZ z9) j).val))) → (rS g 610 3 10 (fun ii => pp + 1 + ii) (fun ii j => nI (W9 ii j).val) S) → (∀ b t e9, B b = some (t, e9) → (t ≠ 38) → ((t < 610 ∨ 613 ≤ t)) → S b = some (t, e9)) → mp_I D classes A s.heap S H locs → lv_has ls 7 [(6, .int (nI i)), (5, .ref (za + 1 + z9)), (4, .ref yo), (3, .ref vo)] → (∀ (X : Nat → fF) (W9 : Nat → Nat → fF) (S : mp_M) (H : Heap) (locs : List Loc) (ls : Array Slot), (∀ j, j < 3 → pt1 j (ZZ z9 j) X W9) → S vo = some (10, .inr (7, [u0, u1, .ref qo, u3, .ref lz, u5, u6, .ref za, .ref mu9, .int (nI zc), .ref po])) → S po = some (37, .inr (2, [.ref pn, .ref pp])) → S pn = some (38, .inl ((g 0), 3, .inl (fun j => nI (X j).val))) → S pp = some (39, .inl ((g 1), 3, .inr (.inr (.inr (.inr (rfs (fun ii => pp + 1 + ii) 3)))))) → S (za + 1 + z9) = some ((590 + z9), .inl ((g 0), 3, .inl (fun j => nI ((ZZ z9) j).val))) → (rS g 610 3 10 (fun ii => pp + 1 + ii) (fun ii j => nI (W9 ii j).val) S) → (∀ b t e9, B b = some (t, e9) → (t ≠ 38) → ((t < 610 ∨ 613 ≤ t)) → S b = some (t, e9)) → mp_I D classes A s.heap S H locs → lv_has ls 7 [(6, .int (nI 3)), (5, .ref (za + 1 + z9)), (4, .ref yo), (3, .ref vo)] → W p l e R s m args below meth c H locs cells slots Q (F0 m 48 ls [])) → W p l e R s m args below meth c H locs cells slots Q (F0 m 22 ls []) := by
  intro k
  induction k with
  | zero =>
    intro i X W9 S H locs ls hi hpt h_vo h_po h_pn h_pp h_rw hW hfr hI hl kx
    refine lv_iload hx hb d_B_value_22 (lv_at hl 0 rfl) ?_
    refine lv_iconst (v := nI 3) hx hb d_B_value_24 (by decide) ?_
    refine lv_icmp_ge (tgt := 48) hx hb d_B_value_25 (by decide) (fun _ => ?_) (fun h9 => absurd ((nI_leI (by omega) (by omega)).mpr (by omega)) h9)
    obtain rfl : i = 3 := by omega
    exact kx X W9 S H locs ls hpt h_vo h_po h_pn h_pp h_rw hW hfr hI (lv_sub hl [0, 1, 2, 3] rfl)
  | succ k ih =>
    intro i X W9 S H locs ls hi hpt h_vo h_po h_pn h_pp h_rw hW hfr hI hl kx
    refine lv_iload hx hb d_B_value_22 (lv_at hl 0 rfl) ?_
    refine lv_iconst (v := nI 3) hx hb d_B_value_24 (by decide) ?_
    refine lv_icmp_ge (tgt := 48) hx hb d_B_value_25 (by decide) (fun h9 => absurd h9 (by rw [nI_leI (by omega) (by omega)]; omega)) (fun _ => ?_)
    refine lv_aload_n hx hb d_B_value_28 rfl (lv_at hl 3 rfl) ?_
    refine mp_getN (C := R_V) (T := F_V) (N := 11) (v := .ref po) hx hb hg i_V hown hK.va hI h_vo rfl 10 (by decide) (hK.use q_275 rfl) (fun _ h9 => h9) rfl d_B_value_29 ?_
    refine lv_iload hx hb d_B_value_32 (lv_at hl 0 rfl) ?_
    refine lv_aload hx hb d_B_value_34 (lv_at hl 1 rfl) ?_
    refine lv_iload hx hb d_B_value_36 (lv_at hl 0 rfl) ?_
    refine mp_iald hx hb hK.va hI 0 h_rw rfl (vp_in_nI (show i < 3 by omega) (by omega)) d_B_value_38 ?_
    refine lv_topi (fun v1 ev1 => ?_)
    obtain rfl : v1 = nI ((ZZ z9) i).val := ev1.trans (by rw [nI_clamp (by omega)])
    refine mp_callv hI (va_runV (As := [.int (nI i), .int (nI ((ZZ z9) i).val)]) (rest := []) ⟨hx, hb, hml, hown, hg⟩ (c_P_move l D g S _ po pn pp X W9 i (ZZ z9 i) h_po h_pn h_pp hW (by omega)) ⟨(callB_of 2 hg (wd_goodG q_493) rfl rfl rfl (hg _ q_19) (hg _ q_795) (by decide +kernel) ⟨Nat.le_trans (Nat.le_of_ble_eq_true rfl) hRf, Nat.le_trans (Nat.le_of_ble_eq_true rfl) hRl⟩), hg _ q_491, hg _ q_492⟩ (mp_preV (C := R_P) (T := F_P) hI hK h_po rfl [.int (nI i), .int (nI ((ZZ z9) i).val)]) rfl rfl hl.1 rfl (lv_room (Nat.le_of_ble_eq_true rfl)) d_B_value_39 ⟨by omega, by omega⟩) (fun S2 H3 locs p_4 hI => ?_)
    obtain ⟨q_pn, q_W, fq⟩ := p_4
    have h_vo : S2 vo = some (10, .inr (7, [u0, u1, .ref qo, u3, .ref lz, u5, u6, .ref za, .ref mu9, .int (nI zc), .ref po])) := fq vo _ _ h_vo (by omega) (by omega)
    have h_po : S2 po = some (37, .inr (2, [.ref pn, .ref pp])) := fq po _ _ h_po (by omega) (by omega)
    have h_pp : S2 pp = some (39, .inl ((g 1), 3, .inr (.inr (.inr (.inr (rfs (fun ii => pp + 1 + ii) 3)))))) := fq pp _ _ h_pp (by omega) (by omega)
    have h_rw : S2 (za + 1 + z9) = some ((590 + z9), .inl ((g 0), 3, .inl (fun j => nI ((ZZ z9) j).val))) := fq (za + 1 + z9) _ _ h_rw (by omega) (by omega)
    have hfr : ∀ b t e9, B b = some (t, e9) → (t ≠ 38) → ((t < 610 ∨ 613 ≤ t)) → S2 b = some (t, e9) := fun b t e9 h9 k0 k1 => by have h8 := hfr b t e9 h9 k0 k1; exact fq b _ _ h8 (by omega) (by omega)
    have h_pn := q_pn
    have hW := q_W
    refine lv_iinc (v := nI (i + 1)) (lv' := [(6, .int (nI (i + 1))), (5, .ref (za + 1 + z9)), (4, .ref yo), (3, .ref vo)]) hx hb d_B_value_42 hl (k := 0) rfl (nI_1 _) (by decide) rfl (fun ls hl => ?_)
    refine lv_goto (tgt := 22) hx hb d_B_value_45 (by decide) ?_
    exact ih (i + 1) (va_up X i (ZZ z9 i)) (va_up W9 i (mgF 10 (pwR (ZZ z9 i)) (W9 i))) S2 H3 locs ls (by omega) (fun j hj => by by_cases e9 : j = i; exact (by rw [e9]; exact pt1_up _ _ _ _); exact pt1_un (hpt j (by omega)) e9) h_vo h_po h_pn h_pp h_rw hW hfr hI (lv_sub hl [0, 1, 2, 3] rfl) kx
set_option maxHeartbeats 4000000 in
set_option maxRecDepth 100000 in
/-- a value -/
theorem c_B_valK (l : Launch) (D : mp_G) (g : Nat → ClassId) (S : mp_M) (sz : Nat) (o pa vo qo ky lz za mu9 po nl s9 zc : Nat) (v2 v3 v4 v5 v6 u0 u1 u3 u5 u6 q0 q3 q4 q5 q6 q7 q8 q9 q10 q11 : Value) (eo le la kQ MQ : Nat → Nat) (dl : Nat → Int32) (CL ZZ : Nat → Nat → fF) (pn pp : Nat) (X : Nat → fF) (W9 : Nat → Nat → fF) (ek en cap pz : Nat → Nat) (kf nf : Nat → Nat → Int32) (k9 z9 : Nat) (mo : Nat → m3) (co : Nat → fF) (h_o : S o = some (0, .inr (0, [.int (nI nl), .ref pa, v2, v3, v4, v5, v6, .int 1, .int (nI zc), .ref vo]))) (h_pa : S pa = some (1, .inl ((g 2), 40, .inr (.inr (.inr (.inr (rfs eo 40))))))) (h_vo : S vo = some (10, .inr (7, [u0, u1, .ref qo, u3, .ref lz, u5, u6, .ref za, .ref mu9, .int (nI zc), .ref po]))) (h_qo : S qo = some (14, .inr (4, [q0, .ref ky, .int (nI s9), q3, q4, q5, q6, q7, q8, q9, q10, q11]))) (h_ky : S ky = some (15, .inl ((g 0), 16, .inl (fun j => nI (kQ j))))) (h_lz : S lz = some (32, .inl ((g 3), 3, .inr (.inr (.inr (.inr (rfs le 3))))))) (h_za : S za = some (35, .inl ((g 1), 16, .inr (.inr (.inr (.inr (rfs (fun ii => za + 1 + ii) 16))))))) (h_mu9 : S mu9 = some (36, .inl ((g 0), 16, .inl (fun j => nI (MQ j))))) (h_po : S po = some (37, .inr (2, [.ref pn, .ref pp]))) (h_pn : S pn = some (38, .inl ((g 0), 3, .inl (fun j => nI (X j).val)))) (h_pp : S pp = some (39, .inl ((g 1), 3, .inr (.inr (.inr (.inr (rfs (fun ii => pp + 1 + ii) 3))))))) (hLo : oS g 570 3 le la dl (fun ii j => nI (CL ii j).val) S) (hZ : rS g 590 16 3 (fun ii => za + 1 + ii) (fun ii j => nI (ZZ ii j).val) S) (hnl : nl ≤ 3) (hs : s9 ≤ 16) (hzc : zc ≤ 16) (hW : rS g 610 3 10 (fun ii => pp + 1 + ii) (fun ii j => nI (W9 ii j).val) S) (hE : yS g 100 40 eo ek en cap pz kf nf S) (hk9 : k9 < 40) (hz9 : z9 < zc) (hz : pz k9 ≤ cap k9) (hcp : cap k9 ≤ 2048) (hkk : ∀ k, k < pz k9 → kf k9 k = nI (kN (mo k).1 (mo k).2.1 (mo k).2.2) ∧ nf k9 k = nI (co k).val ∧ e9 (mo k)) : Met l y_B_value w_B_value ({ frames := 3, cells := 0, slots := 0, locals := 70 }) (va_Pc [.ref o, .int (nI k9), .int (nI z9)] (mp_B0 D classes (tys g) S sz)) (va_Qi (fun (r : Int32) (S1 : mp_M) => ∃ (X1 : Nat → fF) (W1 : Nat → Nat → fF), r = nI (sm (pz k9) (fun k => co k * ev (ZZ z9 0) (ZZ z9 1) (ZZ z9 2) (mo k))).val ∧ S1 pn = some (38, .inl ((g 0), 3, .inl (fun j => nI (X1 j).val))) ∧ (rS g 610 3 10 (fun ii => pp + 1 + ii) (fun ii j => nI (W1 ii j).val) S1) ∧ (∀ b t e9, S b = some (t, e9) → (t ≠ 38) → ((t < 610 ∨ 613 ≤ t)) → S1 b = some (t, e9))) (mp_B1 D classes S sz) (mp_A S sz)) 0 0 (mp_A S sz) := by
  refine Met.ofW (cc := b_B_value) (maxL := 7) (ret := (some .int)) (by decide) rfl ?_
  intro p e s m args below meth c s₁ B hml hv
  obtain ⟨rfl, hsz, hH, hK⟩ := hv
  have hx := B.exec
  have hb := B.bytes
  have hr := B.returns
  have hts := atoms_spec (ws := w_B_value) B.pre
  have hg : ∀ w ∈ gw, w.before _ s = true := fun w h => hts w (List.mem_cons_of_mem _ h)
  have hown : s.vm.findClass R_B = some m.cls := findClass_of_methodNamed B.named
  have hlocks := B.notSynchronized
  subst hsz
  have hI := mp_I.start hH
  have hl := lv_entry ([.ref o, .int (nI k9), .int (nI z9)]) (n := 7) (Nat.le_of_ble_eq_true rfl)
  rw [lg_entry_eq]
  generalize (lg_sl ([.ref o, .int (nI k9), .int (nI z9)]) ++ List.replicate (7 - (lg_sl ([.ref o, .int (nI k9), .int (nI z9)])).length) Slot.unset).toArray = ls at hl ⊢
  have hl : lv_has ls 7 [(0, .ref o), (1, .int (nI k9)), (2, .int (nI z9))] := hl
  have hfr : ∀ b t e9, S b = some (t, e9) → (t ≠ 38) → ((t < 610 ∨ 613 ≤ t)) → S b = some (t, e9) := fun _ _ _ h9 _ _ => h9
  have h_rw : S (za + 1 + z9) = some ((590 + z9), .inl ((g 0), 3, .inl (fun j => nI ((ZZ z9) j).val))) := hZ z9 (by omega)
  refine lv_aload_n hx hb d_B_value_0 rfl (lv_at hl 0 rfl) ?_
  refine pp_callr (va_runV (As := []) (rest := []) ⟨hx, hb, hml, hown, hg⟩ (p_B_known l D g S _ o pa vo nl zc v2 v3 v4 v5 v6 h_o hzc) ⟨(callB_of 0 hg (wd_goodG q_742) rfl rfl rfl (hg _ q_1) (hg _ q_739) (by decide +kernel) ⟨Nat.le_of_ble_eq_true rfl, Nat.le_of_ble_eq_true rfl⟩), hg _ q_741, hg _ qs_23⟩ (mp_preV (C := R_B) (T := F_B) hI hK h_o rfl []) rfl rfl hl.1 rfl (lv_room (Nat.le_of_ble_eq_true rfl)) d_B_value_1 ⟨Nat.le_of_ble_eq_true rfl, Nat.le_of_ble_eq_true rfl⟩) (fun r1 er1 => ?_)
  have er1 : vo = r1 := er1.symm
  subst er1
  refine lv_astore_n (lv' := [(3, .ref vo), (0, .ref o), (1, .int (nI k9)), (2, .int (nI z9))]) hx hb d_B_value_4 rfl hl (by decide) rfl (fun ls hl => ?_)
  refine lv_aload_n hx hb d_B_value_5 rfl (lv_at hl 1 rfl) ?_
  refine lv_iload_n hx hb d_B_value_6 rfl (lv_at hl 2 rfl) ?_
  refine pp_callr (va_runV (As := [.int (nI k9)]) (rest := []) ⟨hx, hb, hml, hown, hg⟩ (p_B_polynomialOf l D g S _ o pa eo (.int (nI nl)) v2 v3 v4 v5 v6 (.int 1) (.int (nI zc)) (.ref vo) k9 h_o h_pa hk9) ⟨(callB_of 1 hg (wd_goodG q_632) rfl rfl rfl (hg _ q_1) (hg _ q_629) (by decide +kernel) ⟨Nat.le_of_ble_eq_true rfl, Nat.le_of_ble_eq_true rfl⟩), hg _ q_631, hg _ qs_20⟩ (mp_preV (C := R_B) (T := F_B) hI hK h_o rfl [.int (nI k9)]) rfl rfl hl.1 rfl (lv_room (Nat.le_of_ble_eq_true rfl)) d_B_value_7 ⟨Nat.le_of_ble_eq_true rfl, Nat.le_of_ble_eq_true rfl⟩) (fun r2 er2 => ?_)
  have er2 : r2 = eo k9 := er2
  subst er2
  refine lv_astore (lv' := [(4, .ref (eo k9)), (3, .ref vo), (0, .ref o), (1, .int (nI k9)), (2, .int (nI z9))]) hx hb d_B_value_10 hl (by decide) rfl (fun ls hl => ?_)
  refine lv_aload_n hx hb d_B_value_12 rfl (lv_at hl 1 rfl) ?_
  refine lv_iload_n hx hb d_B_value_13 rfl (lv_at hl 4 rfl) ?_
  refine pp_callr (va_runS (As := [.ref vo, .int (nI z9)]) (rest := []) ⟨hx, hb, hml, hown, hg⟩ (p_B_zeroOf l D g S _ vo qo lz za mu9 po zc u0 u1 u3 u5 u6 z9 h_vo h_za hz9 hzc) ⟨(callB_of 2 hg (wd_goodG q_763) rfl rfl rfl (hg _ q_1) (hg _ q_761) (by decide +kernel) ⟨Nat.le_of_ble_eq_true rfl, Nat.le_of_ble_eq_true rfl⟩), hg _ q_762⟩ (mp_pre hI hK [.ref vo, .int (nI z9)]) rfl rfl hl.1 rfl (lv_room (Nat.le_of_ble_eq_true rfl)) d_B_value_14 ⟨Nat.le_of_ble_eq_true rfl, Nat.le_of_ble_eq_true rfl⟩) (fun r3 er3 => ?_)
  have er3 : r3 = za + 1 + z9 := er3
  subst er3
  refine lv_astore (lv' := [(5, .ref (za + 1 + z9)), (4, .ref (eo k9)), (3, .ref vo), (0, .ref o), (1, .int (nI k9)), (2, .int (nI z9))]) hx hb d_B_value_17 hl (by decide) rfl (fun ls hl => ?_)
  refine lv_iconst (v := nI 0) hx hb d_B_value_19 (by decide) ?_
  refine lv_istore (lv' := [(6, .int (nI 0)), (5, .ref (za + 1 + z9)), (4, .ref (eo k9)), (3, .ref vo), (0, .ref o), (1, .int (nI k9)), (2, .int (nI z9))]) hx hb d_B_value_20 hl (by decide) rfl (fun ls hl => ?_)
  obtain ⟨y1, y2, y3⟩ := hE k9 hk9
  refine lp_B_val (B := S) (vo := vo) (qo := qo) (lz := lz) (za := za) (mu9 := mu9) (po := po) (pn := pn) (pp := pp) (zc := zc) (z9 := z9) (u0 := u0) (u1 := u1) (u3 := u3) (u5 := u5) (u6 := u6) (ZZ := ZZ) (yo := (eo k9)) hx hb hml hg hown hK (Nat.le_of_ble_eq_true rfl) (Nat.le_of_ble_eq_true rfl) (Nat.le_of_ble_eq_true rfl) (Nat.le_of_ble_eq_true rfl) (by omega) 3 0 X W9 S s.heap _ ls (by omega) (fun j hj => absurd hj (Nat.not_lt_zero j)) h_vo h_po h_pn h_pp h_rw hW hfr hI (lv_sub hl [0, 1, 2, 3] rfl) (fun X1 W1 S4 H5 locs ls hpt h_vo h_po h_pn h_pp h_rw hW hfr hI hl => ?_)
  have h_yo := hfr _ _ _ y1 (by omega) (by omega)
  have h_yk := hfr _ _ _ y2 (by omega) (by omega)
  have h_yn := hfr _ _ _ y3 (by omega) (by omega)
  refine lv_aload hx hb d_B_value_48 (lv_at hl 2 rfl) ?_
  refine lv_aload_n hx hb d_B_value_50 rfl (lv_at hl 3 rfl) ?_
  refine mp_getN (C := R_V) (T := F_V) (N := 11) (v := .ref po) hx hb hg i_V hown hK.va hI h_vo rfl 10 (by decide) (hK.use q_275 rfl) (fun _ h9 => h9) rfl d_B_value_51 ?_
  refine mp_calli hI (va_runV (As := [.ref po]) (rest := []) ⟨hx, hb, hml, hown, hg⟩ (c_Y_valueAt l D g S4 _ po pn pp X1 W1 (eo k9) (ek k9) (en k9) (100 + 3 * k9) (cap k9) (pz k9) (kf k9) (nf k9) mo co h_po h_pn h_pp h_yo h_yk h_yn hW (pt1_S (hpt 0 (by decide)) (hpt 1 (by decide)) (hpt 2 (by decide))) (by omega) hz hcp hkk) ⟨(callB_of 1 hg (wd_goodG q_501) rfl rfl rfl (hg _ q_3) (hg _ q_796) (by decide +kernel) ⟨Nat.le_of_ble_eq_true rfl, Nat.le_of_ble_eq_true rfl⟩), hg _ q_499, hg _ q_500⟩ (mp_preV (C := R_Y) (T := F_Y) hI hK h_yo rfl [.ref po]) rfl rfl hl.1 rfl (lv_room (Nat.le_of_ble_eq_true rfl)) d_B_value_54 ⟨Nat.le_of_ble_eq_true rfl, Nat.le_of_ble_eq_true rfl⟩) (fun r9 S6 H7 locs p_8 hI => ?_)
  obtain ⟨er9, fq⟩ := p_8
  rw [(hpt 0 (by decide)).1, (hpt 1 (by decide)).1, (hpt 2 (by decide)).1] at er9
  have h_vo : S6 vo = some (10, .inr (7, [u0, u1, .ref qo, u3, .ref lz, u5, u6, .ref za, .ref mu9, .int (nI zc), .ref po])) := fq vo _ _ h_vo
  have h_po : S6 po = some (37, .inr (2, [.ref pn, .ref pp])) := fq po _ _ h_po
  have h_pn : S6 pn = some (38, .inl ((g 0), 3, .inl (fun j => nI (X1 j).val))) := fq pn _ _ h_pn
  have h_pp : S6 pp = some (39, .inl ((g 1), 3, .inr (.inr (.inr (.inr (rfs (fun ii => pp + 1 + ii) 3)))))) := fq pp _ _ h_pp
  have h_rw : S6 (za + 1 + z9) = some ((590 + z9), .inl ((g 0), 3, .inl (fun j => nI ((ZZ z9) j).val))) := fq (za + 1 + z9) _ _ h_rw
  have h_yo : S6 (eo k9) = some ((100 + 3 * k9), .inr (3, [.ref (ek k9), .ref (en k9), .int (nI (pz k9))])) := fq (eo k9) _ _ h_yo
  have h_yk : S6 (ek k9) = some ((100 + 3 * k9 + 1), .inl ((g 0), (cap k9), .inl (kf k9))) := fq (ek k9) _ _ h_yk
  have h_yn : S6 (en k9) = some ((100 + 3 * k9 + 2), .inl ((g 0), (cap k9), .inl (nf k9))) := fq (en k9) _ _ h_yn
  have hfr : ∀ b t e9, S b = some (t, e9) → (t ≠ 38) → ((t < 610 ∨ 613 ≤ t)) → S6 b = some (t, e9) := fun b t e9 h9 k0 k1 => by have h8 := hfr b t e9 h9 k0 k1; exact fq b _ _ h8
  have hW := rS_kept hW (S1 := S6) (fun b t9 e9 hb9 h1 h2 => by have h8 : S6 b = some (t9, e9) := fq b _ _ hb9; rw [h8, hb9])
  refine mp_iret hx hb hr hlocks hI (Nat.le_of_ble_eq_true rfl) (Nat.le_of_ble_eq_true rfl) ?_ d_B_value_57
  exact ⟨X1, W1, er9, h_pn, hW, hfr⟩
