theorem d_O_init_0 : decode b_O_init 0 = .ok (.aload_n 0, 1) := by decide +kernel
theorem d_O_init_1 : decode b_O_init 1 = .ok (.invokespecial 3, 3) := by decide +kernel
theorem d_O_init_4 : decode b_O_init 4 = .ok (.aload_n 0, 1) := by decide +kernel
theorem d_O_init_5 : decode b_O_init 5 = .ok (.bipush 33, 2) := by decide +kernel
theorem d_O_init_7 : decode b_O_init 7 = .ok (.newarray .int, 2) := by decide +kernel
theorem d_O_init_9 : decode b_O_init 9 = .ok (.putfield 9, 3) := by decide +kernel
theorem d_O_init_12 : decode b_O_init 12 = .ok (.aload_n 0, 1) := by decide +kernel
theorem d_O_init_13 : decode b_O_init 13 = .ok (.iconst (-1), 1) := by decide +kernel
theorem d_O_init_14 : decode b_O_init 14 = .ok (.putfield 15, 3) := by decide +kernel
theorem d_O_init_17 : decode b_O_init 17 = .ok (.return_, 1) := by decide +kernel
theorem d_Y_init_0 : decode b_Y_init 0 = .ok (.aload_n 0, 1) := by decide +kernel
theorem d_Y_init_1 : decode b_Y_init 1 = .ok (.invokespecial 3, 3) := by decide +kernel
theorem d_Y_init_4 : decode b_Y_init 4 = .ok (.aload_n 0, 1) := by decide +kernel
theorem d_Y_init_5 : decode b_Y_init 5 = .ok (.iconst 4, 1) := by decide +kernel
theorem d_Y_init_6 : decode b_Y_init 6 = .ok (.newarray .int, 2) := by decide +kernel
theorem d_Y_init_8 : decode b_Y_init 8 = .ok (.putfield 9, 3) := by decide +kernel
theorem d_Y_init_11 : decode b_Y_init 11 = .ok (.aload_n 0, 1) := by decide +kernel
theorem d_Y_init_12 : decode b_Y_init 12 = .ok (.iconst 4, 1) := by decide +kernel
theorem d_Y_init_13 : decode b_Y_init 13 = .ok (.newarray .int, 2) := by decide +kernel
theorem d_Y_init_15 : decode b_Y_init 15 = .ok (.putfield 15, 3) := by decide +kernel
theorem d_Y_init_18 : decode b_Y_init 18 = .ok (.return_, 1) := by decide +kernel
theorem d_Y_setZero_0 : decode b_Y_setZero 0 = .ok (.aload_n 0, 1) := by decide +kernel
theorem d_Y_setZero_1 : decode b_Y_setZero 1 = .ok (.iconst 0, 1) := by decide +kernel
theorem d_Y_setZero_2 : decode b_Y_setZero 2 = .ok (.putfield 18, 3) := by decide +kernel
theorem d_Y_setZero_5 : decode b_Y_setZero 5 = .ok (.return_, 1) := by decide +kernel
set_option maxHeartbeats 4000000 in
set_option maxRecDepth 100000 in
/-- a new polynomial in one letter -/
theorem c_O_init (l : Launch) (D : mp_G) (g : Nat → ClassId) (S : mp_M) (sz : Nat) (o t t1 : Nat) (h_o : S o = some (t, .inr (1, [.null, .int 0]))) (ht1 : t1 ≠ t) : Met l y_O_init w_O_init ({ frames := 1, cells := 1, slots := 33, locals := 12 }) (va_Pc [.ref o] (mp_B0 D classes (tys g) S sz)) (va_Qv (fun (S1 : mp_M) => ∃ a : Nat, sz ≤ a ∧ S1 o = some (t, .inr (1, [.ref a, .int (-1)])) ∧ S1 a = some (t1, .inl (g 0, 33, .inl (fun _ => 0))) ∧ (∀ b, S b ≠ none → b ≠ o → S1 b = S b)) (mp_B1 D classes S sz) (mp_A S sz)) 1 33 (mp_A S sz) := by
  refine Met.ofW (cc := b_O_init) (maxL := 1) (ret := none) (by decide) rfl ?_
  intro p e s m args below meth c s₁ B hml hv
  obtain ⟨rfl, hsz, hH, hK⟩ := hv
  have hx := B.exec
  have hb := B.bytes
  have hr := B.returns
  have hts := atoms_spec (ws := w_O_init) B.pre
  have hg : ∀ w ∈ gw, w.before _ s = true := fun w h => hts w (List.mem_cons_of_mem _ h)
  have hown : s.vm.findClass R_O = some m.cls := findClass_of_methodNamed B.named
  have hlocks := B.notSynchronized
  have hin : meth.name = "<init>" := (name_of_methodNamed B.named B.method).1
  subst hsz
  have hI := mp_I.start hH
  have hl := lv_entry ([.ref o]) (n := 1) (Nat.le_of_ble_eq_true rfl)
  rw [lg_entry_eq]
  generalize (lg_sl ([.ref o]) ++ List.replicate (1 - (lg_sl ([.ref o])).length) Slot.unset).toArray = ls at hl ⊢
  have hl : lv_has ls 1 [(0, .ref o)] := hl
  have hfr : ∀ b, S b ≠ none → b ≠ o → S b = S b := fun _ _ _ => rfl
  refine lv_aload_n hx hb d_O_init_0 rfl (lv_at hl 0 rfl) ?_
  refine W.objInit hx hb hown (hg _ q_135) (hg _ q_29) (hg _ q_30) rfl (by rw [hml]; exact hl.1) rfl d_O_init_1 (Nat.le_of_ble_eq_true rfl) (Nat.le_of_ble_eq_true rfl) ?_
  refine lv_aload_n hx hb d_O_init_4 rfl (lv_at hl 0 rfl) ?_
  refine lv_bipush (v := nI 33) hx hb d_O_init_5 (by decide) ?_
  have hI0 := hI
  refine mp_newi (N' := 33) hx hb (hg _ q_60) hK.va hI 0 t1 rfl (by decide) (by decide) (Nat.le_of_ble_eq_true rfl) (Nat.le_of_ble_eq_true rfl) (Nat.le_of_ble_eq_true rfl) d_O_init_7 (fun S1 H2 z_4 e_3 hI => ?_)
  obtain ⟨a5, ea5⟩ : ∃ z, z = s.heap.size := ⟨_, rfl⟩
  have g_a5 : s.heap.size ≤ a5 := by rw [ea5]; exact hI0.2.2.1.1
  rw [← ea5] at z_4 e_3
  refine W.eq (g2 := F0 m 9 ls [.ref a5, .ref o]) (by rw [ea5]) ?_
  have h_o : S1 o = some (t, .inr (1, [.null, .int 0])) := by rw [e_3]; exact mp_keepN h_o z_4
  have h_6 : S1 a5 = some (t1, .inl ((g 0), 33, .inl (fun _ => 0))) := by rw [e_3]; exact mp_us _ _ _
  have nb_a5 : ∀ b, S b ≠ none → b ≠ o → b ≠ a5 := fun b h9 k0 z9 => h9 ((hfr b h9 k0).symm.trans (by rw [z9]; exact z_4))
  have hfr : ∀ b, S b ≠ none → b ≠ o → S1 b = S b := fun b h9 k0 => by rw [e_3]; exact (mp_un (nb_a5 b h9 k0)).trans (hfr b h9 k0)
  refine mp_putF (C := R_O) (T := F_O) (N := 2) (v := .ref a5) (ty := .array .int) hx hb hg i_O t_O t_O_ok n_O hown hK.va hI h_o rfl 0 (by decide) (hg _ q_136) (fun _ h9 => h9) rfl hin rfl (by decide +kernel) (rfl) rfl (Nat.le_of_ble_eq_true rfl) d_O_init_9 (fun S7 H8 locs e_9 hI => ?_)
  have e_9 : S7 = va_up S1 o (some (t, .inr (1, [.ref a5, .int 0]))) := e_9
  have h_6 : S7 a5 = some (t1, .inl ((g 0), 33, .inl (fun _ => 0))) := by rw [e_9]; exact mp_keep h_6 h_o (by omega)
  have h_o : S7 o = some (t, .inr (1, [.ref a5, .int 0])) := by rw [e_9]; exact mp_us _ _ _
  have hfr : ∀ b, S b ≠ none → b ≠ o → S7 b = S b := fun b h9 k0 => by rw [e_9]; exact (mp_un k0).trans (hfr b h9 k0)
  refine lv_aload_n hx hb d_O_init_12 rfl (lv_at hl 0 rfl) ?_
  refine lv_iconst (v := (-1)) hx hb d_O_init_13 (by decide) ?_
  refine mp_put (C := R_O) (T := F_O) (N := 2) (v := .int (-1)) (ty := .int) hx hb hg i_O t_O t_O_ok n_O hown hK.va hI h_o rfl 1 (by decide) (hg _ q_138) (fun _ h9 => h9) rfl (by decide +kernel) (rfl) rfl (Nat.le_of_ble_eq_true rfl) d_O_init_14 (fun S10 H11 locs e_12 hI => ?_)
  have e_12 : S10 = va_up S7 o (some (t, .inr (1, [.ref a5, .int (-1)]))) := e_12
  have h_6 : S10 a5 = some (t1, .inl ((g 0), 33, .inl (fun _ => 0))) := by rw [e_12]; exact mp_keep h_6 h_o (by omega)
  have h_o : S10 o = some (t, .inr (1, [.ref a5, .int (-1)])) := by rw [e_12]; exact mp_us _ _ _
  have hfr : ∀ b, S b ≠ none → b ≠ o → S10 b = S b := fun b h9 k0 => by rw [e_12]; exact (mp_un k0).trans (hfr b h9 k0)
  refine mp_vret hx hb hr hlocks hI (by decide) (by decide) ?_ d_O_init_17
  exact ⟨a5, g_a5, h_o, h_6, hfr⟩
set_option maxHeartbeats 4000000 in
set_option maxRecDepth 100000 in
/-- a new polynomial -/
theorem c_Y_init (l : Launch) (D : mp_G) (g : Nat → ClassId) (S : mp_M) (sz : Nat) (o t t1 t2 : Nat) (h_o : S o = some (t, .inr (3, [.null, .null, .int 0]))) (ht1 : t1 ≠ t) (ht2 : t2 ≠ t) (ht12 : t1 ≠ t2) : Met l y_Y_init w_Y_init ({ frames := 1, cells := 2, slots := 8, locals := 12 }) (va_Pc [.ref o] (mp_B0 D classes (tys g) S sz)) (va_Qv (fun (S1 : mp_M) => ∃ a1 a2 : Nat, sz ≤ a1 ∧ sz ≤ a2 ∧ a1 ≠ a2 ∧ S1 o = some (t, .inr (3, [.ref a1, .ref a2, .int 0])) ∧ S1 a1 = some (t1, .inl (g 0, 4, .inl (fun _ => 0))) ∧ S1 a2 = some (t2, .inl (g 0, 4, .inl (fun _ => 0))) ∧ (∀ b, S b ≠ none → b ≠ o → S1 b = S b)) (mp_B1 D classes S sz) (mp_A S sz)) 2 8 (mp_A S sz) := by
  refine Met.ofW (cc := b_Y_init) (maxL := 1) (ret := none) (by decide) rfl ?_
  intro p e s m args below meth c s₁ B hml hv
  obtain ⟨rfl, hsz, hH, hK⟩ := hv
  have hx := B.exec
  have hb := B.bytes
  have hr := B.returns
  have hts := atoms_spec (ws := w_Y_init) B.pre
  have hg : ∀ w ∈ gw, w.before _ s = true := fun w h => hts w (List.mem_cons_of_mem _ h)
  have hown : s.vm.findClass R_Y = some m.cls := findClass_of_methodNamed B.named
  have hlocks := B.notSynchronized
  have hin : meth.name = "<init>" := (name_of_methodNamed B.named B.method).1
  subst hsz
  have hI := mp_I.start hH
  have hl := lv_entry ([.ref o]) (n := 1) (Nat.le_of_ble_eq_true rfl)
  rw [lg_entry_eq]
  generalize (lg_sl ([.ref o]) ++ List.replicate (1 - (lg_sl ([.ref o])).length) Slot.unset).toArray = ls at hl ⊢
  have hl : lv_has ls 1 [(0, .ref o)] := hl
  have hfr : ∀ b, S b ≠ none → b ≠ o → S b = S b := fun _ _ _ => rfl
  refine lv_aload_n hx hb d_Y_init_0 rfl (lv_at hl 0 rfl) ?_
  refine W.objInit hx hb hown (hg _ q_44) (hg _ q_29) (hg _ q_30) rfl (by rw [hml]; exact hl.1) rfl d_Y_init_1 (Nat.le_of_ble_eq_true rfl) (Nat.le_of_ble_eq_true rfl) ?_
  refine lv_aload_n hx hb d_Y_init_4 rfl (lv_at hl 0 rfl) ?_
  refine lv_iconst (v := nI 4) hx hb d_Y_init_5 (by decide) ?_
  have hI0 := hI
  refine mp_newi (N' := 4) hx hb (hg _ q_60) hK.va hI 0 t1 rfl (by decide) (by decide) (Nat.le_of_ble_eq_true rfl) (Nat.le_of_ble_eq_true rfl) (Nat.le_of_ble_eq_true rfl) d_Y_init_6 (fun S1 H2 z_4 e_3 hI => ?_)
  obtain ⟨a5, ea5⟩ : ∃ z, z = s.heap.size := ⟨_, rfl⟩
  have g_a5 : s.heap.size ≤ a5 := by rw [ea5]; exact hI0.2.2.1.1
  rw [← ea5] at z_4 e_3
  refine W.eq (g2 := F0 m 8 ls [.ref a5, .ref o]) (by rw [ea5]) ?_
  have h_o : S1 o = some (t, .inr (3, [.null, .null, .int 0])) := by rw [e_3]; exact mp_keepN h_o z_4
  have h_6 : S1 a5 = some (t1, .inl ((g 0), 4, .inl (fun _ => 0))) := by rw [e_3]; exact mp_us _ _ _
  have nb_a5 : ∀ b, S b ≠ none → b ≠ o → b ≠ a5 := fun b h9 k0 z9 => h9 ((hfr b h9 k0).symm.trans (by rw [z9]; exact z_4))
  have hfr : ∀ b, S b ≠ none → b ≠ o → S1 b = S b := fun b h9 k0 => by rw [e_3]; exact (mp_un (nb_a5 b h9 k0)).trans (hfr b h9 k0)
  refine mp_put (C := R_Y) (T := F_Y) (N := 3) (v := .ref a5) (ty := .array .int) hx hb hg i_Y t_Y t_Y_ok n_Y hown hK.va hI h_o rfl 0 (by decide) (hg _ q_45) (fun _ h9 => h9) rfl (by decide +kernel) (rfl) rfl (Nat.le_of_ble_eq_true rfl) d_Y_init_8 (fun S7 H8 locs e_9 hI => ?_)
  have e_9 : S7 = va_up S1 o (some (t, .inr (3, [.ref a5, .null, .int 0]))) := e_9
  have h_6 : S7 a5 = some (t1, .inl ((g 0), 4, .inl (fun _ => 0))) := by rw [e_9]; exact mp_keep h_6 h_o (by omega)
  have h_o : S7 o = some (t, .inr (3, [.ref a5, .null, .int 0])) := by rw [e_9]; exact mp_us _ _ _
  have hfr : ∀ b, S b ≠ none → b ≠ o → S7 b = S b := fun b h9 k0 => by rw [e_9]; exact (mp_un k0).trans (hfr b h9 k0)
  refine lv_aload_n hx hb d_Y_init_11 rfl (lv_at hl 0 rfl) ?_
  refine lv_iconst (v := nI 4) hx hb d_Y_init_12 (by decide) ?_
  have hI0 := hI
  refine mp_newi (N' := 4) hx hb (hg _ q_60) hK.va hI 0 t2 rfl (by decide) (by decide) (Nat.le_of_ble_eq_true rfl) (Nat.le_of_ble_eq_true rfl) (Nat.le_of_ble_eq_true rfl) d_Y_init_13 (fun S10 H11 z_13 e_12 hI => ?_)
  obtain ⟨a14, ea14⟩ : ∃ z, z = H8.size := ⟨_, rfl⟩
  have g_a14 : s.heap.size ≤ a14 := by rw [ea14]; exact hI0.2.2.1.1
  rw [← ea14] at z_13 e_12
  refine W.eq (g2 := F0 m 15 ls [.ref a14, .ref o]) (by rw [ea14]) ?_
  have h_o : S10 o = some (t, .inr (3, [.ref a5, .null, .int 0])) := by rw [e_12]; exact mp_keepN h_o z_13
  have h_6 : S10 a5 = some (t1, .inl ((g 0), 4, .inl (fun _ => 0))) := by rw [e_12]; exact mp_keepN h_6 z_13
  have h_15 : S10 a14 = some (t2, .inl ((g 0), 4, .inl (fun _ => 0))) := by rw [e_12]; exact mp_us _ _ _
  have nb_a14 : ∀ b, S b ≠ none → b ≠ o → b ≠ a14 := fun b h9 k0 z9 => h9 ((hfr b h9 k0).symm.trans (by rw [z9]; exact z_13))
  have hfr : ∀ b, S b ≠ none → b ≠ o → S10 b = S b := fun b h9 k0 => by rw [e_12]; exact (mp_un (nb_a14 b h9 k0)).trans (hfr b h9 k0)
  refine mp_put (C := R_Y) (T := F_Y) (N := 3) (v := .ref a14) (ty := .array .int) hx hb hg i_Y t_Y t_Y_ok n_Y hown hK.va hI h_o rfl 1 (by decide) (hg _ q_48) (fun _ h9 => h9) rfl (by decide +kernel) (rfl) rfl (Nat.le_of_ble_eq_true rfl) d_Y_init_15 (fun S16 H17 locs e_18 hI => ?_)
  have e_18 : S16 = va_up S10 o (some (t, .inr (3, [.ref a5, .ref a14, .int 0]))) := e_18
  have h_6 : S16 a5 = some (t1, .inl ((g 0), 4, .inl (fun _ => 0))) := by rw [e_18]; exact mp_keep h_6 h_o (by omega)
  have h_15 : S16 a14 = some (t2, .inl ((g 0), 4, .inl (fun _ => 0))) := by rw [e_18]; exact mp_keep h_15 h_o (by omega)
  have h_o : S16 o = some (t, .inr (3, [.ref a5, .ref a14, .int 0])) := by rw [e_18]; exact mp_us _ _ _
  have hfr : ∀ b, S b ≠ none → b ≠ o → S16 b = S b := fun b h9 k0 => by rw [e_18]; exact (mp_un k0).trans (hfr b h9 k0)
  refine mp_vret hx hb hr hlocks hI (by decide) (by decide) ?_ d_Y_init_18
  exact ⟨a5, a14, g_a5, g_a14, mp_ne h_6 h_15 ht12, h_o, h_6, h_15, hfr⟩
set_option maxHeartbeats 4000000 in
set_option maxRecDepth 100000 in
/-- a polynomial becomes 0 -/
theorem c_Y_setZero (l : Launch) (D : mp_G) (g : Nat → ClassId) (S : mp_M) (sz : Nat) (o t a1 a2 : Nat) (n : Int32) (h_o : S o = some (t, .inr (3, [.ref a1, .ref a2, .int n])))  : Met l y_Y_setZero w_Y_setZero ({ frames := 0, cells := 0, slots := 0, locals := 0 }) (va_Pc [.ref o] (mp_B0 D classes (tys g) S sz)) (va_Qv (fun (S1 : mp_M) => S1 = va_up S o (some (t, .inr (3, [.ref a1, .ref a2, .int 0])))) (mp_B1 D classes S sz) (mp_A S sz)) 0 0 (mp_A S sz) := by
  refine Met.ofW (cc := b_Y_setZero) (maxL := 1) (ret := none) (by decide) rfl ?_
  intro p e s m args below meth c s₁ B hml hv
  obtain ⟨rfl, hsz, hH, hK⟩ := hv
  have hx := B.exec
  have hb := B.bytes
  have hr := B.returns
  have hts := atoms_spec (ws := w_Y_setZero) B.pre
  have hg : ∀ w ∈ gw, w.before _ s = true := fun w h => hts w (List.mem_cons_of_mem _ h)
  have hown : s.vm.findClass R_Y = some m.cls := findClass_of_methodNamed B.named
  have hlocks := B.notSynchronized
  subst hsz
  have hI := mp_I.start hH
  have hl := lv_entry ([.ref o]) (n := 1) (Nat.le_of_ble_eq_true rfl)
  rw [lg_entry_eq]
  generalize (lg_sl ([.ref o]) ++ List.replicate (1 - (lg_sl ([.ref o])).length) Slot.unset).toArray = ls at hl ⊢
  have hl : lv_has ls 1 [(0, .ref o)] := hl
  refine lv_aload_n hx hb d_Y_setZero_0 rfl (lv_at hl 0 rfl) ?_
  refine lv_iconst (v := nI 0) hx hb d_Y_setZero_1 (by decide) ?_
  refine mp_put (C := R_Y) (T := F_Y) (N := 3) (v := .int (nI 0)) (ty := .int) hx hb hg i_Y t_Y t_Y_ok n_Y hown hK.va hI h_o rfl 2 (by decide) (hg _ q_51) (fun _ h9 => h9) rfl (by decide +kernel) (rfl) rfl (Nat.le_of_ble_eq_true rfl) d_Y_setZero_2 (fun S1 H2 locs e_3 hI => ?_)
  have e_3 : S1 = va_up S o (some (t, .inr (3, [.ref a1, .ref a2, .int (nI 0)]))) := e_3
  have h_o : S1 o = some (t, .inr (3, [.ref a1, .ref a2, .int (nI 0)])) := by rw [e_3]; exact mp_us _ _ _
  refine mp_vret hx hb hr hlocks hI (by decide) (by decide) ?_ d_Y_setZero_5
  exact e_3
