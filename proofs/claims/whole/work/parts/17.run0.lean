theorem d_B_run_0 : decode b_B_run 0 = .ok (.aload_n 0, 1) := by decide +kernel
theorem d_B_run_1 : decode b_B_run 1 = .ok (.getfield 91, 3) := by decide +kernel
theorem d_B_run_4 : decode b_B_run 4 = .ok (.ifCond .ne 49, 3) := by decide +kernel
theorem d_B_run_7 : decode b_B_run 7 = .ok (.aload_n 0, 1) := by decide +kernel
theorem d_B_run_8 : decode b_B_run 8 = .ok (.getfield 95, 3) := by decide +kernel
theorem d_B_run_11 : decode b_B_run 11 = .ok (.ifnonnull 18, 3) := by decide +kernel
theorem d_B_run_14 : decode b_B_run 14 = .ok (.aload_n 0, 1) := by decide +kernel
theorem d_B_run_15 : decode b_B_run 15 = .ok (.new 99, 3) := by decide +kernel
theorem d_B_run_18 : decode b_B_run 18 = .ok (.dup, 1) := by decide +kernel
theorem d_B_run_19 : decode b_B_run 19 = .ok (.aload_n 0, 1) := by decide +kernel
theorem d_B_run_20 : decode b_B_run 20 = .ok (.getfield 35, 3) := by decide +kernel
theorem d_B_run_23 : decode b_B_run 23 = .ok (.invokespecial 101, 3) := by decide +kernel
theorem d_B_run_26 : decode b_B_run 26 = .ok (.putfield 95, 3) := by decide +kernel
theorem d_B_run_29 : decode b_B_run 29 = .ok (.aload_n 0, 1) := by decide +kernel
theorem d_B_run_30 : decode b_B_run 30 = .ok (.invokevirtual 104, 3) := by decide +kernel
theorem d_B_run_33 : decode b_B_run 33 = .ok (.aload_n 0, 1) := by decide +kernel
theorem d_B_run_34 : decode b_B_run 34 = .ok (.aload_n 0, 1) := by decide +kernel
theorem d_B_run_35 : decode b_B_run 35 = .ok (.getfield 95, 3) := by decide +kernel
theorem d_B_run_38 : decode b_B_run 38 = .ok (.aload_n 0, 1) := by decide +kernel
theorem d_B_run_39 : decode b_B_run 39 = .ok (.getfield 18, 3) := by decide +kernel
theorem d_B_run_42 : decode b_B_run 42 = .ok (.invokevirtual 107, 3) := by decide +kernel
theorem d_B_run_45 : decode b_B_run 45 = .ok (.putfield 111, 3) := by decide +kernel
theorem d_B_run_48 : decode b_B_run 48 = .ok (.aload_n 0, 1) := by decide +kernel
theorem d_B_run_49 : decode b_B_run 49 = .ok (.iconst 1, 1) := by decide +kernel
theorem d_B_run_50 : decode b_B_run 50 = .ok (.putfield 91, 3) := by decide +kernel
theorem d_B_run_53 : decode b_B_run 53 = .ok (.aload_n 0, 1) := by decide +kernel
theorem d_B_run_54 : decode b_B_run 54 = .ok (.getfield 111, 3) := by decide +kernel
theorem d_B_run_57 : decode b_B_run 57 = .ok (.ireturn, 1) := by decide +kernel
theorem d_D_isBasis_0 : decode b_D_isBasis 0 = .ok (.iconst 0, 1) := by decide +kernel
theorem d_D_isBasis_1 : decode b_D_isBasis 1 = .ok (.istore_n 2, 1) := by decide +kernel
theorem d_D_isBasis_2 : decode b_D_isBasis 2 = .ok (.iload_n 2, 1) := by decide +kernel
theorem d_D_isBasis_3 : decode b_D_isBasis 3 = .ok (.aload_n 1, 1) := by decide +kernel
theorem d_D_isBasis_4 : decode b_D_isBasis 4 = .ok (.getfield 24, 3) := by decide +kernel
theorem d_D_isBasis_7 : decode b_D_isBasis 7 = .ok (.if_icmp .ge 57, 3) := by decide +kernel
theorem d_D_isBasis_64 : decode b_D_isBasis 64 = .ok (.iconst 1, 1) := by decide +kernel
theorem d_D_isBasis_65 : decode b_D_isBasis 65 = .ok (.ireturn, 1) := by decide +kernel
theorem d_V_solve_0 : decode b_V_solve 0 = .ok (.aload_n 0, 1) := by decide +kernel
theorem d_V_solve_1 : decode b_V_solve 1 = .ok (.iconst 0, 1) := by decide +kernel
theorem d_V_solve_2 : decode b_V_solve 2 = .ok (.putfield 67, 3) := by decide +kernel
theorem d_V_solve_5 : decode b_V_solve 5 = .ok (.aload_n 0, 1) := by decide +kernel
theorem d_V_solve_6 : decode b_V_solve 6 = .ok (.getfield 55, 3) := by decide +kernel
theorem d_V_solve_9 : decode b_V_solve 9 = .ok (.aload_n 1, 1) := by decide +kernel
theorem d_V_solve_10 : decode b_V_solve 10 = .ok (.invokevirtual 70, 3) := by decide +kernel
theorem d_V_solve_13 : decode b_V_solve 13 = .ok (.ifCond .ne 5, 3) := by decide +kernel
theorem d_V_solve_18 : decode b_V_solve 18 = .ok (.aload_n 1, 1) := by decide +kernel
theorem d_V_solve_19 : decode b_V_solve 19 = .ok (.aload_n 0, 1) := by decide +kernel
theorem d_V_solve_20 : decode b_V_solve 20 = .ok (.getfield 46, 3) := by decide +kernel
theorem d_V_solve_23 : decode b_V_solve 23 = .ok (.invokevirtual 74, 3) := by decide +kernel
theorem d_V_solve_26 : decode b_V_solve 26 = .ok (.ifCond .ne 6, 3) := by decide +kernel
theorem d_V_solve_29 : decode b_V_solve 29 = .ok (.bipush (-2), 2) := by decide +kernel
theorem d_V_solve_31 : decode b_V_solve 31 = .ok (.ireturn, 1) := by decide +kernel
set_option maxHeartbeats 4000000 in
set_option maxRecDepth 100000 in
/-- an empty list is a basis -/
theorem c_D_isBasis0 (l : Launch) (D : mp_G) (g : Nat → ClassId) (S : mp_M) (sz : Nat) (o lo hd : Nat) (w0 w1 u0 : Value) (h_o : S o = some (11, .inr (5, [w0, w1]))) (h_lo : S lo = some (2, .inr (9, [u0, .ref hd, .int 0])))  : Met l y_D_isBasis w_D_isBasis ({ frames := 0, cells := 0, slots := 0, locals := 0 }) (va_Pc [.ref o, .ref lo] (mp_B0 D classes (tys g) S sz)) (va_Qi (fun (r : Int32) (S1 : mp_M) => r = 1 ∧ S1 = S) (mp_B1 D classes S sz) (mp_A S sz)) 0 0 (mp_A S sz) := by
  refine Met.ofW (cc := b_D_isBasis) (maxL := 4) (ret := (some .boolean)) (by decide) rfl ?_
  intro p e s m args below meth c s₁ B hml hv
  obtain ⟨rfl, hsz, hH, hK⟩ := hv
  have hx := B.exec
  have hb := B.bytes
  have hr := B.returns
  have hts := atoms_spec (ws := w_D_isBasis) B.pre
  have hg : ∀ w ∈ gw, w.before _ s = true := fun w h => hts w (List.mem_cons_of_mem _ h)
  have hown : s.vm.findClass R_D = some m.cls := findClass_of_methodNamed B.named
  have hlocks := B.notSynchronized
  subst hsz
  have hI := mp_I.start hH
  have hl := lv_entry ([.ref o, .ref lo]) (n := 4) (Nat.le_of_ble_eq_true rfl)
  rw [lg_entry_eq]
  generalize (lg_sl ([.ref o, .ref lo]) ++ List.replicate (4 - (lg_sl ([.ref o, .ref lo])).length) Slot.unset).toArray = ls at hl ⊢
  have hl : lv_has ls 4 [(0, .ref o), (1, .ref lo)] := hl
  refine lv_iconst (v := nI 0) hx hb d_D_isBasis_0 (by decide) ?_
  refine lv_istore_n (lv' := [(2, .int (nI 0)), (0, .ref o), (1, .ref lo)]) hx hb d_D_isBasis_1 rfl hl (by decide) rfl (fun ls hl => ?_)
  refine lv_iload_n hx hb d_D_isBasis_2 rfl (lv_at hl 0 rfl) ?_
  refine lv_aload_n hx hb d_D_isBasis_3 rfl (lv_at hl 2 rfl) ?_
  refine mp_getN (C := R_K) (T := F_K) (N := 3) (v := .int 0) hx hb hg i_K hown hK.va hI h_lo rfl 2 (by decide) (hK.use q_65 rfl) (fun _ h9 => h9) rfl d_D_isBasis_4 ?_
  refine lv_icmp_ge (tgt := 64) hx hb d_D_isBasis_7 (by decide) (fun _ => ?_) (fun h9 => absurd (by decide) h9)
  refine lv_iconst (v := nI 1) hx hb d_D_isBasis_64 (by decide) ?_
  refine mp_zret hx hb hr hlocks hI (by decide) (by decide) ?_ (by decide) d_D_isBasis_65
  exact ⟨rfl, rfl⟩
set_option maxHeartbeats 4000000 in
set_option maxRecDepth 100000 in
/-- an empty list is not finite -/
theorem c_V_solve0 (l : Launch) (D : mp_G) (g : Nat → ClassId) (S : mp_M) (sz : Nat) (o dr lo hd nl : Nat) (x2 x3 x4 x5 x6 x7 x8 x10 w0 w1 u0 : Value) (z0 : Int32) (hf : Nat → Int32) (h_o : S o = some (10, .inr (7, [.int (nI nl), .ref dr, x2, x3, x4, x5, x6, x7, x8, .int z0, x10]))) (h_dr : S dr = some (11, .inr (5, [w0, w1]))) (h_lo : S lo = some (2, .inr (9, [u0, .ref hd, .int 0]))) (h_hd : S hd = some (5, .inl ((g 0), 12, .inl hf))) (hnl : nl ≤ 3) (hn1 : 1 ≤ nl) : Met l y_V_solve w_V_solve ({ frames := 3, cells := 0, slots := 0, locals := 67 }) (va_Pc [.ref o, .ref lo] (mp_B0 D classes (tys g) S sz)) (va_Qi (fun (r : Int32) (S1 : mp_M) => r = -2 ∧ S1 o = some (10, .inr (7, [.int (nI nl), .ref dr, x2, x3, x4, x5, x6, x7, x8, .int 0, x10])) ∧ (∀ b, S b ≠ none → b ≠ o → S1 b = S b)) (mp_B1 D classes S sz) (mp_A S sz)) 0 0 (mp_A S sz) := by
  refine Met.ofW (cc := b_V_solve) (maxL := 3) (ret := (some .int)) (by decide) rfl ?_
  intro p e s m args below meth c s₁ B hml hv
  obtain ⟨rfl, hsz, hH, hK⟩ := hv
  have hx := B.exec
  have hb := B.bytes
  have hr := B.returns
  have hts := atoms_spec (ws := w_V_solve) B.pre
  have hg : ∀ w ∈ gw, w.before _ s = true := fun w h => hts w (List.mem_cons_of_mem _ h)
  have hown : s.vm.findClass R_V = some m.cls := findClass_of_methodNamed B.named
  have hlocks := B.notSynchronized
  subst hsz
  have hI := mp_I.start hH
  have hl := lv_entry ([.ref o, .ref lo]) (n := 3) (Nat.le_of_ble_eq_true rfl)
  rw [lg_entry_eq]
  generalize (lg_sl ([.ref o, .ref lo]) ++ List.replicate (3 - (lg_sl ([.ref o, .ref lo])).length) Slot.unset).toArray = ls at hl ⊢
  have hl : lv_has ls 3 [(0, .ref o), (1, .ref lo)] := hl
  have hfr : ∀ b, S b ≠ none → b ≠ o → S b = S b := fun _ _ _ => rfl
  refine lv_aload_n hx hb d_V_solve_0 rfl (lv_at hl 0 rfl) ?_
  refine lv_iconst (v := nI 0) hx hb d_V_solve_1 (by decide) ?_
  refine mp_put (C := R_V) (T := F_V) (N := 11) (v := .int (nI 0)) (ty := .int) hx hb hg i_V t_V t_V_ok n_V hown hK.va hI h_o rfl 9 (by decide) (hg _ q_272) (fun _ h9 => h9) rfl (by decide +kernel) (rfl) rfl (Nat.le_of_ble_eq_true rfl) d_V_solve_2 (fun S1 H2 locs e_3 hI => ?_)
  have e_3 : S1 = va_up S o (some (10, .inr (7, [.int (nI nl), .ref dr, x2, x3, x4, x5, x6, x7, x8, .int (nI 0), x10]))) := e_3
  have h_dr : S1 dr = some (11, .inr (5, [w0, w1])) := by rw [e_3]; exact mp_keep h_dr h_o (by decide)
  have h_lo : S1 lo = some (2, .inr (9, [u0, .ref hd, .int 0])) := by rw [e_3]; exact mp_keep h_lo h_o (by decide)
  have h_hd : S1 hd = some (5, .inl ((g 0), 12, .inl hf)) := by rw [e_3]; exact mp_keep h_hd h_o (by decide)
  have h_o : S1 o = some (10, .inr (7, [.int (nI nl), .ref dr, x2, x3, x4, x5, x6, x7, x8, .int (nI 0), x10])) := by rw [e_3]; exact mp_us _ _ _
  have hfr : ∀ b, S b ≠ none → b ≠ o → S1 b = S b := fun b h9 k0 => by rw [e_3]; exact (mp_un k0).trans (hfr b h9 k0)
  refine lv_aload_n hx hb d_V_solve_5 rfl (lv_at hl 0 rfl) ?_
  refine mp_get (C := R_V) (T := F_V) (N := 11) (v := .ref dr) hx hb hg i_V hown hK.va hI h_o rfl 1 (by decide) (hg _ q_260) (fun _ h9 => h9) rfl d_V_solve_6 ?_
  refine lv_aload_n hx hb d_V_solve_9 rfl (lv_at hl 1 rfl) ?_
  refine mp_calli hI (va_runV (As := [.ref lo]) (rest := []) ⟨hx, hb, hml, hown, hg⟩ (c_D_isBasis0 l D g S1 _ dr lo hd w0 w1 u0 h_dr h_lo) ⟨(callB_of 1 hg (wd_goodG q_320) rfl rfl rfl (hg _ q_20) (hg _ q_317) (by decide +kernel) ⟨Nat.le_of_ble_eq_true rfl, Nat.le_of_ble_eq_true rfl⟩), hg _ q_318, hg _ q_319⟩ (mp_preV (C := R_D) (T := F_D) hI hK h_dr rfl [.ref lo]) rfl rfl hl.1 rfl (lv_room (Nat.le_of_ble_eq_true rfl)) d_V_solve_10 ⟨Nat.le_of_ble_eq_true rfl, Nat.le_of_ble_eq_true rfl⟩) (fun r7 S4 H5 locs p_6 hI => ?_)
  obtain ⟨er7, eS8⟩ := p_6
  rw [eS8] at hI
  have er7 : r7 = 1 := er7
  subst er7
  refine lv_if_ne (tgt := 18) hx hb d_V_solve_13 (by decide) (fun _ => ?_) (fun h9 => absurd h9 (by decide))
  refine lv_aload_n hx hb d_V_solve_18 rfl (lv_at hl 1 rfl) ?_
  refine lv_aload_n hx hb d_V_solve_19 rfl (lv_at hl 0 rfl) ?_
  refine mp_get (C := R_V) (T := F_V) (N := 11) (v := .int (nI nl)) hx hb hg i_V hown hK.va hI h_o rfl 0 (by decide) (hg _ q_259) (fun _ h9 => h9) rfl d_V_solve_20 ?_
  refine mp_calli hI (va_runV (As := [.int (nI nl)]) (rest := []) ⟨hx, hb, hml, hown, hg⟩ (c_K_isFinite l D g S1 _ lo hd 0 nl u0 hf (fun _ => 0) (fun _ => 0) (fun _ => 0) h_lo h_hd (fun i h => absurd h (Nat.not_lt_zero i)) (by decide) hnl) ⟨(callB_of 1 hg (wd_goodG q_361) rfl rfl rfl (hg _ q_2) (hg _ q_358) (by decide +kernel) ⟨Nat.le_of_ble_eq_true rfl, Nat.le_of_ble_eq_true rfl⟩), hg _ q_359, hg _ q_360⟩ (mp_preV (C := R_K) (T := F_K) hI hK h_lo rfl [.int (nI nl)]) rfl rfl hl.1 rfl (lv_room (Nat.le_of_ble_eq_true rfl)) d_V_solve_23 ⟨Nat.le_of_ble_eq_true rfl, Nat.le_of_ble_eq_true rfl⟩) (fun r12 S9 H10 locs p_11 hI => ?_)
  obtain ⟨er12, eS13⟩ := p_11
  rw [eS13] at hI
  rcases er12 with ⟨_, hbd⟩ | ⟨rfl, _⟩
  · obtain ⟨i9, h9, _⟩ := hbd 0 hn1
    exact absurd h9 (Nat.not_lt_zero i9)
  · refine lv_if_ne (tgt := 32) hx hb d_V_solve_26 (by decide) (fun h9 => absurd h9 (by decide)) (fun _ => ?_)
    refine lv_bipush (v := (-2)) hx hb d_V_solve_29 (by decide) ?_
    refine mp_iret hx hb hr hlocks hI (by decide) (by decide) ?_ d_V_solve_31
    exact ⟨rfl, h_o, hfr⟩
set_option maxHeartbeats 4000000 in
set_option maxRecDepth 100000 in
/-- run on a new object -/
theorem c_B_run0 (l : Launch) (D : mp_G) (g : Nat → ClassId) (S : mp_M) (sz : Nat) (o lo hd fa nl : Nat) (v1 v4 v5 u0 : Value) (fc0 av0 : Int32) (ff hf : Nat → Int32) (h_o : S o = some (0, .inr (0, [.int (nI nl), v1, .ref lo, .ref fa, v4, v5, .int fc0, .int 0, .int av0, .null]))) (h_lo : S lo = some (2, .inr (9, [u0, .ref hd, .int 0]))) (h_hd : S hd = some (5, .inl ((g 0), 12, .inl hf))) (h_fa : S fa = some (3, .inl ((g 0), 3, .inl ff))) (hnl : nl ≤ 3) (hn1 : 1 ≤ nl) : Met l y_B_run w_B_run ({ frames := 5, cells := 189, slots := 11130, locals := 89 }) (va_Pc [.ref o] (mp_B0 D classes (tys g) S sz)) (va_Qi (fun (r : Int32) (S1 : mp_M) => r = -2 ∧ (∀ b, S b ≠ none → b ≠ o → b ≠ fa → S1 b = S b)) (mp_B1 D classes S sz) (mp_A S sz)) 189 11130 (mp_A S sz) := by
  refine Met.ofW (cc := b_B_run) (maxL := 1) (ret := (some .int)) (by decide) rfl ?_
  intro p e s m args below meth c s₁ B hml hv
  obtain ⟨rfl, hsz, hH, hK⟩ := hv
  have hx := B.exec
  have hb := B.bytes
  have hr := B.returns
  have hts := atoms_spec (ws := w_B_run) B.pre
  have hg : ∀ w ∈ gw, w.before _ s = true := fun w h => hts w (List.mem_cons_of_mem _ h)
  have hown : s.vm.findClass R_B = some m.cls := findClass_of_methodNamed B.named
  have hlocks := B.notSynchronized
  subst hsz
  have hI := mp_I.start hH
  have hl := lv_entry ([.ref o]) (n := 1) (Nat.le_of_ble_eq_true rfl)
  rw [lg_entry_eq]
  generalize (lg_sl ([.ref o]) ++ List.replicate (1 - (lg_sl ([.ref o])).length) Slot.unset).toArray = ls at hl ⊢
  have hl : lv_has ls 1 [(0, .ref o)] := hl
  have hfr : ∀ b, S b ≠ none → b ≠ o → b ≠ fa → S b = S b := fun _ _ _ _ => rfl
  refine lv_aload_n hx hb d_B_run_0 rfl (lv_at hl 0 rfl) ?_
  refine mp_get (C := R_B) (T := F_B) (N := 10) (v := .int 0) hx hb hg i_B hown hK.va hI h_o rfl 7 (by decide) (hg _ q_89) (fun _ h9 => h9) rfl d_B_run_1 ?_
  refine lv_if_ne (tgt := 53) hx hb d_B_run_4 (by decide) (fun h9 => absurd h9 (by decide)) (fun _ => ?_)
  refine lv_aload_n hx hb d_B_run_7 rfl (lv_at hl 0 rfl) ?_
  refine mp_get (C := R_B) (T := F_B) (N := 10) (v := .null) hx hb hg i_B hown hK.va hI h_o rfl 9 (by decide) (hg _ q_91) (fun _ h9 => h9) rfl d_B_run_8 ?_
  refine lv_ifnonnullN hx hb d_B_run_11 ?_
  refine lv_aload_n hx hb d_B_run_14 rfl (lv_at hl 0 rfl) ?_
  have hI0 := hI
  refine mp_new (C := R_V) (T := F_V) (N := 11) (ci := 7) (fs := [.int 0, .null, .null, .null, .null, .null, .null, .null, .null, .int 0, .null]) hx hb hg i_V t_V t_V_ok hown (hg _ q_117) (hg _ q_118) (hg _ q_16) hK.va hI 10 rfl (fun j hj => by rcases (show j = 0 ∨ j = 1 ∨ j = 2 ∨ j = 3 ∨ j = 4 ∨ j = 5 ∨ j = 6 ∨ j = 7 ∨ j = 8 ∨ j = 9 ∨ j = 10 by omega) with rfl | rfl | rfl | rfl | rfl | rfl | rfl | rfl | rfl | rfl | rfl <;> rfl) (Nat.le_of_ble_eq_true rfl) (Nat.le_of_ble_eq_true rfl) d_B_run_15 (fun S1 H2 z_4 e_3 hI => ?_)
  obtain ⟨a5, ea5⟩ : ∃ z, z = s.heap.size := ⟨_, rfl⟩
  have g_a5 : s.heap.size ≤ a5 := by rw [ea5]; exact hI0.2.2.1.1
  rw [← ea5] at z_4 e_3
  refine W.eq (g2 := F0 m 18 ls [.ref a5, .ref o]) (by rw [ea5]) ?_
  have h_o : S1 o = some (0, .inr (0, [.int (nI nl), v1, .ref lo, .ref fa, v4, v5, .int fc0, .int 0, .int av0, .null])) := by rw [e_3]; exact mp_keepN h_o z_4
  have h_lo : S1 lo = some (2, .inr (9, [u0, .ref hd, .int 0])) := by rw [e_3]; exact mp_keepN h_lo z_4
  have h_hd : S1 hd = some (5, .inl ((g 0), 12, .inl hf)) := by rw [e_3]; exact mp_keepN h_hd z_4
  have h_fa : S1 fa = some (3, .inl ((g 0), 3, .inl ff)) := by rw [e_3]; exact mp_keepN h_fa z_4
  have h_6 : S1 a5 = some (10, .inr (7, [.int 0, .null, .null, .null, .null, .null, .null, .null, .null, .int 0, .null])) := by rw [e_3]; exact mp_us _ _ _
  have nb_a5 : ∀ b, S b ≠ none → b ≠ o → b ≠ fa → b ≠ a5 := fun b h9 k0 k1 z9 => h9 ((hfr b h9 k0 k1).symm.trans (by rw [z9]; exact z_4))
  have hfr : ∀ b, S b ≠ none → b ≠ o → b ≠ fa → S1 b = S b := fun b h9 k0 k1 => by rw [e_3]; exact (mp_un (nb_a5 b h9 k0 k1)).trans (hfr b h9 k0 k1)
  refine lv_dup hx hb d_B_run_18 rfl ?_
  refine lv_aload_n hx hb d_B_run_19 rfl (lv_at hl 0 rfl) ?_
  refine mp_get (C := R_B) (T := F_B) (N := 10) (v := .int (nI nl)) hx hb hg i_B hown hK.va hI h_o rfl 0 (by decide) (hg _ q_82) (fun _ h9 => h9) rfl d_B_run_20 ?_
  refine mp_callv hI (va_runI (As := [.int (nI nl)]) (rest := [.ref a5, .ref o]) ⟨hx, hb, hml, hown, hg⟩ (c_V_init l D g S1 _ a5 nl h_6 hnl) ⟨(callB_of 1 hg (wd_goodG q_121) rfl rfl rfl (hg _ q_16) (hg _ q_119) (by decide +kernel) ⟨Nat.le_of_ble_eq_true rfl, Nat.le_of_ble_eq_true rfl⟩), rfl, hg _ q_120⟩ (mp_pre hI hK ([.ref a5, .int (nI nl)])) rfl rfl hl.1 rfl (lv_room (Nat.le_of_ble_eq_true rfl)) d_B_run_23 ⟨Nat.le_of_ble_eq_true rfl, Nat.le_of_ble_eq_true rfl⟩) (fun S7 H8 locs p_9 hI => ?_)
  obtain ⟨ad, eo, ea, lo9, la, kp, hvF, fv⟩ := p_9
  have hv_o := hvF.1
  have hv_d := hvF.2.1
  have h_o : S7 o = some (0, .inr (0, [.int (nI nl), v1, .ref lo, .ref fa, v4, v5, .int fc0, .int 0, .int av0, .null])) := (fv o (mp_in h_o) (mp_ne h_o h_6 (by decide))).trans h_o
  have h_lo : S7 lo = some (2, .inr (9, [u0, .ref hd, .int 0])) := (fv lo (mp_in h_lo) (mp_ne h_lo h_6 (by decide))).trans h_lo
  have h_hd : S7 hd = some (5, .inl ((g 0), 12, .inl hf)) := (fv hd (mp_in h_hd) (mp_ne h_hd h_6 (by decide))).trans h_hd
  have h_fa : S7 fa = some (3, .inl ((g 0), 3, .inl ff)) := (fv fa (mp_in h_fa) (mp_ne h_fa h_6 (by decide))).trans h_fa
  have hfr : ∀ b, S b ≠ none → b ≠ o → b ≠ fa → S7 b = S b := fun b h9 k0 k1 => (fv b (by rw [hfr b h9 k0 k1]; exact h9) (nb_a5 b h9 k0 k1)).trans (hfr b h9 k0 k1)
  refine mp_put (C := R_B) (T := F_B) (N := 10) (v := .ref a5) (ty := .object "SolutionBoxes$Solver") hx hb hg i_B t_B t_B_ok n_B hown hK.va hI h_o rfl 9 (by decide) (hg _ q_91) (fun _ h9 => h9) rfl (by decide +kernel) (rfl) rfl (Nat.le_of_ble_eq_true rfl) d_B_run_26 (fun S11 H12 locs e_13 hI => ?_)
  have e_13 : S11 = va_up S7 o (some (0, .inr (0, [.int (nI nl), v1, .ref lo, .ref fa, v4, v5, .int fc0, .int 0, .int av0, .ref a5]))) := e_13
  have h_lo : S11 lo = some (2, .inr (9, [u0, .ref hd, .int 0])) := by rw [e_13]; exact mp_keep h_lo h_o (by decide)
  have h_hd : S11 hd = some (5, .inl ((g 0), 12, .inl hf)) := by rw [e_13]; exact mp_keep h_hd h_o (by decide)
  have h_fa : S11 fa = some (3, .inl ((g 0), 3, .inl ff)) := by rw [e_13]; exact mp_keep h_fa h_o (by decide)
  have hv_o : S11 a5 = some (10, .inr (7, [.int (nI nl), .ref (ad 11), .ref (ad 14), .ref (ad 30), .ref (ad 32), .ref (ad 33), .ref (ad 34), .ref (ad 35), .ref (ad 36), .int 0, .ref (ad 37)])) := by rw [e_13]; exact mp_keep hv_o h_o (by decide)
  have hv_d : S11 (ad 11) = some (11, .inr (5, [.ref (ad 12), .ref (ad 13)])) := by rw [e_13]; exact mp_keep hv_d h_o (by decide)
  have h_o : S11 o = some (0, .inr (0, [.int (nI nl), v1, .ref lo, .ref fa, v4, v5, .int fc0, .int 0, .int av0, .ref a5])) := by rw [e_13]; exact mp_us _ _ _
  have hfr : ∀ b, S b ≠ none → b ≠ o → b ≠ fa → S11 b = S b := fun b h9 k0 k1 => by rw [e_13]; exact (mp_un k0).trans (hfr b h9 k0 k1)
  refine lv_aload_n hx hb d_B_run_29 rfl (lv_at hl 0 rfl) ?_
  refine mp_callv hI (va_runV (As := []) (rest := []) ⟨hx, hb, hml, hown, hg⟩ (c_B_note l D g S11 _ o lo hd fa 0 nl v1 v4 v5 (.int 0) (.int av0) (.ref a5) u0 fc0 ff hf (fun _ => 0) (fun _ => 0) (fun _ => 0) h_o h_lo h_hd h_fa (fun i h => absurd h (Nat.not_lt_zero i)) (by decide) hnl) ⟨(callB_of 0 hg (wd_goodG q_302) rfl rfl rfl (hg _ q_1) (hg _ q_299) (by decide +kernel) ⟨Nat.le_of_ble_eq_true rfl, Nat.le_of_ble_eq_true rfl⟩), hg _ q_301, hg _ qs_0⟩ (mp_preV (C := R_B) (T := F_B) hI hK h_o rfl []) rfl rfl hl.1 rfl (lv_room (Nat.le_of_ble_eq_true rfl)) d_B_run_30 ⟨Nat.le_of_ble_eq_true rfl, Nat.le_of_ble_eq_true rfl⟩) (fun S14 H15 locs p_16 hI => ?_)
  obtain ⟨ff1, _, hn_o, hn_fa, fn⟩ := p_16
  have h_lo : S14 lo = some (2, .inr (9, [u0, .ref hd, .int 0])) := (fn lo (mp_in h_lo) (mp_ne h_lo h_o (by decide)) (mp_ne h_lo h_fa (by decide))).trans h_lo
  have h_hd : S14 hd = some (5, .inl ((g 0), 12, .inl hf)) := (fn hd (mp_in h_hd) (mp_ne h_hd h_o (by decide)) (mp_ne h_hd h_fa (by decide))).trans h_hd
  have hv_o : S14 a5 = some (10, .inr (7, [.int (nI nl), .ref (ad 11), .ref (ad 14), .ref (ad 30), .ref (ad 32), .ref (ad 33), .ref (ad 34), .ref (ad 35), .ref (ad 36), .int 0, .ref (ad 37)])) := (fn a5 (mp_in hv_o) (mp_ne hv_o h_o (by decide)) (mp_ne hv_o h_fa (by decide))).trans hv_o
  have hv_d : S14 (ad 11) = some (11, .inr (5, [.ref (ad 12), .ref (ad 13)])) := (fn (ad 11) (mp_in hv_d) (mp_ne hv_d h_o (by decide)) (mp_ne hv_d h_fa (by decide))).trans hv_d
  have hfr : ∀ b, S b ≠ none → b ≠ o → b ≠ fa → S14 b = S b := fun b h9 k0 k1 => (fn b (by rw [hfr b h9 k0 k1]; exact h9) k0 k1).trans (hfr b h9 k0 k1)
  refine lv_aload_n hx hb d_B_run_33 rfl (lv_at hl 0 rfl) ?_
  refine lv_aload_n hx hb d_B_run_34 rfl (lv_at hl 0 rfl) ?_
  refine mp_get (C := R_B) (T := F_B) (N := 10) (v := .ref a5) hx hb hg i_B hown hK.va hI hn_o rfl 9 (by decide) (hg _ q_91) (fun _ h9 => h9) rfl d_B_run_35 ?_
  refine lv_aload_n hx hb d_B_run_38 rfl (lv_at hl 0 rfl) ?_
  refine mp_get (C := R_B) (T := F_B) (N := 10) (v := .ref lo) hx hb hg i_B hown hK.va hI hn_o rfl 2 (by decide) (hg _ q_84) (fun _ h9 => h9) rfl d_B_run_39 ?_
  refine mp_calli hI (va_runV (As := [.ref lo]) (rest := [.ref o]) ⟨hx, hb, hml, hown, hg⟩ (c_V_solve0 l D g S14 _ a5 (ad 11) lo hd nl (.ref (ad 14)) (.ref (ad 30)) (.ref (ad 32)) (.ref (ad 33)) (.ref (ad 34)) (.ref (ad 35)) (.ref (ad 36)) (.ref (ad 37)) (.ref (ad 12)) (.ref (ad 13)) u0 0 hf hv_o hv_d h_lo h_hd hnl hn1) ⟨(callB_of 1 hg (wd_goodG q_316) rfl rfl rfl (hg _ q_16) (hg _ q_313) (by decide +kernel) ⟨Nat.le_of_ble_eq_true rfl, Nat.le_of_ble_eq_true rfl⟩), hg _ q_314, hg _ q_315⟩ (mp_preV (C := R_V) (T := F_V) hI hK hv_o rfl [.ref lo]) rfl rfl hl.1 rfl (lv_room (Nat.le_of_ble_eq_true rfl)) d_B_run_42 ⟨Nat.le_of_ble_eq_true rfl, Nat.le_of_ble_eq_true rfl⟩) (fun r21 S18 H19 locs p_20 hI => ?_)
  obtain ⟨er21, hs_o, fs⟩ := p_20
  have er21 : r21 = -2 := er21
  subst er21
  have hn_o : S18 o = some (0, .inr (0, [.int (nI nl), v1, .ref lo, .ref fa, v4, v5, .int (nI (cntF (bndL 0 (fun _ => 0) (fun _ => 0) (fun _ => 0)) nl)), .int 0, .int av0, .ref a5])) := (fs o (mp_in hn_o) (mp_ne hn_o hv_o (by decide))).trans hn_o
  have h_lo : S18 lo = some (2, .inr (9, [u0, .ref hd, .int 0])) := (fs lo (mp_in h_lo) (mp_ne h_lo hv_o (by decide))).trans h_lo
  have h_hd : S18 hd = some (5, .inl ((g 0), 12, .inl hf)) := (fs hd (mp_in h_hd) (mp_ne h_hd hv_o (by decide))).trans h_hd
  have hn_fa : S18 fa = some (3, .inl ((g 0), 3, .inl ff1)) := (fs fa (mp_in hn_fa) (mp_ne hn_fa hv_o (by decide))).trans hn_fa
  have hv_d : S18 (ad 11) = some (11, .inr (5, [.ref (ad 12), .ref (ad 13)])) := (fs (ad 11) (mp_in hv_d) (mp_ne hv_d hv_o (by decide))).trans hv_d
  have hfr : ∀ b, S b ≠ none → b ≠ o → b ≠ fa → S18 b = S b := fun b h9 k0 k1 => (fs b (by rw [hfr b h9 k0 k1]; exact h9) (nb_a5 b h9 k0 k1)).trans (hfr b h9 k0 k1)
  refine mp_put (C := R_B) (T := F_B) (N := 10) (v := .int (-2)) (ty := .int) hx hb hg i_B t_B t_B_ok n_B hown hK.va hI hn_o rfl 8 (by decide) (hg _ q_90) (fun _ h9 => h9) rfl (by decide +kernel) (rfl) rfl (Nat.le_of_ble_eq_true rfl) d_B_run_45 (fun S22 H23 locs e_24 hI => ?_)
  have e_24 : S22 = va_up S18 o (some (0, .inr (0, [.int (nI nl), v1, .ref lo, .ref fa, v4, v5, .int (nI (cntF (bndL 0 (fun _ => 0) (fun _ => 0) (fun _ => 0)) nl)), .int 0, .int (-2), .ref a5]))) := e_24
  have h_lo : S22 lo = some (2, .inr (9, [u0, .ref hd, .int 0])) := by rw [e_24]; exact mp_keep h_lo hn_o (by decide)
  have h_hd : S22 hd = some (5, .inl ((g 0), 12, .inl hf)) := by rw [e_24]; exact mp_keep h_hd hn_o (by decide)
  have hn_fa : S22 fa = some (3, .inl ((g 0), 3, .inl ff1)) := by rw [e_24]; exact mp_keep hn_fa hn_o (by decide)
  have hs_o : S22 a5 = some (10, .inr (7, [.int (nI nl), .ref (ad 11), .ref (ad 14), .ref (ad 30), .ref (ad 32), .ref (ad 33), .ref (ad 34), .ref (ad 35), .ref (ad 36), .int 0, .ref (ad 37)])) := by rw [e_24]; exact mp_keep hs_o hn_o (by decide)
  have hv_d : S22 (ad 11) = some (11, .inr (5, [.ref (ad 12), .ref (ad 13)])) := by rw [e_24]; exact mp_keep hv_d hn_o (by decide)
  have hn_o : S22 o = some (0, .inr (0, [.int (nI nl), v1, .ref lo, .ref fa, v4, v5, .int (nI (cntF (bndL 0 (fun _ => 0) (fun _ => 0) (fun _ => 0)) nl)), .int 0, .int (-2), .ref a5])) := by rw [e_24]; exact mp_us _ _ _
  have hfr : ∀ b, S b ≠ none → b ≠ o → b ≠ fa → S22 b = S b := fun b h9 k0 k1 => by rw [e_24]; exact (mp_un k0).trans (hfr b h9 k0 k1)
  refine lv_aload_n hx hb d_B_run_48 rfl (lv_at hl 0 rfl) ?_
  refine lv_iconst (v := nI 1) hx hb d_B_run_49 (by decide) ?_
  refine mp_put (C := R_B) (T := F_B) (N := 10) (v := .int (nI 1)) (ty := .boolean) hx hb hg i_B t_B t_B_ok n_B hown hK.va hI hn_o rfl 7 (by decide) (hg _ q_89) (fun _ h9 => h9) rfl (by decide +kernel) (rfl) rfl (Nat.le_of_ble_eq_true rfl) d_B_run_50 (fun S25 H26 locs e_27 hI => ?_)
  have e_27 : S25 = va_up S22 o (some (0, .inr (0, [.int (nI nl), v1, .ref lo, .ref fa, v4, v5, .int (nI (cntF (bndL 0 (fun _ => 0) (fun _ => 0) (fun _ => 0)) nl)), .int (nI 1), .int (-2), .ref a5]))) := e_27
  have h_lo : S25 lo = some (2, .inr (9, [u0, .ref hd, .int 0])) := by rw [e_27]; exact mp_keep h_lo hn_o (by decide)
  have h_hd : S25 hd = some (5, .inl ((g 0), 12, .inl hf)) := by rw [e_27]; exact mp_keep h_hd hn_o (by decide)
  have hn_fa : S25 fa = some (3, .inl ((g 0), 3, .inl ff1)) := by rw [e_27]; exact mp_keep hn_fa hn_o (by decide)
  have hs_o : S25 a5 = some (10, .inr (7, [.int (nI nl), .ref (ad 11), .ref (ad 14), .ref (ad 30), .ref (ad 32), .ref (ad 33), .ref (ad 34), .ref (ad 35), .ref (ad 36), .int 0, .ref (ad 37)])) := by rw [e_27]; exact mp_keep hs_o hn_o (by decide)
  have hv_d : S25 (ad 11) = some (11, .inr (5, [.ref (ad 12), .ref (ad 13)])) := by rw [e_27]; exact mp_keep hv_d hn_o (by decide)
  have hn_o : S25 o = some (0, .inr (0, [.int (nI nl), v1, .ref lo, .ref fa, v4, v5, .int (nI (cntF (bndL 0 (fun _ => 0) (fun _ => 0) (fun _ => 0)) nl)), .int (nI 1), .int (-2), .ref a5])) := by rw [e_27]; exact mp_us _ _ _
  have hfr : ∀ b, S b ≠ none → b ≠ o → b ≠ fa → S25 b = S b := fun b h9 k0 k1 => by rw [e_27]; exact (mp_un k0).trans (hfr b h9 k0 k1)
  refine lv_aload_n hx hb d_B_run_53 rfl (lv_at hl 0 rfl) ?_
  refine mp_get (C := R_B) (T := F_B) (N := 10) (v := .int (-2)) hx hb hg i_B hown hK.va hI hn_o rfl 8 (by decide) (hg _ q_90) (fun _ h9 => h9) rfl d_B_run_54 ?_
  refine mp_iret hx hb hr hlocks hI (by decide) (by decide) ?_ d_B_run_57
  exact ⟨rfl, hfr⟩
