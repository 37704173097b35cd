theorem d_M_hasOne_0 : decode b_M_hasOne 0 = .ok (.iconst 0, 1) := by decide +kernel
theorem d_M_hasOne_1 : decode b_M_hasOne 1 = .ok (.istore_n 1, 1) := by decide +kernel
theorem d_M_hasOne_2 : decode b_M_hasOne 2 = .ok (.iload_n 1, 1) := by decide +kernel
theorem d_M_hasOne_3 : decode b_M_hasOne 3 = .ok (.aload_n 0, 1) := by decide +kernel
theorem d_M_hasOne_4 : decode b_M_hasOne 4 = .ok (.getfield 125, 3) := by decide +kernel
theorem d_M_hasOne_7 : decode b_M_hasOne 7 = .ok (.if_icmp .ge 20, 3) := by decide +kernel
theorem d_M_hasOne_27 : decode b_M_hasOne 27 = .ok (.iconst 0, 1) := by decide +kernel
theorem d_M_hasOne_28 : decode b_M_hasOne 28 = .ok (.ireturn, 1) := by decide +kernel
theorem d_M_isBasis_0 : decode b_M_isBasis 0 = .ok (.iconst 0, 1) := by decide +kernel
theorem d_M_isBasis_1 : decode b_M_isBasis 1 = .ok (.istore_n 1, 1) := by decide +kernel
theorem d_M_isBasis_2 : decode b_M_isBasis 2 = .ok (.iload_n 1, 1) := by decide +kernel
theorem d_M_isBasis_3 : decode b_M_isBasis 3 = .ok (.aload_n 0, 1) := by decide +kernel
theorem d_M_isBasis_4 : decode b_M_isBasis 4 = .ok (.getfield 125, 3) := by decide +kernel
theorem d_M_isBasis_7 : decode b_M_isBasis 7 = .ok (.if_icmp .ge 38, 3) := by decide +kernel
theorem d_M_isBasis_45 : decode b_M_isBasis 45 = .ok (.iconst 1, 1) := by decide +kernel
theorem d_M_isBasis_46 : decode b_M_isBasis 46 = .ok (.ireturn, 1) := by decide +kernel
theorem d_M_isFinite_0 : decode b_M_isFinite 0 = .ok (.iconst 0, 1) := by decide +kernel
theorem d_M_isFinite_1 : decode b_M_isFinite 1 = .ok (.istore_n 1, 1) := by decide +kernel
theorem d_M_isFinite_2 : decode b_M_isFinite 2 = .ok (.iload_n 1, 1) := by decide +kernel
theorem d_M_isFinite_3 : decode b_M_isFinite 3 = .ok (.aload_n 0, 1) := by decide +kernel
theorem d_M_isFinite_4 : decode b_M_isFinite 4 = .ok (.getfield 78, 3) := by decide +kernel
theorem d_M_isFinite_7 : decode b_M_isFinite 7 = .ok (.if_icmp .ge 20, 3) := by decide +kernel
theorem d_M_isFinite_10 : decode b_M_isFinite 10 = .ok (.aload_n 0, 1) := by decide +kernel
theorem d_M_isFinite_11 : decode b_M_isFinite 11 = .ok (.getfield 56, 3) := by decide +kernel
theorem d_M_isFinite_14 : decode b_M_isFinite 14 = .ok (.iload_n 1, 1) := by decide +kernel
theorem d_M_isFinite_15 : decode b_M_isFinite 15 = .ok (.baload, 1) := by decide +kernel
theorem d_M_isFinite_16 : decode b_M_isFinite 16 = .ok (.ifCond .eq 5, 3) := by decide +kernel
theorem d_M_isFinite_19 : decode b_M_isFinite 19 = .ok (.iconst 0, 1) := by decide +kernel
theorem d_M_isFinite_20 : decode b_M_isFinite 20 = .ok (.ireturn, 1) := by decide +kernel
theorem d_M_lookForFree_0 : decode b_M_lookForFree 0 = .ok (.iconst 0, 1) := by decide +kernel
theorem d_M_lookForFree_1 : decode b_M_lookForFree 1 = .ok (.istore_n 1, 1) := by decide +kernel
theorem d_M_lookForFree_2 : decode b_M_lookForFree 2 = .ok (.iload_n 1, 1) := by decide +kernel
theorem d_M_lookForFree_3 : decode b_M_lookForFree 3 = .ok (.iconst 3, 1) := by decide +kernel
theorem d_M_lookForFree_4 : decode b_M_lookForFree 4 = .ok (.if_icmp .ge 71, 3) := by decide +kernel
theorem d_M_lookForFree_7 : decode b_M_lookForFree 7 = .ok (.aload_n 0, 1) := by decide +kernel
theorem d_M_lookForFree_8 : decode b_M_lookForFree 8 = .ok (.getfield 56, 3) := by decide +kernel
theorem d_M_lookForFree_11 : decode b_M_lookForFree 11 = .ok (.iload_n 1, 1) := by decide +kernel
theorem d_M_lookForFree_12 : decode b_M_lookForFree 12 = .ok (.iload_n 1, 1) := by decide +kernel
theorem d_M_lookForFree_13 : decode b_M_lookForFree 13 = .ok (.aload_n 0, 1) := by decide +kernel
theorem d_M_lookForFree_14 : decode b_M_lookForFree 14 = .ok (.getfield 78, 3) := by decide +kernel
theorem d_M_lookForFree_17 : decode b_M_lookForFree 17 = .ok (.if_icmp .ge 14, 3) := by decide +kernel
theorem d_M_lookForFree_20 : decode b_M_lookForFree 20 = .ok (.aload_n 0, 1) := by decide +kernel
theorem d_M_lookForFree_21 : decode b_M_lookForFree 21 = .ok (.invokevirtual 164, 3) := by decide +kernel
theorem d_M_lookForFree_24 : decode b_M_lookForFree 24 = .ok (.ifCond .ne 7, 3) := by decide +kernel
theorem d_M_lookForFree_27 : decode b_M_lookForFree 27 = .ok (.iconst 1, 1) := by decide +kernel
theorem d_M_lookForFree_28 : decode b_M_lookForFree 28 = .ok (.goto 4, 3) := by decide +kernel
theorem d_M_lookForFree_31 : decode b_M_lookForFree 31 = .ok (.iconst 0, 1) := by decide +kernel
theorem d_M_lookForFree_32 : decode b_M_lookForFree 32 = .ok (.bastore, 1) := by decide +kernel
theorem d_M_lookForFree_33 : decode b_M_lookForFree 33 = .ok (.iconst 0, 1) := by decide +kernel
theorem d_M_lookForFree_34 : decode b_M_lookForFree 34 = .ok (.istore_n 2, 1) := by decide +kernel
theorem d_M_lookForFree_35 : decode b_M_lookForFree 35 = .ok (.iload_n 2, 1) := by decide +kernel
theorem d_M_lookForFree_36 : decode b_M_lookForFree 36 = .ok (.aload_n 0, 1) := by decide +kernel
theorem d_M_lookForFree_37 : decode b_M_lookForFree 37 = .ok (.getfield 125, 3) := by decide +kernel
theorem d_M_lookForFree_40 : decode b_M_lookForFree 40 = .ok (.if_icmp .ge 29, 3) := by decide +kernel
theorem d_M_lookForFree_69 : decode b_M_lookForFree 69 = .ok (.iinc 1 1, 3) := by decide +kernel
theorem d_M_lookForFree_72 : decode b_M_lookForFree 72 = .ok (.goto (-70), 3) := by decide +kernel
theorem d_M_lookForFree_75 : decode b_M_lookForFree 75 = .ok (.return_, 1) := by decide +kernel
theorem d_M_run_0 : decode b_M_run 0 = .ok (.aload_n 0, 1) := by decide +kernel
theorem d_M_run_1 : decode b_M_run 1 = .ok (.iconst 0, 1) := by decide +kernel
theorem d_M_run_2 : decode b_M_run 2 = .ok (.putfield 82, 3) := by decide +kernel
theorem d_M_run_5 : decode b_M_run 5 = .ok (.aload_n 0, 1) := by decide +kernel
theorem d_M_run_6 : decode b_M_run 6 = .ok (.iconst 0, 1) := by decide +kernel
theorem d_M_run_7 : decode b_M_run 7 = .ok (.putfield 121, 3) := by decide +kernel
theorem d_M_run_10 : decode b_M_run 10 = .ok (.aload_n 0, 1) := by decide +kernel
theorem d_M_run_11 : decode b_M_run 11 = .ok (.iconst 1, 1) := by decide +kernel
theorem d_M_run_12 : decode b_M_run 12 = .ok (.putfield 132, 3) := by decide +kernel
theorem d_M_run_15 : decode b_M_run 15 = .ok (.aload_n 0, 1) := by decide +kernel
theorem d_M_run_16 : decode b_M_run 16 = .ok (.invokevirtual 211, 3) := by decide +kernel
theorem d_M_run_19 : decode b_M_run 19 = .ok (.aload_n 0, 1) := by decide +kernel
theorem d_M_run_20 : decode b_M_run 20 = .ok (.invokevirtual 214, 3) := by decide +kernel
theorem d_M_run_23 : decode b_M_run 23 = .ok (.ifCond .ne 5, 3) := by decide +kernel
theorem d_M_run_28 : decode b_M_run 28 = .ok (.aload_n 0, 1) := by decide +kernel
theorem d_M_run_29 : decode b_M_run 29 = .ok (.invokevirtual 217, 3) := by decide +kernel
theorem d_M_run_32 : decode b_M_run 32 = .ok (.ifCond .ne 6, 3) := by decide +kernel
theorem d_M_run_35 : decode b_M_run 35 = .ok (.bipush (-2), 2) := by decide +kernel
theorem d_M_run_37 : decode b_M_run 37 = .ok (.ireturn, 1) := by decide +kernel
set_option maxHeartbeats 4000000 in
set_option maxRecDepth 100000 in
/-- an empty list -/
theorem c_M_hasOne0 (l : Launch) (D : mp_G) (g : Nat → ClassId) (S : mp_M) (sz : Nat) (o : Nat) (m0 m1 m2 m3 m4 m6 m7 m8 m9 m10 m11 m12 m13 m14 m15 m16 m17 m18 m19 m20 m21 m22 m23 m24 m25 m26 m27 m28 m29 m30 : Value) (h_o : S o = some (2000, .inr (10, [m0, m1, m2, m3, m4, .int 0, m6, m7, m8, m9, m10, m11, m12, m13, m14, m15, m16, m17, m18, m19, m20, m21, m22, m23, m24, m25, m26, m27, m28, m29, m30])))  : Met l y_M_hasOne w_M_hasOne ({ frames := 0, cells := 0, slots := 0, locals := 0 }) (va_Pc [.ref o] (mp_B0 D classes (tys g) S sz)) (va_Qi (fun (r : Int32) (S1 : mp_M) => r = 0 ∧ S1 = S) (mp_B1 D classes S sz) (mp_A S sz)) 0 0 (mp_A S sz) := by
  refine Met.ofW (cc := b_M_hasOne) (maxL := 2) (ret := (some .boolean)) (by decide) rfl ?_
  intro p e s m args below meth c s₁ B hml hv
  obtain ⟨rfl, hsz, hH, hK⟩ := hv
  have hx := B.exec
  have hb := B.bytes
  have hr := B.returns
  have hts := atoms_spec (ws := w_M_hasOne) B.pre
  have hg : ∀ w ∈ gw, w.before _ s = true := fun w h => hts w (List.mem_cons_of_mem _ h)
  have hown : s.vm.findClass R_M = some m.cls := findClass_of_methodNamed B.named
  have hlocks := B.notSynchronized
  subst hsz
  have hI := mp_I.start hH
  have hl := lv_entry ([.ref o]) (n := 2) (Nat.le_of_ble_eq_true rfl)
  rw [lg_entry_eq]
  generalize (lg_sl ([.ref o]) ++ List.replicate (2 - (lg_sl ([.ref o])).length) Slot.unset).toArray = ls at hl ⊢
  have hl : lv_has ls 2 [(0, .ref o)] := hl
  refine lv_iconst (v := nI 0) hx hb d_M_hasOne_0 (by decide) ?_
  refine lv_istore_n (lv' := [(1, .int (nI 0)), (0, .ref o)]) hx hb d_M_hasOne_1 rfl hl (by decide) rfl (fun ls hl => ?_)
  refine lv_iload_n hx hb d_M_hasOne_2 rfl (lv_at hl 0 rfl) ?_
  refine lv_aload_n hx hb d_M_hasOne_3 rfl (lv_at hl 1 rfl) ?_
  refine mp_get (C := R_M) (T := F_M) (N := 31) (v := .int 0) hx hb hg i_M hown hK.va hI h_o rfl 5 (by decide) (hg _ q_809) (fun _ h9 => h9) rfl d_M_hasOne_4 ?_
  refine lv_icmp_ge (tgt := 27) hx hb d_M_hasOne_7 (by decide) (fun _ => ?_) (fun h9 => absurd (by decide) h9)
  refine lv_iconst (v := nI 0) hx hb d_M_hasOne_27 (by decide) ?_
  refine mp_zret hx hb hr hlocks hI (by decide) (by decide) ?_ (by decide) d_M_hasOne_28
  exact ⟨rfl, rfl⟩
set_option maxHeartbeats 4000000 in
set_option maxRecDepth 100000 in
/-- an empty list -/
theorem c_M_isBasis0 (l : Launch) (D : mp_G) (g : Nat → ClassId) (S : mp_M) (sz : Nat) (o : Nat) (m0 m1 m2 m3 m4 m6 m7 m8 m9 m10 m11 m12 m13 m14 m15 m16 m17 m18 m19 m20 m21 m22 m23 m24 m25 m26 m27 m28 m29 m30 : Value) (h_o : S o = some (2000, .inr (10, [m0, m1, m2, m3, m4, .int 0, m6, m7, m8, m9, m10, m11, m12, m13, m14, m15, m16, m17, m18, m19, m20, m21, m22, m23, m24, m25, m26, m27, m28, m29, m30])))  : Met l y_M_isBasis w_M_isBasis ({ frames := 0, cells := 0, slots := 0, locals := 0 }) (va_Pc [.ref o] (mp_B0 D classes (tys g) S sz)) (va_Qi (fun (r : Int32) (S1 : mp_M) => r = 1 ∧ S1 = S) (mp_B1 D classes S sz) (mp_A S sz)) 0 0 (mp_A S sz) := by
  refine Met.ofW (cc := b_M_isBasis) (maxL := 3) (ret := (some .boolean)) (by decide) rfl ?_
  intro p e s m args below meth c s₁ B hml hv
  obtain ⟨rfl, hsz, hH, hK⟩ := hv
  have hx := B.exec
  have hb := B.bytes
  have hr := B.returns
  have hts := atoms_spec (ws := w_M_isBasis) B.pre
  have hg : ∀ w ∈ gw, w.before _ s = true := fun w h => hts w (List.mem_cons_of_mem _ h)
  have hown : s.vm.findClass R_M = some m.cls := findClass_of_methodNamed B.named
  have hlocks := B.notSynchronized
  subst hsz
  have hI := mp_I.start hH
  have hl := lv_entry ([.ref o]) (n := 3) (Nat.le_of_ble_eq_true rfl)
  rw [lg_entry_eq]
  generalize (lg_sl ([.ref o]) ++ List.replicate (3 - (lg_sl ([.ref o])).length) Slot.unset).toArray = ls at hl ⊢
  have hl : lv_has ls 3 [(0, .ref o)] := hl
  refine lv_iconst (v := nI 0) hx hb d_M_isBasis_0 (by decide) ?_
  refine lv_istore_n (lv' := [(1, .int (nI 0)), (0, .ref o)]) hx hb d_M_isBasis_1 rfl hl (by decide) rfl (fun ls hl => ?_)
  refine lv_iload_n hx hb d_M_isBasis_2 rfl (lv_at hl 0 rfl) ?_
  refine lv_aload_n hx hb d_M_isBasis_3 rfl (lv_at hl 1 rfl) ?_
  refine mp_get (C := R_M) (T := F_M) (N := 31) (v := .int 0) hx hb hg i_M hown hK.va hI h_o rfl 5 (by decide) (hg _ q_809) (fun _ h9 => h9) rfl d_M_isBasis_4 ?_
  refine lv_icmp_ge (tgt := 45) hx hb d_M_isBasis_7 (by decide) (fun _ => ?_) (fun h9 => absurd (by decide) h9)
  refine lv_iconst (v := nI 1) hx hb d_M_isBasis_45 (by decide) ?_
  refine mp_zret hx hb hr hlocks hI (by decide) (by decide) ?_ (by decide) d_M_isBasis_46
  exact ⟨rfl, rfl⟩
set_option maxHeartbeats 4000000 in
set_option maxRecDepth 100000 in
/-- the free letters of an empty list -/
theorem c_M_look0 (l : Launch) (D : mp_G) (g : Nat → ClassId) (S : mp_M) (sz : Nat) (o fa n : Nat) (m1 m2 m3 m4 m6 m7 m8 m9 m10 m11 m12 m13 m14 m15 m16 m17 m18 m19 m20 m21 m22 m23 m25 m26 m27 m28 m29 m30 : Value) (ff : Nat → Int32) (h_o : S o = some (2000, .inr (10, [.int (nI n), m1, m2, m3, m4, .int 0, m6, m7, m8, m9, m10, m11, m12, m13, m14, m15, m16, m17, m18, m19, m20, m21, m22, m23, .ref fa, m25, m26, m27, m28, m29, m30]))) (h_fa : S fa = some (2016, .inl ((g 5), 3, .inl ff))) (hn : n ≤ 3) (hn1 : 1 ≤ n) : Met l y_M_lookForFree w_M_lookForFree ({ frames := 1, cells := 0, slots := 0, locals := 21 }) (va_Pc [.ref o] (mp_B0 D classes (tys g) S sz)) (va_Qv (fun (S1 : mp_M) => ∃ f1 : Nat → Int32, S1 fa = some (2016, .inl ((g 5), 3, .inl f1)) ∧ f1 0 = 1 ∧ (∀ b, S b ≠ none → b ≠ fa → S1 b = S b)) (mp_B1 D classes S sz) (mp_A S sz)) 0 0 (mp_A S sz) := by
  refine Met.ofW (cc := b_M_lookForFree) (maxL := 3) (ret := none) (by decide) rfl ?_
  intro p e s m args below meth c s₁ B hml hv
  obtain ⟨rfl, hsz, hH, hK⟩ := hv
  have hx := B.exec
  have hb := B.bytes
  have hr := B.returns
  have hts := atoms_spec (ws := w_M_lookForFree) B.pre
  have hg : ∀ w ∈ gw, w.before _ s = true := fun w h => hts w (List.mem_cons_of_mem _ h)
  have hown : s.vm.findClass R_M = some m.cls := findClass_of_methodNamed B.named
  have hlocks := B.notSynchronized
  subst hsz
  have hI := mp_I.start hH
  have hl := lv_entry ([.ref o]) (n := 3) (Nat.le_of_ble_eq_true rfl)
  rw [lg_entry_eq]
  generalize (lg_sl ([.ref o]) ++ List.replicate (3 - (lg_sl ([.ref o])).length) Slot.unset).toArray = ls at hl ⊢
  have hl : lv_has ls 3 [(0, .ref o)] := hl
  have hfr : ∀ b, S b ≠ none → b ≠ fa → S b = S b := fun _ _ _ => rfl
  refine lv_iconst (v := nI 0) hx hb d_M_lookForFree_0 (by decide) ?_
  refine lv_istore_n (lv' := [(1, .int (nI 0)), (0, .ref o)]) hx hb d_M_lookForFree_1 rfl hl (by decide) rfl (fun ls hl => ?_)
  rcases (show n = 1 ∨ n = 2 ∨ n = 3 by omega) with rfl | rfl | rfl
  · refine lv_iload_n hx hb d_M_lookForFree_2 rfl (lv_at hl 0 rfl) ?_
    refine lv_iconst (v := nI 3) hx hb d_M_lookForFree_3 (by decide) ?_
    refine lv_icmp_ge (tgt := 75) hx hb d_M_lookForFree_4 (by decide) (fun h9 => absurd h9 (by decide)) (fun _ => ?_)
    refine lv_aload_n hx hb d_M_lookForFree_7 rfl (lv_at hl 1 rfl) ?_
    refine mp_get (C := R_M) (T := F_M) (N := 31) (v := .ref fa) hx hb hg i_M hown hK.va hI h_o rfl 24 (by decide) (hg _ q_828) (fun _ h9 => h9) rfl d_M_lookForFree_8 ?_
    refine lv_iload_n hx hb d_M_lookForFree_11 rfl (lv_at hl 0 rfl) ?_
    refine lv_iload_n hx hb d_M_lookForFree_12 rfl (lv_at hl 0 rfl) ?_
    refine lv_aload_n hx hb d_M_lookForFree_13 rfl (lv_at hl 1 rfl) ?_
    refine mp_get (C := R_M) (T := F_M) (N := 31) (v := .int (nI 1)) hx hb hg i_M hown hK.va hI h_o rfl 0 (by decide) (hg _ q_804) (fun _ h9 => h9) rfl d_M_lookForFree_14 ?_
    refine lv_icmp_ge (tgt := 31) hx hb d_M_lookForFree_17 (by decide) (fun h9 => absurd h9 (by decide)) (fun _ => ?_)
    refine lv_aload_n hx hb d_M_lookForFree_20 rfl (lv_at hl 1 rfl) ?_
    refine mp_calli hI (va_runV (As := []) (rest := [.int (nI 0), .ref fa]) ⟨hx, hb, hml, hown, hg⟩ (c_M_hasOne0 l D g S _ o (.int (nI 1)) m1 m2 m3 m4 m6 m7 m8 m9 m10 m11 m12 m13 m14 m15 m16 m17 m18 m19 m20 m21 m22 m23 (.ref fa) m25 m26 m27 m28 m29 m30 h_o) ⟨(callB_of 0 hg (wd_goodG q_959) rfl rfl rfl (hg _ q_5) (hg _ q_956) (by decide +kernel) ⟨Nat.le_of_ble_eq_true rfl, Nat.le_of_ble_eq_true rfl⟩), hg _ q_958, hg _ qs_27⟩ (mp_preV (C := R_M) (T := F_M) hI hK h_o rfl []) rfl rfl hl.1 rfl (lv_room (Nat.le_of_ble_eq_true rfl)) d_M_lookForFree_21 ⟨Nat.le_of_ble_eq_true rfl, Nat.le_of_ble_eq_true rfl⟩) (fun r4 S1 H2 locs p_3 hI => ?_)
    obtain ⟨er4, eS5⟩ := p_3
    rw [eS5] at hI
    have er4 : r4 = 0 := er4
    subst er4
    refine lv_if_ne (tgt := 31) hx hb d_M_lookForFree_24 (by decide) (fun h9 => absurd h9 (by decide)) (fun _ => ?_)
    refine lv_iconst (v := nI 1) hx hb d_M_lookForFree_27 (by decide) ?_
    refine lv_goto (tgt := 32) hx hb d_M_lookForFree_28 (by decide) ?_
    refine mp_zast hx hb hK.va hI 5 h_fa rfl (vp_in_nI (by decide) (by decide)) d_M_lookForFree_32 (fun S6 H7 locs e_8 hI => ?_)
    have e_8 : S6 = va_up S fa (some (2016, .inl ((g 5), 3, .inl (upd ff (nI 0).toNatClampNeg (vp_nar .boolean (nI 1)))))) := e_8
    have h_o : S6 o = some (2000, .inr (10, [.int (nI 1), m1, m2, m3, m4, .int 0, m6, m7, m8, m9, m10, m11, m12, m13, m14, m15, m16, m17, m18, m19, m20, m21, m22, m23, .ref fa, m25, m26, m27, m28, m29, m30])) := by rw [e_8]; exact mp_keep h_o h_fa (by decide)
    have h_fa : S6 fa = some (2016, .inl ((g 5), 3, .inl (upd ff (nI 0).toNatClampNeg (vp_nar .boolean (nI 1))))) := by rw [e_8]; exact mp_us _ _ _
    have hfr : ∀ b, S b ≠ none → b ≠ fa → S6 b = S b := fun b h9 k0 => by rw [e_8]; exact (mp_un k0).trans (hfr b h9 k0)
    refine lv_iconst (v := nI 0) hx hb d_M_lookForFree_33 (by decide) ?_
    refine lv_istore_n (lv' := [(2, .int (nI 0)), (1, .int (nI 0)), (0, .ref o)]) hx hb d_M_lookForFree_34 rfl hl (by decide) rfl (fun ls hl => ?_)
    refine lv_iload_n hx hb d_M_lookForFree_35 rfl (lv_at hl 0 rfl) ?_
    refine lv_aload_n hx hb d_M_lookForFree_36 rfl (lv_at hl 2 rfl) ?_
    refine mp_get (C := R_M) (T := F_M) (N := 31) (v := .int 0) hx hb hg i_M hown hK.va hI h_o rfl 5 (by decide) (hg _ q_809) (fun _ h9 => h9) rfl d_M_lookForFree_37 ?_
    refine lv_icmp_ge (tgt := 69) hx hb d_M_lookForFree_40 (by decide) (fun _ => ?_) (fun h9 => absurd (by decide) h9)
    refine lv_iinc (v := nI (0 + 1)) (lv' := [(1, .int (nI (0 + 1))), (2, .int (nI 0)), (0, .ref o)]) hx hb d_M_lookForFree_69 hl (k := 1) rfl (nI_1 _) (by decide) rfl (fun ls hl => ?_)
    refine lv_goto (tgt := 2) hx hb d_M_lookForFree_72 (by decide) ?_
    refine lv_iload_n hx hb d_M_lookForFree_2 rfl (lv_at hl 0 rfl) ?_
    refine lv_iconst (v := nI 3) hx hb d_M_lookForFree_3 (by decide) ?_
    refine lv_icmp_ge (tgt := 75) hx hb d_M_lookForFree_4 (by decide) (fun h9 => absurd h9 (by decide)) (fun _ => ?_)
    refine lv_aload_n hx hb d_M_lookForFree_7 rfl (lv_at hl 2 rfl) ?_
    refine mp_get (C := R_M) (T := F_M) (N := 31) (v := .ref fa) hx hb hg i_M hown hK.va hI h_o rfl 24 (by decide) (hg _ q_828) (fun _ h9 => h9) rfl d_M_lookForFree_8 ?_
    refine lv_iload_n hx hb d_M_lookForFree_11 rfl (lv_at hl 0 rfl) ?_
    refine lv_iload_n hx hb d_M_lookForFree_12 rfl (lv_at hl 0 rfl) ?_
    refine lv_aload_n hx hb d_M_lookForFree_13 rfl (lv_at hl 2 rfl) ?_
    refine mp_get (C := R_M) (T := F_M) (N := 31) (v := .int (nI 1)) hx hb hg i_M hown hK.va hI h_o rfl 0 (by decide) (hg _ q_804) (fun _ h9 => h9) rfl d_M_lookForFree_14 ?_
    refine lv_icmp_ge (tgt := 31) hx hb d_M_lookForFree_17 (by decide) (fun _ => ?_) (fun h9 => absurd (by decide) h9)
    refine lv_iconst (v := nI 0) hx hb d_M_lookForFree_31 (by decide) ?_
    refine mp_zast hx hb hK.va hI 5 h_fa rfl (vp_in_nI (by decide) (by decide)) d_M_lookForFree_32 (fun S9 H10 locs e_11 hI => ?_)
    have e_11 : S9 = va_up S6 fa (some (2016, .inl ((g 5), 3, .inl (upd (upd ff (nI 0).toNatClampNeg (vp_nar .boolean (nI 1))) (nI (0 + 1)).toNatClampNeg (vp_nar .boolean (nI 0)))))) := e_11
    have h_o : S9 o = some (2000, .inr (10, [.int (nI 1), m1, m2, m3, m4, .int 0, m6, m7, m8, m9, m10, m11, m12, m13, m14, m15, m16, m17, m18, m19, m20, m21, m22, m23, .ref fa, m25, m26, m27, m28, m29, m30])) := by rw [e_11]; exact mp_keep h_o h_fa (by decide)
    have h_fa : S9 fa = some (2016, .inl ((g 5), 3, .inl (upd (upd ff (nI 0).toNatClampNeg (vp_nar .boolean (nI 1))) (nI (0 + 1)).toNatClampNeg (vp_nar .boolean (nI 0))))) := by rw [e_11]; exact mp_us _ _ _
    have hfr : ∀ b, S b ≠ none → b ≠ fa → S9 b = S b := fun b h9 k0 => by rw [e_11]; exact (mp_un k0).trans (hfr b h9 k0)
    refine lv_iconst (v := nI 0) hx hb d_M_lookForFree_33 (by decide) ?_
    refine lv_istore_n (lv' := [(2, .int (nI 0)), (1, .int (nI (0 + 1))), (0, .ref o)]) hx hb d_M_lookForFree_34 rfl hl (by decide) rfl (fun ls hl => ?_)
    refine lv_iload_n hx hb d_M_lookForFree_35 rfl (lv_at hl 0 rfl) ?_
    refine lv_aload_n hx hb d_M_lookForFree_36 rfl (lv_at hl 2 rfl) ?_
    refine mp_get (C := R_M) (T := F_M) (N := 31) (v := .int 0) hx hb hg i_M hown hK.va hI h_o rfl 5 (by decide) (hg _ q_809) (fun _ h9 => h9) rfl d_M_lookForFree_37 ?_
    refine lv_icmp_ge (tgt := 69) hx hb d_M_lookForFree_40 (by decide) (fun _ => ?_) (fun h9 => absurd (by decide) h9)
    refine lv_iinc (v := nI ((0 + 1) + 1)) (lv' := [(1, .int (nI ((0 + 1) + 1))), (2, .int (nI 0)), (0, .ref o)]) hx hb d_M_lookForFree_69 hl (k := 1) rfl (nI_1 _) (by decide) rfl (fun ls hl => ?_)
    refine lv_goto (tgt := 2) hx hb d_M_lookForFree_72 (by decide) ?_
    refine lv_iload_n hx hb d_M_lookForFree_2 rfl (lv_at hl 0 rfl) ?_
    refine lv_iconst (v := nI 3) hx hb d_M_lookForFree_3 (by decide) ?_
    refine lv_icmp_ge (tgt := 75) hx hb d_M_lookForFree_4 (by decide) (fun h9 => absurd h9 (by decide)) (fun _ => ?_)
    refine lv_aload_n hx hb d_M_lookForFree_7 rfl (lv_at hl 2 rfl) ?_
    refine mp_get (C := R_M) (T := F_M) (N := 31) (v := .ref fa) hx hb hg i_M hown hK.va hI h_o rfl 24 (by decide) (hg _ q_828) (fun _ h9 => h9) rfl d_M_lookForFree_8 ?_
    refine lv_iload_n hx hb d_M_lookForFree_11 rfl (lv_at hl 0 rfl) ?_
    refine lv_iload_n hx hb d_M_lookForFree_12 rfl (lv_at hl 0 rfl) ?_
    refine lv_aload_n hx hb d_M_lookForFree_13 rfl (lv_at hl 2 rfl) ?_
    refine mp_get (C := R_M) (T := F_M) (N := 31) (v := .int (nI 1)) hx hb hg i_M hown hK.va hI h_o rfl 0 (by decide) (hg _ q_804) (fun _ h9 => h9) rfl d_M_lookForFree_14 ?_
    refine lv_icmp_ge (tgt := 31) hx hb d_M_lookForFree_17 (by decide) (fun _ => ?_) (fun h9 => absurd (by decide) h9)
    refine lv_iconst (v := nI 0) hx hb d_M_lookForFree_31 (by decide) ?_
    refine mp_zast hx hb hK.va hI 5 h_fa rfl (vp_in_nI (by decide) (by decide)) d_M_lookForFree_32 (fun S12 H13 locs e_14 hI => ?_)
    have e_14 : S12 = va_up S9 fa (some (2016, .inl ((g 5), 3, .inl (upd (upd (upd ff (nI 0).toNatClampNeg (vp_nar .boolean (nI 1))) (nI (0 + 1)).toNatClampNeg (vp_nar .boolean (nI 0))) (nI ((0 + 1) + 1)).toNatClampNeg (vp_nar .boolean (nI 0)))))) := e_14
    have h_o : S12 o = some (2000, .inr (10, [.int (nI 1), m1, m2, m3, m4, .int 0, m6, m7, m8, m9, m10, m11, m12, m13, m14, m15, m16, m17, m18, m19, m20, m21, m22, m23, .ref fa, m25, m26, m27, m28, m29, m30])) := by rw [e_14]; exact mp_keep h_o h_fa (by decide)
    have h_fa : S12 fa = some (2016, .inl ((g 5), 3, .inl (upd (upd (upd ff (nI 0).toNatClampNeg (vp_nar .boolean (nI 1))) (nI (0 + 1)).toNatClampNeg (vp_nar .boolean (nI 0))) (nI ((0 + 1) + 1)).toNatClampNeg (vp_nar .boolean (nI 0))))) := by rw [e_14]; exact mp_us _ _ _
    have hfr : ∀ b, S b ≠ none → b ≠ fa → S12 b = S b := fun b h9 k0 => by rw [e_14]; exact (mp_un k0).trans (hfr b h9 k0)
    refine lv_iconst (v := nI 0) hx hb d_M_lookForFree_33 (by decide) ?_
    refine lv_istore_n (lv' := [(2, .int (nI 0)), (1, .int (nI ((0 + 1) + 1))), (0, .ref o)]) hx hb d_M_lookForFree_34 rfl hl (by decide) rfl (fun ls hl => ?_)
    refine lv_iload_n hx hb d_M_lookForFree_35 rfl (lv_at hl 0 rfl) ?_
    refine lv_aload_n hx hb d_M_lookForFree_36 rfl (lv_at hl 2 rfl) ?_
    refine mp_get (C := R_M) (T := F_M) (N := 31) (v := .int 0) hx hb hg i_M hown hK.va hI h_o rfl 5 (by decide) (hg _ q_809) (fun _ h9 => h9) rfl d_M_lookForFree_37 ?_
    refine lv_icmp_ge (tgt := 69) hx hb d_M_lookForFree_40 (by decide) (fun _ => ?_) (fun h9 => absurd (by decide) h9)
    refine lv_iinc (v := nI (((0 + 1) + 1) + 1)) (lv' := [(1, .int (nI (((0 + 1) + 1) + 1))), (2, .int (nI 0)), (0, .ref o)]) hx hb d_M_lookForFree_69 hl (k := 1) rfl (nI_1 _) (by decide) rfl (fun ls hl => ?_)
    refine lv_goto (tgt := 2) hx hb d_M_lookForFree_72 (by decide) ?_
    refine lv_iload_n hx hb d_M_lookForFree_2 rfl (lv_at hl 0 rfl) ?_
    refine lv_iconst (v := nI 3) hx hb d_M_lookForFree_3 (by decide) ?_
    refine lv_icmp_ge (tgt := 75) hx hb d_M_lookForFree_4 (by decide) (fun _ => ?_) (fun h9 => absurd (by decide) h9)
    refine mp_vret hx hb hr hlocks hI (by decide) (by decide) ?_ d_M_lookForFree_75
    exact ⟨_, h_fa, rfl, hfr⟩
  · refine lv_iload_n hx hb d_M_lookForFree_2 rfl (lv_at hl 0 rfl) ?_
    refine lv_iconst (v := nI 3) hx hb d_M_lookForFree_3 (by decide) ?_
    refine lv_icmp_ge (tgt := 75) hx hb d_M_lookForFree_4 (by decide) (fun h9 => absurd h9 (by decide)) (fun _ => ?_)
    refine lv_aload_n hx hb d_M_lookForFree_7 rfl (lv_at hl 1 rfl) ?_
    refine mp_get (C := R_M) (T := F_M) (N := 31) (v := .ref fa) hx hb hg i_M hown hK.va hI h_o rfl 24 (by decide) (hg _ q_828) (fun _ h9 => h9) rfl d_M_lookForFree_8 ?_
    refine lv_iload_n hx hb d_M_lookForFree_11 rfl (lv_at hl 0 rfl) ?_
    refine lv_iload_n hx hb d_M_lookForFree_12 rfl (lv_at hl 0 rfl) ?_
    refine lv_aload_n hx hb d_M_lookForFree_13 rfl (lv_at hl 1 rfl) ?_
    refine mp_get (C := R_M) (T := F_M) (N := 31) (v := .int (nI 2)) hx hb hg i_M hown hK.va hI h_o rfl 0 (by decide) (hg _ q_804) (fun _ h9 => h9) rfl d_M_lookForFree_14 ?_
    refine lv_icmp_ge (tgt := 31) hx hb d_M_lookForFree_17 (by decide) (fun h9 => absurd h9 (by decide)) (fun _ => ?_)
    refine lv_aload_n hx hb d_M_lookForFree_20 rfl (lv_at hl 1 rfl) ?_
    refine mp_calli hI (va_runV (As := []) (rest := [.int (nI 0), .ref fa]) ⟨hx, hb, hml, hown, hg⟩ (c_M_hasOne0 l D g S _ o (.int (nI 2)) m1 m2 m3 m4 m6 m7 m8 m9 m10 m11 m12 m13 m14 m15 m16 m17 m18 m19 m20 m21 m22 m23 (.ref fa) m25 m26 m27 m28 m29 m30 h_o) ⟨(callB_of 0 hg (wd_goodG q_959) rfl rfl rfl (hg _ q_5) (hg _ q_956) (by decide +kernel) ⟨Nat.le_of_ble_eq_true rfl, Nat.le_of_ble_eq_true rfl⟩), hg _ q_958, hg _ qs_27⟩ (mp_preV (C := R_M) (T := F_M) hI hK h_o rfl []) rfl rfl hl.1 rfl (lv_room (Nat.le_of_ble_eq_true rfl)) d_M_lookForFree_21 ⟨Nat.le_of_ble_eq_true rfl, Nat.le_of_ble_eq_true rfl⟩) (fun r18 S15 H16 locs p_17 hI => ?_)
    obtain ⟨er18, eS19⟩ := p_17
    rw [eS19] at hI
    have er18 : r18 = 0 := er18
    subst er18
    refine lv_if_ne (tgt := 31) hx hb d_M_lookForFree_24 (by decide) (fun h9 => absurd h9 (by decide)) (fun _ => ?_)
    refine lv_iconst (v := nI 1) hx hb d_M_lookForFree_27 (by decide) ?_
    refine lv_goto (tgt := 32) hx hb d_M_lookForFree_28 (by decide) ?_
    refine mp_zast hx hb hK.va hI 5 h_fa rfl (vp_in_nI (by decide) (by decide)) d_M_lookForFree_32 (fun S20 H21 locs e_22 hI => ?_)
    have e_22 : S20 = va_up S fa (some (2016, .inl ((g 5), 3, .inl (upd ff (nI 0).toNatClampNeg (vp_nar .boolean (nI 1)))))) := e_22
    have h_o : S20 o = some (2000, .inr (10, [.int (nI 2), m1, m2, m3, m4, .int 0, m6, m7, m8, m9, m10, m11, m12, m13, m14, m15, m16, m17, m18, m19, m20, m21, m22, m23, .ref fa, m25, m26, m27, m28, m29, m30])) := by rw [e_22]; exact mp_keep h_o h_fa (by decide)
    have h_fa : S20 fa = some (2016, .inl ((g 5), 3, .inl (upd ff (nI 0).toNatClampNeg (vp_nar .boolean (nI 1))))) := by rw [e_22]; exact mp_us _ _ _
    have hfr : ∀ b, S b ≠ none → b ≠ fa → S20 b = S b := fun b h9 k0 => by rw [e_22]; exact (mp_un k0).trans (hfr b h9 k0)
    refine lv_iconst (v := nI 0) hx hb d_M_lookForFree_33 (by decide) ?_
    refine lv_istore_n (lv' := [(2, .int (nI 0)), (1, .int (nI 0)), (0, .ref o)]) hx hb d_M_lookForFree_34 rfl hl (by decide) rfl (fun ls hl => ?_)
    refine lv_iload_n hx hb d_M_lookForFree_35 rfl (lv_at hl 0 rfl) ?_
    refine lv_aload_n hx hb d_M_lookForFree_36 rfl (lv_at hl 2 rfl) ?_
    refine mp_get (C := R_M) (T := F_M) (N := 31) (v := .int 0) hx hb hg i_M hown hK.va hI h_o rfl 5 (by decide) (hg _ q_809) (fun _ h9 => h9) rfl d_M_lookForFree_37 ?_
    refine lv_icmp_ge (tgt := 69) hx hb d_M_lookForFree_40 (by decide) (fun _ => ?_) (fun h9 => absurd (by decide) h9)
    refine lv_iinc (v := nI (0 + 1)) (lv' := [(1, .int (nI (0 + 1))), (2, .int (nI 0)), (0, .ref o)]) hx hb d_M_lookForFree_69 hl (k := 1) rfl (nI_1 _) (by decide) rfl (fun ls hl => ?_)
    refine lv_goto (tgt := 2) hx hb d_M_lookForFree_72 (by decide) ?_
    refine lv_iload_n hx hb d_M_lookForFree_2 rfl (lv_at hl 0 rfl) ?_
    refine lv_iconst (v := nI 3) hx hb d_M_lookForFree_3 (by decide) ?_
    refine lv_icmp_ge (tgt := 75) hx hb d_M_lookForFree_4 (by decide) (fun h9 => absurd h9 (by decide)) (fun _ => ?_)
    refine lv_aload_n hx hb d_M_lookForFree_7 rfl (lv_at hl 2 rfl) ?_
    refine mp_get (C := R_M) (T := F_M) (N := 31) (v := .ref fa) hx hb hg i_M hown hK.va hI h_o rfl 24 (by decide) (hg _ q_828) (fun _ h9 => h9) rfl d_M_lookForFree_8 ?_
    refine lv_iload_n hx hb d_M_lookForFree_11 rfl (lv_at hl 0 rfl) ?_
    refine lv_iload_n hx hb d_M_lookForFree_12 rfl (lv_at hl 0 rfl) ?_
    refine lv_aload_n hx hb d_M_lookForFree_13 rfl (lv_at hl 2 rfl) ?_
    refine mp_get (C := R_M) (T := F_M) (N := 31) (v := .int (nI 2)) hx hb hg i_M hown hK.va hI h_o rfl 0 (by decide) (hg _ q_804) (fun _ h9 => h9) rfl d_M_lookForFree_14 ?_
    refine lv_icmp_ge (tgt := 31) hx hb d_M_lookForFree_17 (by decide) (fun h9 => absurd h9 (by decide)) (fun _ => ?_)
    refine lv_aload_n hx hb d_M_lookForFree_20 rfl (lv_at hl 2 rfl) ?_
    refine mp_calli hI (va_runV (As := []) (rest := [.int (nI (0 + 1)), .ref fa]) ⟨hx, hb, hml, hown, hg⟩ (c_M_hasOne0 l D g S20 _ o (.int (nI 2)) m1 m2 m3 m4 m6 m7 m8 m9 m10 m11 m12 m13 m14 m15 m16 m17 m18 m19 m20 m21 m22 m23 (.ref fa) m25 m26 m27 m28 m29 m30 h_o) ⟨(callB_of 0 hg (wd_goodG q_959) rfl rfl rfl (hg _ q_5) (hg _ q_956) (by decide +kernel) ⟨Nat.le_of_ble_eq_true rfl, Nat.le_of_ble_eq_true rfl⟩), hg _ q_958, hg _ qs_27⟩ (mp_preV (C := R_M) (T := F_M) hI hK h_o rfl []) rfl rfl hl.1 rfl (lv_room (Nat.le_of_ble_eq_true rfl)) d_M_lookForFree_21 ⟨Nat.le_of_ble_eq_true rfl, Nat.le_of_ble_eq_true rfl⟩) (fun r26 S23 H24 locs p_25 hI => ?_)
    obtain ⟨er26, eS27⟩ := p_25
    rw [eS27] at hI
    have er26 : r26 = 0 := er26
    subst er26
    refine lv_if_ne (tgt := 31) hx hb d_M_lookForFree_24 (by decide) (fun h9 => absurd h9 (by decide)) (fun _ => ?_)
    refine lv_iconst (v := nI 1) hx hb d_M_lookForFree_27 (by decide) ?_
    refine lv_goto (tgt := 32) hx hb d_M_lookForFree_28 (by decide) ?_
    refine mp_zast hx hb hK.va hI 5 h_fa rfl (vp_in_nI (by decide) (by decide)) d_M_lookForFree_32 (fun S28 H29 locs e_30 hI => ?_)
    have e_30 : S28 = va_up S20 fa (some (2016, .inl ((g 5), 3, .inl (upd (upd ff (nI 0).toNatClampNeg (vp_nar .boolean (nI 1))) (nI (0 + 1)).toNatClampNeg (vp_nar .boolean (nI 1)))))) := e_30
    have h_o : S28 o = some (2000, .inr (10, [.int (nI 2), m1, m2, m3, m4, .int 0, m6, m7, m8, m9, m10, m11, m12, m13, m14, m15, m16, m17, m18, m19, m20, m21, m22, m23, .ref fa, m25, m26, m27, m28, m29, m30])) := by rw [e_30]; exact mp_keep h_o h_fa (by decide)
    have h_fa : S28 fa = some (2016, .inl ((g 5), 3, .inl (upd (upd ff (nI 0).toNatClampNeg (vp_nar .boolean (nI 1))) (nI (0 + 1)).toNatClampNeg (vp_nar .boolean (nI 1))))) := by rw [e_30]; exact mp_us _ _ _
    have hfr : ∀ b, S b ≠ none → b ≠ fa → S28 b = S b := fun b h9 k0 => by rw [e_30]; exact (mp_un k0).trans (hfr b h9 k0)
    refine lv_iconst (v := nI 0) hx hb d_M_lookForFree_33 (by decide) ?_
    refine lv_istore_n (lv' := [(2, .int (nI 0)), (1, .int (nI (0 + 1))), (0, .ref o)]) hx hb d_M_lookForFree_34 rfl hl (by decide) rfl (fun ls hl => ?_)
    refine lv_iload_n hx hb d_M_lookForFree_35 rfl (lv_at hl 0 rfl) ?_
    refine lv_aload_n hx hb d_M_lookForFree_36 rfl (lv_at hl 2 rfl) ?_
    refine mp_get (C := R_M) (T := F_M) (N := 31) (v := .int 0) hx hb hg i_M hown hK.va hI h_o rfl 5 (by decide) (hg _ q_809) (fun _ h9 => h9) rfl d_M_lookForFree_37 ?_
    refine lv_icmp_ge (tgt := 69) hx hb d_M_lookForFree_40 (by decide) (fun _ => ?_) (fun h9 => absurd (by decide) h9)
    refine lv_iinc (v := nI ((0 + 1) + 1)) (lv' := [(1, .int (nI ((0 + 1) + 1))), (2, .int (nI 0)), (0, .ref o)]) hx hb d_M_lookForFree_69 hl (k := 1) rfl (nI_1 _) (by decide) rfl (fun ls hl => ?_)
    refine lv_goto (tgt := 2) hx hb d_M_lookForFree_72 (by decide) ?_
    refine lv_iload_n hx hb d_M_lookForFree_2 rfl (lv_at hl 0 rfl) ?_
    refine lv_iconst (v := nI 3) hx hb d_M_lookForFree_3 (by decide) ?_
    refine lv_icmp_ge (tgt := 75) hx hb d_M_lookForFree_4 (by decide) (fun h9 => absurd h9 (by decide)) (fun _ => ?_)
    refine lv_aload_n hx hb d_M_lookForFree_7 rfl (lv_at hl 2 rfl) ?_
    refine mp_get (C := R_M) (T := F_M) (N := 31) (v := .ref fa) hx hb hg i_M hown hK.va hI h_o rfl 24 (by decide) (hg _ q_828) (fun _ h9 => h9) rfl d_M_lookForFree_8 ?_
    refine lv_iload_n hx hb d_M_lookForFree_11 rfl (lv_at hl 0 rfl) ?_
    refine lv_iload_n hx hb d_M_lookForFree_12 rfl (lv_at hl 0 rfl) ?_
    refine lv_aload_n hx hb d_M_lookForFree_13 rfl (lv_at hl 2 rfl) ?_
    refine mp_get (C := R_M) (T := F_M) (N := 31) (v := .int (nI 2)) hx hb hg i_M hown hK.va hI h_o rfl 0 (by decide) (hg _ q_804) (fun _ h9 => h9) rfl d_M_lookForFree_14 ?_
    refine lv_icmp_ge (tgt := 31) hx hb d_M_lookForFree_17 (by decide) (fun _ => ?_) (fun h9 => absurd (by decide) h9)
    refine lv_iconst (v := nI 0) hx hb d_M_lookForFree_31 (by decide) ?_
    refine mp_zast hx hb hK.va hI 5 h_fa rfl (vp_in_nI (by decide) (by decide)) d_M_lookForFree_32 (fun S31 H32 locs e_33 hI => ?_)
    have e_33 : S31 = va_up S28 fa (some (2016, .inl ((g 5), 3, .inl (upd (upd (upd ff (nI 0).toNatClampNeg (vp_nar .boolean (nI 1))) (nI (0 + 1)).toNatClampNeg (vp_nar .boolean (nI 1))) (nI ((0 + 1) + 1)).toNatClampNeg (vp_nar .boolean (nI 0)))))) := e_33
    have h_o : S31 o = some (2000, .inr (10, [.int (nI 2), m1, m2, m3, m4, .int 0, m6, m7, m8, m9, m10, m11, m12, m13, m14, m15, m16, m17, m18, m19, m20, m21, m22, m23, .ref fa, m25, m26, m27, m28, m29, m30])) := by rw [e_33]; exact mp_keep h_o h_fa (by decide)
    have h_fa : S31 fa = some (2016, .inl ((g 5), 3, .inl (upd (upd (upd ff (nI 0).toNatClampNeg (vp_nar .boolean (nI 1))) (nI (0 + 1)).toNatClampNeg (vp_nar .boolean (nI 1))) (nI ((0 + 1) + 1)).toNatClampNeg (vp_nar .boolean (nI 0))))) := by rw [e_33]; exact mp_us _ _ _
    have hfr : ∀ b, S b ≠ none → b ≠ fa → S31 b = S b := fun b h9 k0 => by rw [e_33]; exact (mp_un k0).trans (hfr b h9 k0)
    refine lv_iconst (v := nI 0) hx hb d_M_lookForFree_33 (by decide) ?_
    refine lv_istore_n (lv' := [(2, .int (nI 0)), (1, .int (nI ((0 + 1) + 1))), (0, .ref o)]) hx hb d_M_lookForFree_34 rfl hl (by decide) rfl (fun ls hl => ?_)
    refine lv_iload_n hx hb d_M_lookForFree_35 rfl (lv_at hl 0 rfl) ?_
    refine lv_aload_n hx hb d_M_lookForFree_36 rfl (lv_at hl 2 rfl) ?_
    refine mp_get (C := R_M) (T := F_M) (N := 31) (v := .int 0) hx hb hg i_M hown hK.va hI h_o rfl 5 (by decide) (hg _ q_809) (fun _ h9 => h9) rfl d_M_lookForFree_37 ?_
    refine lv_icmp_ge (tgt := 69) hx hb d_M_lookForFree_40 (by decide) (fun _ => ?_) (fun h9 => absurd (by decide) h9)
    refine lv_iinc (v := nI (((0 + 1) + 1) + 1)) (lv' := [(1, .int (nI (((0 + 1) + 1) + 1))), (2, .int (nI 0)), (0, .ref o)]) hx hb d_M_lookForFree_69 hl (k := 1) rfl (nI_1 _) (by decide) rfl (fun ls hl => ?_)
    refine lv_goto (tgt := 2) hx hb d_M_lookForFree_72 (by decide) ?_
    refine lv_iload_n hx hb d_M_lookForFree_2 rfl (lv_at hl 0 rfl) ?_
    refine lv_iconst (v := nI 3) hx hb d_M_lookForFree_3 (by decide) ?_
    refine lv_icmp_ge (tgt := 75) hx hb d_M_lookForFree_4 (by decide) (fun _ => ?_) (fun h9 => absurd (by decide) h9)
    refine mp_vret hx hb hr hlocks hI (by decide) (by decide) ?_ d_M_lookForFree_75
    exact ⟨_, h_fa, rfl, hfr⟩
  · refine lv_iload_n hx hb d_M_lookForFree_2 rfl (lv_at hl 0 rfl) ?_
    refine lv_iconst (v := nI 3) hx hb d_M_lookForFree_3 (by decide) ?_
    refine lv_icmp_ge (tgt := 75) hx hb d_M_lookForFree_4 (by decide) (fun h9 => absurd h9 (by decide)) (fun _ => ?_)
    refine lv_aload_n hx hb d_M_lookForFree_7 rfl (lv_at hl 1 rfl) ?_
    refine mp_get (C := R_M) (T := F_M) (N := 31) (v := .ref fa) hx hb hg i_M hown hK.va hI h_o rfl 24 (by decide) (hg _ q_828) (fun _ h9 => h9) rfl d_M_lookForFree_8 ?_
    refine lv_iload_n hx hb d_M_lookForFree_11 rfl (lv_at hl 0 rfl) ?_
    refine lv_iload_n hx hb d_M_lookForFree_12 rfl (lv_at hl 0 rfl) ?_
    refine lv_aload_n hx hb d_M_lookForFree_13 rfl (lv_at hl 1 rfl) ?_
    refine mp_get (C := R_M) (T := F_M) (N := 31) (v := .int (nI 3)) hx hb hg i_M hown hK.va hI h_o rfl 0 (by decide) (hg _ q_804) (fun _ h9 => h9) rfl d_M_lookForFree_14 ?_
    refine lv_icmp_ge (tgt := 31) hx hb d_M_lookForFree_17 (by decide) (fun h9 => absurd h9 (by decide)) (fun _ => ?_)
    refine lv_aload_n hx hb d_M_lookForFree_20 rfl (lv_at hl 1 rfl) ?_
    refine mp_calli hI (va_runV (As := []) (rest := [.int (nI 0), .ref fa]) ⟨hx, hb, hml, hown, hg⟩ (c_M_hasOne0 l D g S _ o (.int (nI 3)) m1 m2 m3 m4 m6 m7 m8 m9 m10 m11 m12 m13 m14 m15 m16 m17 m18 m19 m20 m21 m22 m23 (.ref fa) m25 m26 m27 m28 m29 m30 h_o) ⟨(callB_of 0 hg (wd_goodG q_959) rfl rfl rfl (hg _ q_5) (hg _ q_956) (by decide +kernel) ⟨Nat.le_of_ble_eq_true rfl, Nat.le_of_ble_eq_true rfl⟩), hg _ q_958, hg _ qs_27⟩ (mp_preV (C := R_M) (T := F_M) hI hK h_o rfl []) rfl rfl hl.1 rfl (lv_room (Nat.le_of_ble_eq_true rfl)) d_M_lookForFree_21 ⟨Nat.le_of_ble_eq_true rfl, Nat.le_of_ble_eq_true rfl⟩) (fun r37 S34 H35 locs p_36 hI => ?_)
    obtain ⟨er37, eS38⟩ := p_36
    rw [eS38] at hI
    have er37 : r37 = 0 := er37
    subst er37
    refine lv_if_ne (tgt := 31) hx hb d_M_lookForFree_24 (by decide) (fun h9 => absurd h9 (by decide)) (fun _ => ?_)
    refine lv_iconst (v := nI 1) hx hb d_M_lookForFree_27 (by decide) ?_
    refine lv_goto (tgt := 32) hx hb d_M_lookForFree_28 (by decide) ?_
    refine mp_zast hx hb hK.va hI 5 h_fa rfl (vp_in_nI (by decide) (by decide)) d_M_lookForFree_32 (fun S39 H40 locs e_41 hI => ?_)
    have e_41 : S39 = va_up S fa (some (2016, .inl ((g 5), 3, .inl (upd ff (nI 0).toNatClampNeg (vp_nar .boolean (nI 1)))))) := e_41
    have h_o : S39 o = some (2000, .inr (10, [.int (nI 3), m1, m2, m3, m4, .int 0, m6, m7, m8, m9, m10, m11, m12, m13, m14, m15, m16, m17, m18, m19, m20, m21, m22, m23, .ref fa, m25, m26, m27, m28, m29, m30])) := by rw [e_41]; exact mp_keep h_o h_fa (by decide)
    have h_fa : S39 fa = some (2016, .inl ((g 5), 3, .inl (upd ff (nI 0).toNatClampNeg (vp_nar .boolean (nI 1))))) := by rw [e_41]; exact mp_us _ _ _
    have hfr : ∀ b, S b ≠ none → b ≠ fa → S39 b = S b := fun b h9 k0 => by rw [e_41]; exact (mp_un k0).trans (hfr b h9 k0)
    refine lv_iconst (v := nI 0) hx hb d_M_lookForFree_33 (by decide) ?_
    refine lv_istore_n (lv' := [(2, .int (nI 0)), (1, .int (nI 0)), (0, .ref o)]) hx hb d_M_lookForFree_34 rfl hl (by decide) rfl (fun ls hl => ?_)
    refine lv_iload_n hx hb d_M_lookForFree_35 rfl (lv_at hl 0 rfl) ?_
    refine lv_aload_n hx hb d_M_lookForFree_36 rfl (lv_at hl 2 rfl) ?_
    refine mp_get (C := R_M) (T := F_M) (N := 31) (v := .int 0) hx hb hg i_M hown hK.va hI h_o rfl 5 (by decide) (hg _ q_809) (fun _ h9 => h9) rfl d_M_lookForFree_37 ?_
    refine lv_icmp_ge (tgt := 69) hx hb d_M_lookForFree_40 (by decide) (fun _ => ?_) (fun h9 => absurd (by decide) h9)
    refine lv_iinc (v := nI (0 + 1)) (lv' := [(1, .int (nI (0 + 1))), (2, .int (nI 0)), (0, .ref o)]) hx hb d_M_lookForFree_69 hl (k := 1) rfl (nI_1 _) (by decide) rfl (fun ls hl => ?_)
    refine lv_goto (tgt := 2) hx hb d_M_lookForFree_72 (by decide) ?_
    refine lv_iload_n hx hb d_M_lookForFree_2 rfl (lv_at hl 0 rfl) ?_
    refine lv_iconst (v := nI 3) hx hb d_M_lookForFree_3 (by decide) ?_
    refine lv_icmp_ge (tgt := 75) hx hb d_M_lookForFree_4 (by decide) (fun h9 => absurd h9 (by decide)) (fun _ => ?_)
    refine lv_aload_n hx hb d_M_lookForFree_7 rfl (lv_at hl 2 rfl) ?_
    refine mp_get (C := R_M) (T := F_M) (N := 31) (v := .ref fa) hx hb hg i_M hown hK.va hI h_o rfl 24 (by decide) (hg _ q_828) (fun _ h9 => h9) rfl d_M_lookForFree_8 ?_
    refine lv_iload_n hx hb d_M_lookForFree_11 rfl (lv_at hl 0 rfl) ?_
    refine lv_iload_n hx hb d_M_lookForFree_12 rfl (lv_at hl 0 rfl) ?_
    refine lv_aload_n hx hb d_M_lookForFree_13 rfl (lv_at hl 2 rfl) ?_
    refine mp_get (C := R_M) (T := F_M) (N := 31) (v := .int (nI 3)) hx hb hg i_M hown hK.va hI h_o rfl 0 (by decide) (hg _ q_804) (fun _ h9 => h9) rfl d_M_lookForFree_14 ?_
    refine lv_icmp_ge (tgt := 31) hx hb d_M_lookForFree_17 (by decide) (fun h9 => absurd h9 (by decide)) (fun _ => ?_)
    refine lv_aload_n hx hb d_M_lookForFree_20 rfl (lv_at hl 2 rfl) ?_
    refine mp_calli hI (va_runV (As := []) (rest := [.int (nI (0 + 1)), .ref fa]) ⟨hx, hb, hml, hown, hg⟩ (c_M_hasOne0 l D g S39 _ o (.int (nI 3)) m1 m2 m3 m4 m6 m7 m8 m9 m10 m11 m12 m13 m14 m15 m16 m17 m18 m19 m20 m21 m22 m23 (.ref fa) m25 m26 m27 m28 m29 m30 h_o) ⟨(callB_of 0 hg (wd_goodG q_959) rfl rfl rfl (hg _ q_5) (hg _ q_956) (by decide +kernel) ⟨Nat.le_of_ble_eq_true rfl, Nat.le_of_ble_eq_true rfl⟩), hg _ q_958, hg _ qs_27⟩ (mp_preV (C := R_M) (T := F_M) hI hK h_o rfl []) rfl rfl hl.1 rfl (lv_room (Nat.le_of_ble_eq_true rfl)) d_M_lookForFree_21 ⟨Nat.le_of_ble_eq_true rfl, Nat.le_of_ble_eq_true rfl⟩) (fun r45 S42 H43 locs p_44 hI => ?_)
    obtain ⟨er45, eS46⟩ := p_44
    rw [eS46] at hI
    have er45 : r45 = 0 := er45
    subst er45
    refine lv_if_ne (tgt := 31) hx hb d_M_lookForFree_24 (by decide) (fun h9 => absurd h9 (by decide)) (fun _ => ?_)
    refine lv_iconst (v := nI 1) hx hb d_M_lookForFree_27 (by decide) ?_
    refine lv_goto (tgt := 32) hx hb d_M_lookForFree_28 (by decide) ?_
    refine mp_zast hx hb hK.va hI 5 h_fa rfl (vp_in_nI (by decide) (by decide)) d_M_lookForFree_32 (fun S47 H48 locs e_49 hI => ?_)
    have e_49 : S47 = va_up S39 fa (some (2016, .inl ((g 5), 3, .inl (upd (upd ff (nI 0).toNatClampNeg (vp_nar .boolean (nI 1))) (nI (0 + 1)).toNatClampNeg (vp_nar .boolean (nI 1)))))) := e_49
    have h_o : S47 o = some (2000, .inr (10, [.int (nI 3), m1, m2, m3, m4, .int 0, m6, m7, m8, m9, m10, m11, m12, m13, m14, m15, m16, m17, m18, m19, m20, m21, m22, m23, .ref fa, m25, m26, m27, m28, m29, m30])) := by rw [e_49]; exact mp_keep h_o h_fa (by decide)
    have h_fa : S47 fa = some (2016, .inl ((g 5), 3, .inl (upd (upd ff (nI 0).toNatClampNeg (vp_nar .boolean (nI 1))) (nI (0 + 1)).toNatClampNeg (vp_nar .boolean (nI 1))))) := by rw [e_49]; exact mp_us _ _ _
    have hfr : ∀ b, S b ≠ none → b ≠ fa → S47 b = S b := fun b h9 k0 => by rw [e_49]; exact (mp_un k0).trans (hfr b h9 k0)
    refine lv_iconst (v := nI 0) hx hb d_M_lookForFree_33 (by decide) ?_
    refine lv_istore_n (lv' := [(2, .int (nI 0)), (1, .int (nI (0 + 1))), (0, .ref o)]) hx hb d_M_lookForFree_34 rfl hl (by decide) rfl (fun ls hl => ?_)
    refine lv_iload_n hx hb d_M_lookForFree_35 rfl (lv_at hl 0 rfl) ?_
    refine lv_aload_n hx hb d_M_lookForFree_36 rfl (lv_at hl 2 rfl) ?_
    refine mp_get (C := R_M) (T := F_M) (N := 31) (v := .int 0) hx hb hg i_M hown hK.va hI h_o rfl 5 (by decide) (hg _ q_809) (fun _ h9 => h9) rfl d_M_lookForFree_37 ?_
    refine lv_icmp_ge (tgt := 69) hx hb d_M_lookForFree_40 (by decide) (fun _ => ?_) (fun h9 => absurd (by decide) h9)
    refine lv_iinc (v := nI ((0 + 1) + 1)) (lv' := [(1, .int (nI ((0 + 1) + 1))), (2, .int (nI 0)), (0, .ref o)]) hx hb d_M_lookForFree_69 hl (k := 1) rfl (nI_1 _) (by decide) rfl (fun ls hl => ?_)
    refine lv_goto (tgt := 2) hx hb d_M_lookForFree_72 (by decide) ?_
    refine lv_iload_n hx hb d_M_lookForFree_2 rfl (lv_at hl 0 rfl) ?_
    refine lv_iconst (v := nI 3) hx hb d_M_lookForFree_3 (by decide) ?_
    refine lv_icmp_ge (tgt := 75) hx hb d_M_lookForFree_4 (by decide) (fun h9 => absurd h9 (by decide)) (fun _ => ?_)
    refine lv_aload_n hx hb d_M_lookForFree_7 rfl (lv_at hl 2 rfl) ?_
    refine mp_get (C := R_M) (T := F_M) (N := 31) (v := .ref fa) hx hb hg i_M hown hK.va hI h_o rfl 24 (by decide) (hg _ q_828) (fun _ h9 => h9) rfl d_M_lookForFree_8 ?_
    refine lv_iload_n hx hb d_M_lookForFree_11 rfl (lv_at hl 0 rfl) ?_
    refine lv_iload_n hx hb d_M_lookForFree_12 rfl (lv_at hl 0 rfl) ?_
    refine lv_aload_n hx hb d_M_lookForFree_13 rfl (lv_at hl 2 rfl) ?_
    refine mp_get (C := R_M) (T := F_M) (N := 31) (v := .int (nI 3)) hx hb hg i_M hown hK.va hI h_o rfl 0 (by decide) (hg _ q_804) (fun _ h9 => h9) rfl d_M_lookForFree_14 ?_
    refine lv_icmp_ge (tgt := 31) hx hb d_M_lookForFree_17 (by decide) (fun h9 => absurd h9 (by decide)) (fun _ => ?_)
    refine lv_aload_n hx hb d_M_lookForFree_20 rfl (lv_at hl 2 rfl) ?_
    refine mp_calli hI (va_runV (As := []) (rest := [.int (nI ((0 + 1) + 1)), .ref fa]) ⟨hx, hb, hml, hown, hg⟩ (c_M_hasOne0 l D g S47 _ o (.int (nI 3)) m1 m2 m3 m4 m6 m7 m8 m9 m10 m11 m12 m13 m14 m15 m16 m17 m18 m19 m20 m21 m22 m23 (.ref fa) m25 m26 m27 m28 m29 m30 h_o) ⟨(callB_of 0 hg (wd_goodG q_959) rfl rfl rfl (hg _ q_5) (hg _ q_956) (by decide +kernel) ⟨Nat.le_of_ble_eq_true rfl, Nat.le_of_ble_eq_true rfl⟩), hg _ q_958, hg _ qs_27⟩ (mp_preV (C := R_M) (T := F_M) hI hK h_o rfl []) rfl rfl hl.1 rfl (lv_room (Nat.le_of_ble_eq_true rfl)) d_M_lookForFree_21 ⟨Nat.le_of_ble_eq_true rfl, Nat.le_of_ble_eq_true rfl⟩) (fun r53 S50 H51 locs p_52 hI => ?_)
    obtain ⟨er53, eS54⟩ := p_52
    rw [eS54] at hI
    have er53 : r53 = 0 := er53
    subst er53
    refine lv_if_ne (tgt := 31) hx hb d_M_lookForFree_24 (by decide) (fun h9 => absurd h9 (by decide)) (fun _ => ?_)
    refine lv_iconst (v := nI 1) hx hb d_M_lookForFree_27 (by decide) ?_
    refine lv_goto (tgt := 32) hx hb d_M_lookForFree_28 (by decide) ?_
    refine mp_zast hx hb hK.va hI 5 h_fa rfl (vp_in_nI (by decide) (by decide)) d_M_lookForFree_32 (fun S55 H56 locs e_57 hI => ?_)
    have e_57 : S55 = va_up S47 fa (some (2016, .inl ((g 5), 3, .inl (upd (upd (upd ff (nI 0).toNatClampNeg (vp_nar .boolean (nI 1))) (nI (0 + 1)).toNatClampNeg (vp_nar .boolean (nI 1))) (nI ((0 + 1) + 1)).toNatClampNeg (vp_nar .boolean (nI 1)))))) := e_57
    have h_o : S55 o = some (2000, .inr (10, [.int (nI 3), m1, m2, m3, m4, .int 0, m6, m7, m8, m9, m10, m11, m12, m13, m14, m15, m16, m17, m18, m19, m20, m21, m22, m23, .ref fa, m25, m26, m27, m28, m29, m30])) := by rw [e_57]; exact mp_keep h_o h_fa (by decide)
    have h_fa : S55 fa = some (2016, .inl ((g 5), 3, .inl (upd (upd (upd ff (nI 0).toNatClampNeg (vp_nar .boolean (nI 1))) (nI (0 + 1)).toNatClampNeg (vp_nar .boolean (nI 1))) (nI ((0 + 1) + 1)).toNatClampNeg (vp_nar .boolean (nI 1))))) := by rw [e_57]; exact mp_us _ _ _
    have hfr : ∀ b, S b ≠ none → b ≠ fa → S55 b = S b := fun b h9 k0 => by rw [e_57]; exact (mp_un k0).trans (hfr b h9 k0)
    refine lv_iconst (v := nI 0) hx hb d_M_lookForFree_33 (by decide) ?_
    refine lv_istore_n (lv' := [(2, .int (nI 0)), (1, .int (nI ((0 + 1) + 1))), (0, .ref o)]) hx hb d_M_lookForFree_34 rfl hl (by decide) rfl (fun ls hl => ?_)
    refine lv_iload_n hx hb d_M_lookForFree_35 rfl (lv_at hl 0 rfl) ?_
    refine lv_aload_n hx hb d_M_lookForFree_36 rfl (lv_at hl 2 rfl) ?_
    refine mp_get (C := R_M) (T := F_M) (N := 31) (v := .int 0) hx hb hg i_M hown hK.va hI h_o rfl 5 (by decide) (hg _ q_809) (fun _ h9 => h9) rfl d_M_lookForFree_37 ?_
    refine lv_icmp_ge (tgt := 69) hx hb d_M_lookForFree_40 (by decide) (fun _ => ?_) (fun h9 => absurd (by decide) h9)
    refine lv_iinc (v := nI (((0 + 1) + 1) + 1)) (lv' := [(1, .int (nI (((0 + 1) + 1) + 1))), (2, .int (nI 0)), (0, .ref o)]) hx hb d_M_lookForFree_69 hl (k := 1) rfl (nI_1 _) (by decide) rfl (fun ls hl => ?_)
    refine lv_goto (tgt := 2) hx hb d_M_lookForFree_72 (by decide) ?_
    refine lv_iload_n hx hb d_M_lookForFree_2 rfl (lv_at hl 0 rfl) ?_
    refine lv_iconst (v := nI 3) hx hb d_M_lookForFree_3 (by decide) ?_
    refine lv_icmp_ge (tgt := 75) hx hb d_M_lookForFree_4 (by decide) (fun _ => ?_) (fun h9 => absurd (by decide) h9)
    refine mp_vret hx hb hr hlocks hI (by decide) (by decide) ?_ d_M_lookForFree_75
    exact ⟨_, h_fa, rfl, hfr⟩
set_option maxHeartbeats 4000000 in
set_option maxRecDepth 100000 in
/-- the first letter is free -/
theorem c_M_isFinite0 (l : Launch) (D : mp_G) (g : Nat → ClassId) (S : mp_M) (sz : Nat) (o fa n : Nat) (m1 m2 m3 m4 m5 m6 m7 m8 m9 m10 m11 m12 m13 m14 m15 m16 m17 m18 m19 m20 m21 m22 m23 m25 m26 m27 m28 m29 m30 : Value) (ff : Nat → Int32) (h_o : S o = some (2000, .inr (10, [.int (nI n), m1, m2, m3, m4, m5, m6, m7, m8, m9, m10, m11, m12, m13, m14, m15, m16, m17, m18, m19, m20, m21, m22, m23, .ref fa, m25, m26, m27, m28, m29, m30]))) (h_fa : S fa = some (2016, .inl ((g 5), 3, .inl ff))) (hn : n ≤ 3) (hn1 : 1 ≤ n) (hf : ff 0 = 1) : Met l y_M_isFinite w_M_isFinite ({ frames := 0, cells := 0, slots := 0, locals := 0 }) (va_Pc [.ref o] (mp_B0 D classes (tys g) S sz)) (va_Qi (fun (r : Int32) (S1 : mp_M) => r = 0 ∧ S1 = S) (mp_B1 D classes S sz) (mp_A S sz)) 0 0 (mp_A S sz) := by
  refine Met.ofW (cc := b_M_isFinite) (maxL := 2) (ret := (some .boolean)) (by decide) rfl ?_
  intro p e s m args below meth c s₁ B hml hv
  obtain ⟨rfl, hsz, hH, hK⟩ := hv
  have hx := B.exec
  have hb := B.bytes
  have hr := B.returns
  have hts := atoms_spec (ws := w_M_isFinite) B.pre
  have hg : ∀ w ∈ gw, w.before _ s = true := fun w h => hts w (List.mem_cons_of_mem _ h)
  have hown : s.vm.findClass R_M = some m.cls := findClass_of_methodNamed B.named
  have hlocks := B.notSynchronized
  subst hsz
  have hI := mp_I.start hH
  have hl := lv_entry ([.ref o]) (n := 2) (Nat.le_of_ble_eq_true rfl)
  rw [lg_entry_eq]
  generalize (lg_sl ([.ref o]) ++ List.replicate (2 - (lg_sl ([.ref o])).length) Slot.unset).toArray = ls at hl ⊢
  have hl : lv_has ls 2 [(0, .ref o)] := hl
  refine lv_iconst (v := nI 0) hx hb d_M_isFinite_0 (by decide) ?_
  refine lv_istore_n (lv' := [(1, .int (nI 0)), (0, .ref o)]) hx hb d_M_isFinite_1 rfl hl (by decide) rfl (fun ls hl => ?_)
  refine lv_iload_n hx hb d_M_isFinite_2 rfl (lv_at hl 0 rfl) ?_
  refine lv_aload_n hx hb d_M_isFinite_3 rfl (lv_at hl 1 rfl) ?_
  refine mp_get (C := R_M) (T := F_M) (N := 31) (v := .int (nI n)) hx hb hg i_M hown hK.va hI h_o rfl 0 (by decide) (hg _ q_804) (fun _ h9 => h9) rfl d_M_isFinite_4 ?_
  refine lv_icmp_ge (tgt := 27) hx hb d_M_isFinite_7 (by decide) (fun h9 => absurd h9 (by rw [nI_leI (by omega) (by omega)]; omega)) (fun _ => ?_)
  refine lv_aload_n hx hb d_M_isFinite_10 rfl (lv_at hl 1 rfl) ?_
  refine mp_get (C := R_M) (T := F_M) (N := 31) (v := .ref fa) hx hb hg i_M hown hK.va hI h_o rfl 24 (by decide) (hg _ q_828) (fun _ h9 => h9) rfl d_M_isFinite_11 ?_
  refine lv_iload_n hx hb d_M_isFinite_14 rfl (lv_at hl 0 rfl) ?_
  refine mp_zald hx hb hK.va hI 5 h_fa rfl (vp_in_nI (by decide) (by decide)) d_M_isFinite_15 ?_
  refine lv_topi (fun v1 ev1 => ?_)
  obtain rfl : v1 = 1 := ev1.trans (hf)
  refine lv_if_eq (tgt := 21) hx hb d_M_isFinite_16 (by decide) (fun h9 => absurd h9 (by decide)) (fun _ => ?_)
  refine lv_iconst (v := nI 0) hx hb d_M_isFinite_19 (by decide) ?_
  refine mp_zret hx hb hr hlocks hI (by decide) (by decide) ?_ (by decide) d_M_isFinite_20
  exact ⟨rfl, rfl⟩
set_option maxHeartbeats 4000000 in
set_option maxRecDepth 100000 in
/-- run on an empty list -/
theorem c_M_run0 (l : Launch) (D : mp_G) (g : Nat → ClassId) (S : mp_M) (sz : Nat) (o fa n : Nat) (m1 m2 m4 m6 m7 m8 m9 m10 m11 m14 m15 m16 m17 m18 m19 m20 m21 m22 m23 m25 m26 m27 m28 m29 m30 : Value) (th kn ak : Int32) (ff : Nat → Int32) (h_o : S o = some (2000, .inr (10, [.int (nI n), m1, m2, .int th, m4, .int 0, m6, m7, m8, m9, m10, m11, .int kn, .int ak, m14, m15, m16, m17, m18, m19, m20, m21, m22, m23, .ref fa, m25, m26, m27, m28, m29, m30]))) (h_fa : S fa = some (2016, .inl ((g 5), 3, .inl ff))) (hn : n ≤ 3) (hn1 : 1 ≤ n) : Met l y_M_run w_M_run ({ frames := 2, cells := 0, slots := 0, locals := 43 }) (va_Pc [.ref o] (mp_B0 D classes (tys g) S sz)) (va_Qi (fun (r : Int32) (S1 : mp_M) => r = -2 ∧ (∀ b, S b ≠ none → b ≠ o → b ≠ fa → S1 b = S b)) (mp_B1 D classes S sz) (mp_A S sz)) 0 0 (mp_A S sz) := by
  refine Met.ofW (cc := b_M_run) (maxL := 2) (ret := (some .int)) (by decide) rfl ?_
  intro p e s m args below meth c s₁ B hml hv
  obtain ⟨rfl, hsz, hH, hK⟩ := hv
  have hx := B.exec
  have hb := B.bytes
  have hr := B.returns
  have hts := atoms_spec (ws := w_M_run) B.pre
  have hg : ∀ w ∈ gw, w.before _ s = true := fun w h => hts w (List.mem_cons_of_mem _ h)
  have hown : s.vm.findClass R_M = some m.cls := findClass_of_methodNamed B.named
  have hlocks := B.notSynchronized
  subst hsz
  have hI := mp_I.start hH
  have hl := lv_entry ([.ref o]) (n := 2) (Nat.le_of_ble_eq_true rfl)
  rw [lg_entry_eq]
  generalize (lg_sl ([.ref o]) ++ List.replicate (2 - (lg_sl ([.ref o])).length) Slot.unset).toArray = ls at hl ⊢
  have hl : lv_has ls 2 [(0, .ref o)] := hl
  have hfr : ∀ b, S b ≠ none → b ≠ o → b ≠ fa → S b = S b := fun _ _ _ _ => rfl
  refine lv_aload_n hx hb d_M_run_0 rfl (lv_at hl 0 rfl) ?_
  refine lv_iconst (v := nI 0) hx hb d_M_run_1 (by decide) ?_
  refine mp_put (C := R_M) (T := F_M) (N := 31) (v := .int (nI 0)) (ty := .int) hx hb hg i_M t_M t_M_ok n_M hown hK.va hI h_o rfl 3 (by decide) (hg _ q_807) (fun _ h9 => h9) rfl (by decide +kernel) (rfl) rfl (Nat.le_of_ble_eq_true rfl) d_M_run_2 (fun S1 H2 locs e_3 hI => ?_)
  have e_3 : S1 = va_up S o (some (2000, .inr (10, [.int (nI n), m1, m2, .int (nI 0), m4, .int 0, m6, m7, m8, m9, m10, m11, .int kn, .int ak, m14, m15, m16, m17, m18, m19, m20, m21, m22, m23, .ref fa, m25, m26, m27, m28, m29, m30]))) := e_3
  have h_fa : S1 fa = some (2016, .inl ((g 5), 3, .inl ff)) := by rw [e_3]; exact mp_keep h_fa h_o (by decide)
  have h_o : S1 o = some (2000, .inr (10, [.int (nI n), m1, m2, .int (nI 0), m4, .int 0, m6, m7, m8, m9, m10, m11, .int kn, .int ak, m14, m15, m16, m17, m18, m19, m20, m21, m22, m23, .ref fa, m25, m26, m27, m28, m29, m30])) := by rw [e_3]; exact mp_us _ _ _
  have hfr : ∀ b, S b ≠ none → b ≠ o → b ≠ fa → S1 b = S b := fun b h9 k0 k1 => by rw [e_3]; exact (mp_un k0).trans (hfr b h9 k0 k1)
  refine lv_aload_n hx hb d_M_run_5 rfl (lv_at hl 0 rfl) ?_
  refine lv_iconst (v := nI 0) hx hb d_M_run_6 (by decide) ?_
  refine mp_put (C := R_M) (T := F_M) (N := 31) (v := .int (nI 0)) (ty := .boolean) hx hb hg i_M t_M t_M_ok n_M hown hK.va hI h_o rfl 12 (by decide) (hg _ q_816) (fun _ h9 => h9) rfl (by decide +kernel) (rfl) rfl (Nat.le_of_ble_eq_true rfl) d_M_run_7 (fun S4 H5 locs e_6 hI => ?_)
  have e_6 : S4 = va_up S1 o (some (2000, .inr (10, [.int (nI n), m1, m2, .int (nI 0), m4, .int 0, m6, m7, m8, m9, m10, m11, .int (nI 0), .int ak, m14, m15, m16, m17, m18, m19, m20, m21, m22, m23, .ref fa, m25, m26, m27, m28, m29, m30]))) := e_6
  have h_fa : S4 fa = some (2016, .inl ((g 5), 3, .inl ff)) := by rw [e_6]; exact mp_keep h_fa h_o (by decide)
  have h_o : S4 o = some (2000, .inr (10, [.int (nI n), m1, m2, .int (nI 0), m4, .int 0, m6, m7, m8, m9, m10, m11, .int (nI 0), .int ak, m14, m15, m16, m17, m18, m19, m20, m21, m22, m23, .ref fa, m25, m26, m27, m28, m29, m30])) := by rw [e_6]; exact mp_us _ _ _
  have hfr : ∀ b, S b ≠ none → b ≠ o → b ≠ fa → S4 b = S b := fun b h9 k0 k1 => by rw [e_6]; exact (mp_un k0).trans (hfr b h9 k0 k1)
  refine lv_aload_n hx hb d_M_run_10 rfl (lv_at hl 0 rfl) ?_
  refine lv_iconst (v := nI 1) hx hb d_M_run_11 (by decide) ?_
  refine mp_put (C := R_M) (T := F_M) (N := 31) (v := .int (nI 1)) (ty := .boolean) hx hb hg i_M t_M t_M_ok n_M hown hK.va hI h_o rfl 13 (by decide) (hg _ q_817) (fun _ h9 => h9) rfl (by decide +kernel) (rfl) rfl (Nat.le_of_ble_eq_true rfl) d_M_run_12 (fun S7 H8 locs e_9 hI => ?_)
  have e_9 : S7 = va_up S4 o (some (2000, .inr (10, [.int (nI n), m1, m2, .int (nI 0), m4, .int 0, m6, m7, m8, m9, m10, m11, .int (nI 0), .int (nI 1), m14, m15, m16, m17, m18, m19, m20, m21, m22, m23, .ref fa, m25, m26, m27, m28, m29, m30]))) := e_9
  have h_fa : S7 fa = some (2016, .inl ((g 5), 3, .inl ff)) := by rw [e_9]; exact mp_keep h_fa h_o (by decide)
  have h_o : S7 o = some (2000, .inr (10, [.int (nI n), m1, m2, .int (nI 0), m4, .int 0, m6, m7, m8, m9, m10, m11, .int (nI 0), .int (nI 1), m14, m15, m16, m17, m18, m19, m20, m21, m22, m23, .ref fa, m25, m26, m27, m28, m29, m30])) := by rw [e_9]; exact mp_us _ _ _
  have hfr : ∀ b, S b ≠ none → b ≠ o → b ≠ fa → S7 b = S b := fun b h9 k0 k1 => by rw [e_9]; exact (mp_un k0).trans (hfr b h9 k0 k1)
  refine lv_aload_n hx hb d_M_run_15 rfl (lv_at hl 0 rfl) ?_
  refine mp_callv hI (va_runV (As := []) (rest := []) ⟨hx, hb, hml, hown, hg⟩ (c_M_look0 l D g S7 _ o fa n m1 m2 (.int (nI 0)) m4 m6 m7 m8 m9 m10 m11 (.int (nI 0)) (.int (nI 1)) m14 m15 m16 m17 m18 m19 m20 m21 m22 m23 m25 m26 m27 m28 m29 m30 ff h_o h_fa hn hn1) ⟨(callB_of 0 hg (wd_goodG q_955) rfl rfl rfl (hg _ q_5) (hg _ q_952) (by decide +kernel) ⟨Nat.le_of_ble_eq_true rfl, Nat.le_of_ble_eq_true rfl⟩), hg _ q_954, hg _ qs_26⟩ (mp_preV (C := R_M) (T := F_M) hI hK h_o rfl []) rfl rfl hl.1 rfl (lv_room (Nat.le_of_ble_eq_true rfl)) d_M_run_16 ⟨Nat.le_of_ble_eq_true rfl, Nat.le_of_ble_eq_true rfl⟩) (fun S10 H11 locs p_12 hI => ?_)
  obtain ⟨f1, hq_fa, hf1, fq⟩ := p_12
  have h_o : S10 o = some (2000, .inr (10, [.int (nI n), m1, m2, .int (nI 0), m4, .int 0, m6, m7, m8, m9, m10, m11, .int (nI 0), .int (nI 1), m14, m15, m16, m17, m18, m19, m20, m21, m22, m23, .ref fa, m25, m26, m27, m28, m29, m30])) := (fq o (mp_in h_o) (mp_ne h_o h_fa (by decide))).trans h_o
  have hfr : ∀ b, S b ≠ none → b ≠ o → b ≠ fa → S10 b = S b := fun b h9 k0 k1 => (fq b (by rw [hfr b h9 k0 k1]; exact h9) k1).trans (hfr b h9 k0 k1)
  refine lv_aload_n hx hb d_M_run_19 rfl (lv_at hl 0 rfl) ?_
  refine mp_calli hI (va_runV (As := []) (rest := []) ⟨hx, hb, hml, hown, hg⟩ (c_M_isBasis0 l D g S10 _ o (.int (nI n)) m1 m2 (.int (nI 0)) m4 m6 m7 m8 m9 m10 m11 (.int (nI 0)) (.int (nI 1)) m14 m15 m16 m17 m18 m19 m20 m21 m22 m23 (.ref fa) m25 m26 m27 m28 m29 m30 h_o) ⟨(callB_of 0 hg (wd_goodG q_966) rfl rfl rfl (hg _ q_5) (hg _ q_963) (by decide +kernel) ⟨Nat.le_of_ble_eq_true rfl, Nat.le_of_ble_eq_true rfl⟩), hg _ q_965, hg _ qs_28⟩ (mp_preV (C := R_M) (T := F_M) hI hK h_o rfl []) rfl rfl hl.1 rfl (lv_room (Nat.le_of_ble_eq_true rfl)) d_M_run_20 ⟨Nat.le_of_ble_eq_true rfl, Nat.le_of_ble_eq_true rfl⟩) (fun r17 S14 H15 locs p_16 hI => ?_)
  obtain ⟨er17, eS18⟩ := p_16
  rw [eS18] at hI
  have er17 : r17 = 1 := er17
  subst er17
  refine lv_if_ne (tgt := 28) hx hb d_M_run_23 (by decide) (fun _ => ?_) (fun h9 => absurd h9 (by decide))
  refine lv_aload_n hx hb d_M_run_28 rfl (lv_at hl 0 rfl) ?_
  refine mp_calli hI (va_runV (As := []) (rest := []) ⟨hx, hb, hml, hown, hg⟩ (c_M_isFinite0 l D g S10 _ o fa n m1 m2 (.int (nI 0)) m4 (.int 0) m6 m7 m8 m9 m10 m11 (.int (nI 0)) (.int (nI 1)) m14 m15 m16 m17 m18 m19 m20 m21 m22 m23 m25 m26 m27 m28 m29 m30 f1 h_o hq_fa hn hn1 hf1) ⟨(callB_of 0 hg (wd_goodG q_1002) rfl rfl rfl (hg _ q_5) (hg _ q_999) (by decide +kernel) ⟨Nat.le_of_ble_eq_true rfl, Nat.le_of_ble_eq_true rfl⟩), hg _ q_1001, hg _ qs_34⟩ (mp_preV (C := R_M) (T := F_M) hI hK h_o rfl []) rfl rfl hl.1 rfl (lv_room (Nat.le_of_ble_eq_true rfl)) d_M_run_29 ⟨Nat.le_of_ble_eq_true rfl, Nat.le_of_ble_eq_true rfl⟩) (fun r22 S19 H20 locs p_21 hI => ?_)
  obtain ⟨er22, eS23⟩ := p_21
  rw [eS23] at hI
  have er22 : r22 = 0 := er22
  subst er22
  refine lv_if_ne (tgt := 38) hx hb d_M_run_32 (by decide) (fun h9 => absurd h9 (by decide)) (fun _ => ?_)
  refine lv_bipush (v := (-2)) hx hb d_M_run_35 (by decide) ?_
  refine mp_iret hx hb hr hlocks hI (by decide) (by decide) ?_ d_M_run_37
  exact ⟨rfl, hfr⟩
