theorem nI_pos9 {k : Nat} (h : k < 2 ^ 31) : (0 : Int32) ≤ nI k := Int32.not_lt.mp (nI_pos h)
theorem nI_ne9 {k : Nat} (h : k < 2 ^ 31) (h0 : k ≠ 0) : nI k ≠ (0 : Int32) := fun q => h0 ((zI_eq h).mp q)
theorem kN_pw {n v : Nat} (h : pwOk n v) : kN (v % 16) (v / 16 % 16) (v / 256) < 2 ^ 31 := by
  obtain ⟨_, h1, h2, h3⟩ := h
  unfold kN
  omega
theorem d_B_take_0 : decode b_B_take 0 = .ok (.aload_n 0, 1) := by decide +kernel
theorem d_B_take_1 : decode b_B_take 1 = .ok (.iload_n 1, 1) := by decide +kernel
theorem d_B_take_2 : decode b_B_take 2 = .ok (.invokevirtual 53, 3) := by decide +kernel
theorem d_B_take_5 : decode b_B_take 5 = .ok (.astore_n 2, 1) := by decide +kernel
theorem d_B_take_6 : decode b_B_take 6 = .ok (.aload_n 0, 1) := by decide +kernel
theorem d_B_take_7 : decode b_B_take 7 = .ok (.getfield 84, 3) := by decide +kernel
theorem d_B_take_10 : decode b_B_take 10 = .ok (.bipush 12, 2) := by decide +kernel
theorem d_B_take_12 : decode b_B_take 12 = .ok (.if_icmp .lt 5, 3) := by decide +kernel
theorem d_B_take_17 : decode b_B_take 17 = .ok (.aload_n 0, 1) := by decide +kernel
theorem d_B_take_18 : decode b_B_take 18 = .ok (.dup, 1) := by decide +kernel
theorem d_B_take_19 : decode b_B_take 19 = .ok (.getfield 84, 3) := by decide +kernel
theorem d_B_take_22 : decode b_B_take 22 = .ok (.iconst 1, 1) := by decide +kernel
theorem d_B_take_23 : decode b_B_take 23 = .ok (.iadd, 1) := by decide +kernel
theorem d_B_take_24 : decode b_B_take 24 = .ok (.putfield 84, 3) := by decide +kernel
theorem d_B_take_27 : decode b_B_take 27 = .ok (.aload_n 0, 1) := by decide +kernel
theorem d_B_take_28 : decode b_B_take 28 = .ok (.getfield 18, 3) := by decide +kernel
theorem d_B_take_31 : decode b_B_take 31 = .ok (.aload_n 2, 1) := by decide +kernel
theorem d_B_take_32 : decode b_B_take 32 = .ok (.invokevirtual 87, 3) := by decide +kernel
theorem d_B_take_35 : decode b_B_take 35 = .ok (.aload_n 0, 1) := by decide +kernel
theorem d_B_take_36 : decode b_B_take 36 = .ok (.iconst 0, 1) := by decide +kernel
theorem d_B_take_37 : decode b_B_take 37 = .ok (.putfield 91, 3) := by decide +kernel
theorem d_B_take_40 : decode b_B_take 40 = .ok (.iconst 1, 1) := by decide +kernel
theorem d_B_take_41 : decode b_B_take 41 = .ok (.ireturn, 1) := by decide +kernel
theorem d_B_term_0 : decode b_B_term 0 = .ok (.aload_n 0, 1) := by decide +kernel
theorem d_B_term_1 : decode b_B_term 1 = .ok (.iload_n 1, 1) := by decide +kernel
theorem d_B_term_2 : decode b_B_term 2 = .ok (.invokevirtual 53, 3) := by decide +kernel
theorem d_B_term_5 : decode b_B_term 5 = .ok (.astore 7, 2) := by decide +kernel
theorem d_B_term_7 : decode b_B_term 7 = .ok (.iload 6, 2) := by decide +kernel
theorem d_B_term_9 : decode b_B_term 9 = .ok (.aload_n 0, 1) := by decide +kernel
theorem d_B_term_10 : decode b_B_term 10 = .ok (.getfield 35, 3) := by decide +kernel
theorem d_B_term_13 : decode b_B_term 13 = .ok (.invokestatic 57, 3) := by decide +kernel
theorem d_B_term_16 : decode b_B_term 16 = .ok (.istore 8, 2) := by decide +kernel
theorem d_B_term_18 : decode b_B_term 18 = .ok (.iload 8, 2) := by decide +kernel
theorem d_B_term_20 : decode b_B_term 20 = .ok (.ifCond .ge 13, 3) := by decide +kernel
theorem d_B_term_23 : decode b_B_term 23 = .ok (.new 62, 3) := by decide +kernel
theorem d_B_term_26 : decode b_B_term 26 = .ok (.dup, 1) := by decide +kernel
theorem d_B_term_27 : decode b_B_term 27 = .ok (.ldc 64, 2) := by decide +kernel
theorem d_B_term_29 : decode b_B_term 29 = .ok (.invokespecial 66, 3) := by decide +kernel
theorem d_B_term_32 : decode b_B_term 32 = .ok (.athrow, 1) := by decide +kernel
theorem d_B_term_33 : decode b_B_term 33 = .ok (.lload 4, 2) := by decide +kernel
theorem d_B_term_35 : decode b_B_term 35 = .ok (.invokestatic 67, 3) := by decide +kernel
theorem d_B_term_38 : decode b_B_term 38 = .ok (.istore 9, 2) := by decide +kernel
theorem d_B_term_40 : decode b_B_term 40 = .ok (.iload 9, 2) := by decide +kernel
theorem d_B_term_42 : decode b_B_term 42 = .ok (.ifCond .ne 13, 3) := by decide +kernel
theorem d_B_term_45 : decode b_B_term 45 = .ok (.new 71, 3) := by decide +kernel
theorem d_B_term_48 : decode b_B_term 48 = .ok (.dup, 1) := by decide +kernel
theorem d_B_term_49 : decode b_B_term 49 = .ok (.ldc 73, 2) := by decide +kernel
theorem d_B_term_51 : decode b_B_term 51 = .ok (.invokespecial 75, 3) := by decide +kernel
theorem d_B_term_54 : decode b_B_term 54 = .ok (.athrow, 1) := by decide +kernel
theorem d_B_term_55 : decode b_B_term 55 = .ok (.aload 7, 2) := by decide +kernel
theorem d_B_term_57 : decode b_B_term 57 = .ok (.iload 8, 2) := by decide +kernel
theorem d_B_term_59 : decode b_B_term 59 = .ok (.lload_n 2, 1) := by decide +kernel
theorem d_B_term_60 : decode b_B_term 60 = .ok (.invokestatic 67, 3) := by decide +kernel
theorem d_B_term_63 : decode b_B_term 63 = .ok (.iload 9, 2) := by decide +kernel
theorem d_B_term_65 : decode b_B_term 65 = .ok (.invokestatic 76, 3) := by decide +kernel
theorem d_B_term_68 : decode b_B_term 68 = .ok (.imul, 1) := by decide +kernel
theorem d_B_term_69 : decode b_B_term 69 = .ok (.sipush 32003, 3) := by decide +kernel
theorem d_B_term_72 : decode b_B_term 72 = .ok (.irem, 1) := by decide +kernel
theorem d_B_term_73 : decode b_B_term 73 = .ok (.invokevirtual 80, 3) := by decide +kernel
theorem d_B_term_76 : decode b_B_term 76 = .ok (.ireturn, 1) := by decide +kernel
theorem d_K_add_0 : decode b_K_add 0 = .ok (.aload_n 1, 1) := by decide +kernel
theorem d_K_add_1 : decode b_K_add 1 = .ok (.getfield 22, 3) := by decide +kernel
theorem d_K_add_4 : decode b_K_add 4 = .ok (.ifCond .le 50, 3) := by decide +kernel
theorem d_K_add_54 : decode b_K_add 54 = .ok (.return_, 1) := by decide +kernel
theorem d_Y_makeRoom_0 : decode b_Y_makeRoom 0 = .ok (.aload_n 0, 1) := by decide +kernel
theorem d_Y_makeRoom_1 : decode b_Y_makeRoom 1 = .ok (.getfield 18, 3) := by decide +kernel
theorem d_Y_makeRoom_4 : decode b_Y_makeRoom 4 = .ok (.aload_n 0, 1) := by decide +kernel
theorem d_Y_makeRoom_5 : decode b_Y_makeRoom 5 = .ok (.getfield 9, 3) := by decide +kernel
theorem d_Y_makeRoom_8 : decode b_Y_makeRoom 8 = .ok (.arraylength, 1) := by decide +kernel
theorem d_Y_makeRoom_9 : decode b_Y_makeRoom 9 = .ok (.if_icmp .ne 37, 3) := by decide +kernel
theorem d_Y_makeRoom_46 : decode b_Y_makeRoom 46 = .ok (.aload_n 0, 1) := by decide +kernel
theorem d_Y_makeRoom_47 : decode b_Y_makeRoom 47 = .ok (.getfield 18, 3) := by decide +kernel
theorem d_Y_makeRoom_50 : decode b_Y_makeRoom 50 = .ok (.istore_n 2, 1) := by decide +kernel
theorem d_Y_makeRoom_51 : decode b_Y_makeRoom 51 = .ok (.iload_n 2, 1) := by decide +kernel
theorem d_Y_makeRoom_52 : decode b_Y_makeRoom 52 = .ok (.iload_n 1, 1) := by decide +kernel
theorem d_Y_makeRoom_53 : decode b_Y_makeRoom 53 = .ok (.if_icmp .le 37, 3) := by decide +kernel
theorem d_Y_makeRoom_90 : decode b_Y_makeRoom 90 = .ok (.aload_n 0, 1) := by decide +kernel
theorem d_Y_makeRoom_91 : decode b_Y_makeRoom 91 = .ok (.dup, 1) := by decide +kernel
theorem d_Y_makeRoom_92 : decode b_Y_makeRoom 92 = .ok (.getfield 18, 3) := by decide +kernel
theorem d_Y_makeRoom_95 : decode b_Y_makeRoom 95 = .ok (.iconst 1, 1) := by decide +kernel
theorem d_Y_makeRoom_96 : decode b_Y_makeRoom 96 = .ok (.iadd, 1) := by decide +kernel
theorem d_Y_makeRoom_97 : decode b_Y_makeRoom 97 = .ok (.putfield 18, 3) := by decide +kernel
theorem d_Y_makeRoom_100 : decode b_Y_makeRoom 100 = .ok (.return_, 1) := by decide +kernel
theorem d_Y_put_0 : decode b_Y_put 0 = .ok (.iconst 0, 1) := by decide +kernel
theorem d_Y_put_1 : decode b_Y_put 1 = .ok (.istore_n 3, 1) := by decide +kernel
theorem d_Y_put_2 : decode b_Y_put 2 = .ok (.iload_n 3, 1) := by decide +kernel
theorem d_Y_put_3 : decode b_Y_put 3 = .ok (.aload_n 0, 1) := by decide +kernel
theorem d_Y_put_4 : decode b_Y_put 4 = .ok (.getfield 18, 3) := by decide +kernel
theorem d_Y_put_7 : decode b_Y_put 7 = .ok (.if_icmp .ge 19, 3) := by decide +kernel
theorem d_Y_put_26 : decode b_Y_put 26 = .ok (.iload_n 3, 1) := by decide +kernel
theorem d_Y_put_27 : decode b_Y_put 27 = .ok (.aload_n 0, 1) := by decide +kernel
theorem d_Y_put_28 : decode b_Y_put 28 = .ok (.getfield 18, 3) := by decide +kernel
theorem d_Y_put_31 : decode b_Y_put 31 = .ok (.if_icmp .ge 17, 3) := by decide +kernel
theorem d_Y_put_48 : decode b_Y_put 48 = .ok (.iconst 0, 1) := by decide +kernel
theorem d_Y_put_49 : decode b_Y_put 49 = .ok (.istore 4, 2) := by decide +kernel
theorem d_Y_put_51 : decode b_Y_put 51 = .ok (.iload 4, 2) := by decide +kernel
theorem d_Y_put_53 : decode b_Y_put 53 = .ok (.ifCond .eq 12, 3) := by decide +kernel
theorem d_Y_put_65 : decode b_Y_put 65 = .ok (.iconst 0, 1) := by decide +kernel
theorem d_Y_put_66 : decode b_Y_put 66 = .ok (.istore 5, 2) := by decide +kernel
theorem d_Y_put_68 : decode b_Y_put 68 = .ok (.iload 5, 2) := by decide +kernel
theorem d_Y_put_70 : decode b_Y_put 70 = .ok (.iload_n 2, 1) := by decide +kernel
theorem d_Y_put_71 : decode b_Y_put 71 = .ok (.if_icmp .ne 5, 3) := by decide +kernel
theorem d_Y_put_74 : decode b_Y_put 74 = .ok (.iconst 0, 1) := by decide +kernel
theorem d_Y_put_75 : decode b_Y_put 75 = .ok (.ireturn, 1) := by decide +kernel
theorem d_Y_put_76 : decode b_Y_put 76 = .ok (.iload 4, 2) := by decide +kernel
theorem d_Y_put_78 : decode b_Y_put 78 = .ok (.ifCond .ne 25, 3) := by decide +kernel
theorem d_Y_put_81 : decode b_Y_put 81 = .ok (.aload_n 0, 1) := by decide +kernel
theorem d_Y_put_82 : decode b_Y_put 82 = .ok (.iload_n 3, 1) := by decide +kernel
theorem d_Y_put_83 : decode b_Y_put 83 = .ok (.invokevirtual 22, 3) := by decide +kernel
theorem d_Y_put_86 : decode b_Y_put 86 = .ok (.aload_n 0, 1) := by decide +kernel
theorem d_Y_put_87 : decode b_Y_put 87 = .ok (.getfield 9, 3) := by decide +kernel
theorem d_Y_put_90 : decode b_Y_put 90 = .ok (.iload_n 3, 1) := by decide +kernel
theorem d_Y_put_91 : decode b_Y_put 91 = .ok (.iload_n 1, 1) := by decide +kernel
theorem d_Y_put_92 : decode b_Y_put 92 = .ok (.iastore, 1) := by decide +kernel
theorem d_Y_put_93 : decode b_Y_put 93 = .ok (.aload_n 0, 1) := by decide +kernel
theorem d_Y_put_94 : decode b_Y_put 94 = .ok (.getfield 15, 3) := by decide +kernel
theorem d_Y_put_97 : decode b_Y_put 97 = .ok (.iload_n 3, 1) := by decide +kernel
theorem d_Y_put_98 : decode b_Y_put 98 = .ok (.iload_n 2, 1) := by decide +kernel
theorem d_Y_put_99 : decode b_Y_put 99 = .ok (.iastore, 1) := by decide +kernel
theorem d_Y_put_100 : decode b_Y_put 100 = .ok (.goto 22, 3) := by decide +kernel
theorem d_Y_put_122 : decode b_Y_put 122 = .ok (.iconst 1, 1) := by decide +kernel
theorem d_Y_put_123 : decode b_Y_put 123 = .ok (.ireturn, 1) := by decide +kernel
set_option maxHeartbeats 4000000 in
set_option maxRecDepth 100000 in
/-- term: no such polynomial -/
theorem x_B_termI (l : Launch) (hl9 : l.stackTraces = false) (D : mp_G) (g : Nat → ClassId) (S : mp_M) (sz : Nat) (o pa n : Nat) (v2 v3 v4 v5 v6 v7 v8 v9 : Value) (x y : Int32) (ab be : Int64) (h_o : S o = some (0, .inr (0, [.int (nI n), .ref pa, v2, v3, v4, v5, v6, v7, v8, v9]))) (hx9 : x < 0 ∨ nI 40 ≤ x) : xp_Met l y_B_term w_B_term ({ frames := 7, cells := 1, slots := 6, locals := 111 }) (va_Pc [.ref o, .int x, .long ab, .long be, .int y] (mp_B0 D classes (tys g) S sz)) "java/lang/IndexOutOfBoundsException" D classes S 1 6 := by
  refine xp_ofW (cc := b_B_term) (maxL := 10) (ret := (some .boolean)) (by decide) rfl ?_
  intro p e s m args below meth c s₁ B hml hv
  obtain ⟨rfl, hsz, hH, hK⟩ := hv
  have hx := B.exec
  have hb := B.bytes
  have hr := B.returns
  have hts := atoms_spec (ws := w_B_term) B.pre
  have hg : ∀ w ∈ gw, w.before _ s = true := fun w h => hts w (List.mem_cons_of_mem _ h)
  have hown : s.vm.findClass R_B = some m.cls := findClass_of_methodNamed B.named
  have hlocks := B.notSynchronized
  have hne := B.noHandlers (hts _ List.mem_cons_self)
  subst hsz
  have hI := mp_I.start hH
  have hl := lv_entry ([.ref o, .int x, .long ab, .long be, .int y]) (n := 10) (Nat.le_of_ble_eq_true rfl)
  rw [lg_entry_eq]
  generalize (lg_sl ([.ref o, .int x, .long ab, .long be, .int y]) ++ List.replicate (10 - (lg_sl ([.ref o, .int x, .long ab, .long be, .int y])).length) Slot.unset).toArray = ls at hl ⊢
  have hl : lv_has ls 10 [(0, .ref o), (1, .int x), (2, .long ab), (4, .long be), (6, .int y)] := hl
  refine lv_aload_n hx hb d_B_term_0 rfl (lv_at hl 0 rfl) ?_
  refine lv_iload_n hx hb d_B_term_1 rfl (lv_at hl 1 rfl) ?_
  exact xp_out (mc := 1) (ms := 6) (noh hne) hlocks (xp_runV (As := [.int x]) (rest := []) ⟨hx, hb, hml, hown, hg⟩ (x_B_polynomialOf l hl9 D g S _ o pa (.int (nI n)) v2 v3 v4 v5 v6 v7 v8 v9 x h_o hx9) ⟨(callB_of 1 hg (wd_goodG q_632) rfl rfl rfl (hg _ q_1) (hg _ q_629) (by decide +kernel) ⟨Nat.le_of_ble_eq_true rfl, Nat.le_of_ble_eq_true rfl⟩), hg _ q_631, hg _ qs_20⟩ (mp_preV (C := R_B) (T := F_B) hI hK h_o rfl [.int x]) rfl hl.1 (lv_room (Nat.le_of_ble_eq_true rfl)) d_B_term_2 ⟨Nat.le_of_ble_eq_true rfl, Nat.le_of_ble_eq_true rfl⟩)
set_option maxHeartbeats 4000000 in
set_option maxRecDepth 100000 in
/-- term: a power below 0 -/
theorem x_B_termN (l : Launch) (hl9 : l.stackTraces = false) (D : mp_G) (g : Nat → ClassId) (S : mp_M) (sz : Nat) (o pa n : Nat) (eo : Nat → Nat) (v2 v3 v4 v5 v6 v7 v8 v9 : Value) (k : Nat) (y : Int32) (ab be : Int64) (h_o : S o = some (0, .inr (0, [.int (nI n), .ref pa, v2, v3, v4, v5, v6, v7, v8, v9]))) (h_pa : S pa = some (1, .inl ((g 2), 40, .inr (.inr (.inr (.inr (rfs eo 40))))))) (hk : k < 40) (hy : y < 0) : xp_Met l y_B_term w_B_term ({ frames := 7, cells := 1, slots := 6, locals := 111 }) (va_Pc [.ref o, .int (nI k), .long ab, .long be, .int y] (mp_B0 D classes (tys g) S sz)) "java/lang/IllegalArgumentException" D classes S 1 6 := by
  refine xp_ofW (cc := b_B_term) (maxL := 10) (ret := (some .boolean)) (by decide) rfl ?_
  intro p e s m args below meth c s₁ B hml hv
  obtain ⟨rfl, hsz, hH, hK⟩ := hv
  have hx := B.exec
  have hb := B.bytes
  have hr := B.returns
  have hts := atoms_spec (ws := w_B_term) B.pre
  have hg : ∀ w ∈ gw, w.before _ s = true := fun w h => hts w (List.mem_cons_of_mem _ h)
  have hown : s.vm.findClass R_B = some m.cls := findClass_of_methodNamed B.named
  have hlocks := B.notSynchronized
  have hne := B.noHandlers (hts _ List.mem_cons_self)
  subst hsz
  have hI := mp_I.start hH
  have hl := lv_entry ([.ref o, .int (nI k), .long ab, .long be, .int y]) (n := 10) (Nat.le_of_ble_eq_true rfl)
  rw [lg_entry_eq]
  generalize (lg_sl ([.ref o, .int (nI k), .long ab, .long be, .int y]) ++ List.replicate (10 - (lg_sl ([.ref o, .int (nI k), .long ab, .long be, .int y])).length) Slot.unset).toArray = ls at hl ⊢
  have hl : lv_has ls 10 [(0, .ref o), (1, .int (nI k)), (2, .long ab), (4, .long be), (6, .int y)] := hl
  refine lv_aload_n hx hb d_B_term_0 rfl (lv_at hl 0 rfl) ?_
  refine lv_iload_n hx hb d_B_term_1 rfl (lv_at hl 1 rfl) ?_
  refine pp_callr (va_runV (As := [.int (nI k)]) (rest := []) ⟨hx, hb, hml, hown, hg⟩ (p_B_polynomialOf l D g S _ o pa eo (.int (nI n)) v2 v3 v4 v5 v6 v7 v8 v9 k h_o h_pa hk) ⟨(callB_of 1 hg (wd_goodG q_632) rfl rfl rfl (hg _ q_1) (hg _ q_629) (by decide +kernel) ⟨Nat.le_of_ble_eq_true rfl, Nat.le_of_ble_eq_true rfl⟩), hg _ q_631, hg _ qs_20⟩ (mp_preV (C := R_B) (T := F_B) hI hK h_o rfl [.int (nI k)]) rfl rfl hl.1 rfl (lv_room (Nat.le_of_ble_eq_true rfl)) d_B_term_2 ⟨Nat.le_of_ble_eq_true rfl, Nat.le_of_ble_eq_true rfl⟩) (fun r1 er1 => ?_)
  have er1 : r1 = eo k := er1
  subst er1
  refine lv_astore (lv' := [(7, .ref (eo k)), (0, .ref o), (1, .int (nI k)), (2, .long ab), (4, .long be), (6, .int y)]) hx hb d_B_term_5 hl (by decide) rfl (fun ls hl => ?_)
  refine lv_iload hx hb d_B_term_7 (lv_at hl 5 rfl) ?_
  refine lv_aload_n hx hb d_B_term_9 rfl (lv_at hl 1 rfl) ?_
  refine mp_get (C := R_B) (T := F_B) (N := 10) (v := .int (nI n)) hx hb hg i_B hown hK.va hI h_o rfl 0 (by decide) (hg _ q_82) (fun _ h9 => h9) rfl d_B_term_10 ?_
  refine pp_calli (va_runS (As := [.int y, .int (nI n)]) (rest := []) ⟨hx, hb, hml, hown, hg⟩ (p_W_keyOfN l D g S _ y n hy) ⟨(callB_of 2 hg (wd_goodG q_651) rfl rfl rfl (hg _ q_11) (hg _ q_649) (by decide +kernel) ⟨Nat.le_of_ble_eq_true rfl, Nat.le_of_ble_eq_true rfl⟩), hg _ q_650⟩ (mp_pre hI hK [.int y, .int (nI n)]) rfl rfl hl.1 rfl (lv_room (Nat.le_of_ble_eq_true rfl)) d_B_term_13 ⟨Nat.le_of_ble_eq_true rfl, Nat.le_of_ble_eq_true rfl⟩) (fun r2 er2 => ?_)
  have er2 : r2 = (-1) := er2
  subst er2
  refine lv_istore (lv' := [(8, .int (-1)), (7, .ref (eo k)), (0, .ref o), (1, .int (nI k)), (2, .long ab), (4, .long be), (6, .int y)]) hx hb d_B_term_16 hl (by decide) rfl (fun ls hl => ?_)
  refine lv_iload hx hb d_B_term_18 (lv_at hl 0 rfl) ?_
  refine lv_if_ge (tgt := 33) hx hb d_B_term_20 (by decide) (fun h9 => absurd h9 (by decide)) (fun _ => ?_)
  obtain ⟨sa, hsa⟩ := xs_64 hK
  exact xp_throwS (names := ["java/lang/RuntimeException", "java/lang/Exception"]) hx hb hl9 hown (by decide +kernel) (by decide +kernel) (hg _ q_652) (hg _ q_12) hsa (xw_own hK hH xa_Ea) hH (hl.1.trans hml.symm) d_B_term_23 d_B_term_26 d_B_term_27 d_B_term_29 d_B_term_32 (noh hne) (Nat.le_of_ble_eq_true rfl) (Nat.le_of_ble_eq_true rfl) (Nat.le_of_ble_eq_true rfl) (Nat.le_of_ble_eq_true rfl) hlocks
set_option maxHeartbeats 4000000 in
set_option maxRecDepth 100000 in
/-- term: no such power -/
theorem x_B_termA (l : Launch) (hl9 : l.stackTraces = false) (D : mp_G) (g : Nat → ClassId) (S : mp_M) (sz : Nat) (o pa n : Nat) (eo : Nat → Nat) (v2 v3 v4 v5 v6 v7 v8 v9 : Value) (k : Nat) (v : Nat) (ab be : Int64) (h_o : S o = some (0, .inr (0, [.int (nI n), .ref pa, v2, v3, v4, v5, v6, v7, v8, v9]))) (h_pa : S pa = some (1, .inl ((g 2), 40, .inr (.inr (.inr (.inr (rfs eo 40))))))) (hk : k < 40) (hv : v < 2 ^ 31) (hn : n < 4) (hn0 : 0 < n) (hp : ¬ pwOk n v) : xp_Met l y_B_term w_B_term ({ frames := 7, cells := 1, slots := 6, locals := 111 }) (va_Pc [.ref o, .int (nI k), .long ab, .long be, .int (nI v)] (mp_B0 D classes (tys g) S sz)) "java/lang/IllegalArgumentException" D classes S 1 6 := by
  refine xp_ofW (cc := b_B_term) (maxL := 10) (ret := (some .boolean)) (by decide) rfl ?_
  intro p e s m args below meth c s₁ B hml hv
  obtain ⟨rfl, hsz, hH, hK⟩ := hv
  have hx := B.exec
  have hb := B.bytes
  have hr := B.returns
  have hts := atoms_spec (ws := w_B_term) B.pre
  have hg : ∀ w ∈ gw, w.before _ s = true := fun w h => hts w (List.mem_cons_of_mem _ h)
  have hown : s.vm.findClass R_B = some m.cls := findClass_of_methodNamed B.named
  have hlocks := B.notSynchronized
  have hne := B.noHandlers (hts _ List.mem_cons_self)
  subst hsz
  have hI := mp_I.start hH
  have hl := lv_entry ([.ref o, .int (nI k), .long ab, .long be, .int (nI v)]) (n := 10) (Nat.le_of_ble_eq_true rfl)
  rw [lg_entry_eq]
  generalize (lg_sl ([.ref o, .int (nI k), .long ab, .long be, .int (nI v)]) ++ List.replicate (10 - (lg_sl ([.ref o, .int (nI k), .long ab, .long be, .int (nI v)])).length) Slot.unset).toArray = ls at hl ⊢
  have hl : lv_has ls 10 [(0, .ref o), (1, .int (nI k)), (2, .long ab), (4, .long be), (6, .int (nI v))] := hl
  refine lv_aload_n hx hb d_B_term_0 rfl (lv_at hl 0 rfl) ?_
  refine lv_iload_n hx hb d_B_term_1 rfl (lv_at hl 1 rfl) ?_
  refine pp_callr (va_runV (As := [.int (nI k)]) (rest := []) ⟨hx, hb, hml, hown, hg⟩ (p_B_polynomialOf l D g S _ o pa eo (.int (nI n)) v2 v3 v4 v5 v6 v7 v8 v9 k h_o h_pa hk) ⟨(callB_of 1 hg (wd_goodG q_632) rfl rfl rfl (hg _ q_1) (hg _ q_629) (by decide +kernel) ⟨Nat.le_of_ble_eq_true rfl, Nat.le_of_ble_eq_true rfl⟩), hg _ q_631, hg _ qs_20⟩ (mp_preV (C := R_B) (T := F_B) hI hK h_o rfl [.int (nI k)]) rfl rfl hl.1 rfl (lv_room (Nat.le_of_ble_eq_true rfl)) d_B_term_2 ⟨Nat.le_of_ble_eq_true rfl, Nat.le_of_ble_eq_true rfl⟩) (fun r1 er1 => ?_)
  have er1 : r1 = eo k := er1
  subst er1
  refine lv_astore (lv' := [(7, .ref (eo k)), (0, .ref o), (1, .int (nI k)), (2, .long ab), (4, .long be), (6, .int (nI v))]) hx hb d_B_term_5 hl (by decide) rfl (fun ls hl => ?_)
  refine lv_iload hx hb d_B_term_7 (lv_at hl 5 rfl) ?_
  refine lv_aload_n hx hb d_B_term_9 rfl (lv_at hl 1 rfl) ?_
  refine mp_get (C := R_B) (T := F_B) (N := 10) (v := .int (nI n)) hx hb hg i_B hown hK.va hI h_o rfl 0 (by decide) (hg _ q_82) (fun _ h9 => h9) rfl d_B_term_10 ?_
  refine pp_calli (va_runS (As := [.int (nI v), .int (nI n)]) (rest := []) ⟨hx, hb, hml, hown, hg⟩ (p_W_keyOf l D g S _ v n hv hn hn0) ⟨(callB_of 2 hg (wd_goodG q_651) rfl rfl rfl (hg _ q_11) (hg _ q_649) (by decide +kernel) ⟨Nat.le_of_ble_eq_true rfl, Nat.le_of_ble_eq_true rfl⟩), hg _ q_650⟩ (mp_pre hI hK [.int (nI v), .int (nI n)]) rfl rfl hl.1 rfl (lv_room (Nat.le_of_ble_eq_true rfl)) d_B_term_13 ⟨Nat.le_of_ble_eq_true rfl, Nat.le_of_ble_eq_true rfl⟩) (fun r2 er2 => ?_)
  obtain rfl : r2 = -1 := by rcases er2 with ⟨h9, _⟩ | ⟨_, h9⟩; exact absurd h9 hp; exact h9
  refine lv_istore (lv' := [(8, .int (-1)), (7, .ref (eo k)), (0, .ref o), (1, .int (nI k)), (2, .long ab), (4, .long be), (6, .int (nI v))]) hx hb d_B_term_16 hl (by decide) rfl (fun ls hl => ?_)
  refine lv_iload hx hb d_B_term_18 (lv_at hl 0 rfl) ?_
  refine lv_if_ge (tgt := 33) hx hb d_B_term_20 (by decide) (fun h9 => absurd h9 (by decide)) (fun _ => ?_)
  obtain ⟨sa, hsa⟩ := xs_64 hK
  exact xp_throwS (names := ["java/lang/RuntimeException", "java/lang/Exception"]) hx hb hl9 hown (by decide +kernel) (by decide +kernel) (hg _ q_652) (hg _ q_12) hsa (xw_own hK hH xa_Ea) hH (hl.1.trans hml.symm) d_B_term_23 d_B_term_26 d_B_term_27 d_B_term_29 d_B_term_32 (noh hne) (Nat.le_of_ble_eq_true rfl) (Nat.le_of_ble_eq_true rfl) (Nat.le_of_ble_eq_true rfl) (Nat.le_of_ble_eq_true rfl) hlocks
set_option maxHeartbeats 4000000 in
set_option maxRecDepth 100000 in
/-- term: below is 0 -/
theorem x_B_termM (l : Launch) (hl9 : l.stackTraces = false) (D : mp_G) (g : Nat → ClassId) (S : mp_M) (sz : Nat) (o pa n : Nat) (eo : Nat → Nat) (v2 v3 v4 v5 v6 v7 v8 v9 : Value) (k : Nat) (v : Nat) (ab be : Int64) (h_o : S o = some (0, .inr (0, [.int (nI n), .ref pa, v2, v3, v4, v5, v6, v7, v8, v9]))) (h_pa : S pa = some (1, .inl ((g 2), 40, .inr (.inr (.inr (.inr (rfs eo 40))))))) (hk : k < 40) (hv : v < 2 ^ 31) (hn : n < 4) (hn0 : 0 < n) (hp : pwOk n v) (hz : rsN be = 0) : xp_Met l y_B_term w_B_term ({ frames := 7, cells := 1, slots := 6, locals := 111 }) (va_Pc [.ref o, .int (nI k), .long ab, .long be, .int (nI v)] (mp_B0 D classes (tys g) S sz)) "java/lang/ArithmeticException" D classes S 1 6 := by
  refine xp_ofW (cc := b_B_term) (maxL := 10) (ret := (some .boolean)) (by decide) rfl ?_
  intro p e s m args below meth c s₁ B hml hv
  obtain ⟨rfl, hsz, hH, hK⟩ := hv
  have hx := B.exec
  have hb := B.bytes
  have hr := B.returns
  have hts := atoms_spec (ws := w_B_term) B.pre
  have hg : ∀ w ∈ gw, w.before _ s = true := fun w h => hts w (List.mem_cons_of_mem _ h)
  have hown : s.vm.findClass R_B = some m.cls := findClass_of_methodNamed B.named
  have hlocks := B.notSynchronized
  have hne := B.noHandlers (hts _ List.mem_cons_self)
  subst hsz
  have hI := mp_I.start hH
  have hl := lv_entry ([.ref o, .int (nI k), .long ab, .long be, .int (nI v)]) (n := 10) (Nat.le_of_ble_eq_true rfl)
  rw [lg_entry_eq]
  generalize (lg_sl ([.ref o, .int (nI k), .long ab, .long be, .int (nI v)]) ++ List.replicate (10 - (lg_sl ([.ref o, .int (nI k), .long ab, .long be, .int (nI v)])).length) Slot.unset).toArray = ls at hl ⊢
  have hl : lv_has ls 10 [(0, .ref o), (1, .int (nI k)), (2, .long ab), (4, .long be), (6, .int (nI v))] := hl
  refine lv_aload_n hx hb d_B_term_0 rfl (lv_at hl 0 rfl) ?_
  refine lv_iload_n hx hb d_B_term_1 rfl (lv_at hl 1 rfl) ?_
  refine pp_callr (va_runV (As := [.int (nI k)]) (rest := []) ⟨hx, hb, hml, hown, hg⟩ (p_B_polynomialOf l D g S _ o pa eo (.int (nI n)) v2 v3 v4 v5 v6 v7 v8 v9 k h_o h_pa hk) ⟨(callB_of 1 hg (wd_goodG q_632) rfl rfl rfl (hg _ q_1) (hg _ q_629) (by decide +kernel) ⟨Nat.le_of_ble_eq_true rfl, Nat.le_of_ble_eq_true rfl⟩), hg _ q_631, hg _ qs_20⟩ (mp_preV (C := R_B) (T := F_B) hI hK h_o rfl [.int (nI k)]) rfl rfl hl.1 rfl (lv_room (Nat.le_of_ble_eq_true rfl)) d_B_term_2 ⟨Nat.le_of_ble_eq_true rfl, Nat.le_of_ble_eq_true rfl⟩) (fun r1 er1 => ?_)
  have er1 : r1 = eo k := er1
  subst er1
  refine lv_astore (lv' := [(7, .ref (eo k)), (0, .ref o), (1, .int (nI k)), (2, .long ab), (4, .long be), (6, .int (nI v))]) hx hb d_B_term_5 hl (by decide) rfl (fun ls hl => ?_)
  refine lv_iload hx hb d_B_term_7 (lv_at hl 5 rfl) ?_
  refine lv_aload_n hx hb d_B_term_9 rfl (lv_at hl 1 rfl) ?_
  refine mp_get (C := R_B) (T := F_B) (N := 10) (v := .int (nI n)) hx hb hg i_B hown hK.va hI h_o rfl 0 (by decide) (hg _ q_82) (fun _ h9 => h9) rfl d_B_term_10 ?_
  refine pp_calli (va_runS (As := [.int (nI v), .int (nI n)]) (rest := []) ⟨hx, hb, hml, hown, hg⟩ (p_W_keyOf l D g S _ v n hv hn hn0) ⟨(callB_of 2 hg (wd_goodG q_651) rfl rfl rfl (hg _ q_11) (hg _ q_649) (by decide +kernel) ⟨Nat.le_of_ble_eq_true rfl, Nat.le_of_ble_eq_true rfl⟩), hg _ q_650⟩ (mp_pre hI hK [.int (nI v), .int (nI n)]) rfl rfl hl.1 rfl (lv_room (Nat.le_of_ble_eq_true rfl)) d_B_term_13 ⟨Nat.le_of_ble_eq_true rfl, Nat.le_of_ble_eq_true rfl⟩) (fun r2 er2 => ?_)
  obtain rfl : r2 = nI (kN (v % 16) (v / 16 % 16) (v / 256)) := by rcases er2 with ⟨_, h9⟩ | ⟨h9, _⟩; exact h9; exact absurd hp h9
  have hkb := kN_pw (v := v) hp
  refine lv_istore (lv' := [(8, .int (nI (kN (v % 16) (v / 16 % 16) (v / 256)))), (7, .ref (eo k)), (0, .ref o), (1, .int (nI k)), (2, .long ab), (4, .long be), (6, .int (nI v))]) hx hb d_B_term_16 hl (by decide) rfl (fun ls hl => ?_)
  refine lv_iload hx hb d_B_term_18 (lv_at hl 0 rfl) ?_
  refine lv_if_ge (tgt := 33) hx hb d_B_term_20 (by decide) (fun _ => ?_) (fun h9 => absurd (nI_pos9 hkb) h9)
  refine lv_lload hx hb d_B_term_33 (lv_at hl 5 rfl) ?_
  refine pp_calli (va_runS (As := [.long be]) (rest := []) ⟨hx, hb, hml, hown, hg⟩ (p_B_numberOf l D g S _ be) ⟨(callB_of 1 hg (wd_goodG q_670) rfl rfl rfl (hg _ q_1) (hg _ q_668) (by decide +kernel) ⟨Nat.le_of_ble_eq_true rfl, Nat.le_of_ble_eq_true rfl⟩), hg _ q_669⟩ (mp_pre hI hK [.long be]) rfl rfl hl.1 rfl (lv_room (Nat.le_of_ble_eq_true rfl)) d_B_term_35 ⟨Nat.le_of_ble_eq_true rfl, Nat.le_of_ble_eq_true rfl⟩) (fun r3 er3 => ?_)
  have er3 : r3 = nI (rsN be) := er3
  subst er3
  refine lv_istore (lv' := [(9, .int (nI (rsN be))), (8, .int (nI (kN (v % 16) (v / 16 % 16) (v / 256)))), (7, .ref (eo k)), (0, .ref o), (1, .int (nI k)), (2, .long ab), (4, .long be), (6, .int (nI v))]) hx hb d_B_term_38 hl (by decide) rfl (fun ls hl => ?_)
  refine lv_iload hx hb d_B_term_40 (lv_at hl 0 rfl) ?_
  refine lv_if_ne (tgt := 55) hx hb d_B_term_42 (by decide) (fun h9 => absurd h9 (by rw [hz]; decide)) (fun _ => ?_)
  obtain ⟨sa, hsa⟩ := xs_73 hK
  exact xp_throwS (names := ["java/lang/RuntimeException", "java/lang/Exception"]) hx hb hl9 hown (by decide +kernel) (by decide +kernel) (hg _ q_675) (hg _ q_13) hsa (xw_own hK hH xa_Em) hH (hl.1.trans hml.symm) d_B_term_45 d_B_term_48 d_B_term_49 d_B_term_51 d_B_term_54 (noh hne) (Nat.le_of_ble_eq_true rfl) (Nat.le_of_ble_eq_true rfl) (Nat.le_of_ble_eq_true rfl) (Nat.le_of_ble_eq_true rfl) hlocks
set_option maxHeartbeats 4000000 in
set_option maxRecDepth 100000 in
/-- take: no such polynomial -/
theorem x_B_take (l : Launch) (hl9 : l.stackTraces = false) (D : mp_G) (g : Nat → ClassId) (S : mp_M) (sz : Nat) (o pa n : Nat) (v2 v3 v4 v5 v6 v7 v8 v9 : Value) (x : Int32) (h_o : S o = some (0, .inr (0, [.int (nI n), .ref pa, v2, v3, v4, v5, v6, v7, v8, v9]))) (hx9 : x < 0 ∨ nI 40 ≤ x) : xp_Met l y_B_take w_B_take ({ frames := 7, cells := 1, slots := 6, locals := 111 }) (va_Pc [.ref o, .int x] (mp_B0 D classes (tys g) S sz)) "java/lang/IndexOutOfBoundsException" D classes S 1 6 := by
  refine xp_ofW (cc := b_B_take) (maxL := 3) (ret := (some .boolean)) (by decide) rfl ?_
  intro p e s m args below meth c s₁ B hml hv
  obtain ⟨rfl, hsz, hH, hK⟩ := hv
  have hx := B.exec
  have hb := B.bytes
  have hr := B.returns
  have hts := atoms_spec (ws := w_B_take) B.pre
  have hg : ∀ w ∈ gw, w.before _ s = true := fun w h => hts w (List.mem_cons_of_mem _ h)
  have hown : s.vm.findClass R_B = some m.cls := findClass_of_methodNamed B.named
  have hlocks := B.notSynchronized
  have hne := B.noHandlers (hts _ List.mem_cons_self)
  subst hsz
  have hI := mp_I.start hH
  have hl := lv_entry ([.ref o, .int x]) (n := 3) (Nat.le_of_ble_eq_true rfl)
  rw [lg_entry_eq]
  generalize (lg_sl ([.ref o, .int x]) ++ List.replicate (3 - (lg_sl ([.ref o, .int x])).length) Slot.unset).toArray = ls at hl ⊢
  have hl : lv_has ls 3 [(0, .ref o), (1, .int x)] := hl
  refine lv_aload_n hx hb d_B_take_0 rfl (lv_at hl 0 rfl) ?_
  refine lv_iload_n hx hb d_B_take_1 rfl (lv_at hl 1 rfl) ?_
  exact xp_out (mc := 1) (ms := 6) (noh hne) hlocks (xp_runV (As := [.int x]) (rest := []) ⟨hx, hb, hml, hown, hg⟩ (x_B_polynomialOf l hl9 D g S _ o pa (.int (nI n)) v2 v3 v4 v5 v6 v7 v8 v9 x h_o hx9) ⟨(callB_of 1 hg (wd_goodG q_632) rfl rfl rfl (hg _ q_1) (hg _ q_629) (by decide +kernel) ⟨Nat.le_of_ble_eq_true rfl, Nat.le_of_ble_eq_true rfl⟩), hg _ q_631, hg _ qs_20⟩ (mp_preV (C := R_B) (T := F_B) hI hK h_o rfl [.int x]) rfl hl.1 (lv_room (Nat.le_of_ble_eq_true rfl)) d_B_take_2 ⟨Nat.le_of_ble_eq_true rfl, Nat.le_of_ble_eq_true rfl⟩)
set_option maxHeartbeats 4000000 in
set_option maxRecDepth 100000 in
/-- room in a polynomial that is 0 -/
theorem c_Y_makeRoom0 (l : Launch) (D : mp_G) (g : Nat → ClassId) (S : mp_M) (sz : Nat) (o ka na T : Nat) (kf nf : Nat → Int32) (h_o : S o = some (T, .inr (3, [.ref ka, .ref na, .int (nI 0)]))) (h_ka : S ka = some ((T + 1), .inl ((g 0), 4, .inl kf))) (h_na : S na = some ((T + 2), .inl ((g 0), 4, .inl nf)))  : Met l y_Y_makeRoom w_Y_makeRoom ({ frames := 0, cells := 0, slots := 0, locals := 0 }) (va_Pc [.ref o, .int (nI 0)] (mp_B0 D classes (tys g) S sz)) (va_Qv (fun (S1 : mp_M) => S1 o = some (T, .inr (3, [.ref ka, .ref na, .int (nI 1)])) ∧ (∀ b, S b ≠ none → b ≠ o → S1 b = S b)) (mp_B1 D classes S sz) (mp_A S sz)) 0 0 (mp_A S sz) := by
  refine Met.ofW (cc := b_Y_makeRoom) (maxL := 3) (ret := none) (by decide) rfl ?_
  intro p e s m args below meth c s₁ B hml hv
  obtain ⟨rfl, hsz, hH, hK⟩ := hv
  have hx := B.exec
  have hb := B.bytes
  have hr := B.returns
  have hts := atoms_spec (ws := w_Y_makeRoom) B.pre
  have hg : ∀ w ∈ gw, w.before _ s = true := fun w h => hts w (List.mem_cons_of_mem _ h)
  have hown : s.vm.findClass R_Y = some m.cls := findClass_of_methodNamed B.named
  have hlocks := B.notSynchronized
  subst hsz
  have hI := mp_I.start hH
  have hl := lv_entry ([.ref o, .int (nI 0)]) (n := 3) (Nat.le_of_ble_eq_true rfl)
  rw [lg_entry_eq]
  generalize (lg_sl ([.ref o, .int (nI 0)]) ++ List.replicate (3 - (lg_sl ([.ref o, .int (nI 0)])).length) Slot.unset).toArray = ls at hl ⊢
  have hl : lv_has ls 3 [(0, .ref o), (1, .int (nI 0))] := hl
  have hfr : ∀ b, S b ≠ none → b ≠ o → S b = S b := fun _ _ _ => rfl
  refine lv_aload_n hx hb d_Y_makeRoom_0 rfl (lv_at hl 0 rfl) ?_
  refine mp_get (C := R_Y) (T := F_Y) (N := 3) (v := .int (nI 0)) hx hb hg i_Y hown hK.va hI h_o rfl 2 (by decide) (hg _ q_51) (fun _ h9 => h9) rfl d_Y_makeRoom_1 ?_
  refine lv_aload_n hx hb d_Y_makeRoom_4 rfl (lv_at hl 0 rfl) ?_
  refine mp_get (C := R_Y) (T := F_Y) (N := 3) (v := .ref ka) hx hb hg i_Y hown hK.va hI h_o rfl 0 (by decide) (hg _ q_45) (fun _ h9 => h9) rfl d_Y_makeRoom_5 ?_
  refine mp_alen (v := nI 4) hx hb hK.va hI 0 h_ka rfl rfl d_Y_makeRoom_8 ?_
  refine lv_icmp_ne (tgt := 46) hx hb d_Y_makeRoom_9 (by decide) (fun _ => ?_) (fun h9 => absurd h9 (by decide))
  refine lv_aload_n hx hb d_Y_makeRoom_46 rfl (lv_at hl 0 rfl) ?_
  refine mp_get (C := R_Y) (T := F_Y) (N := 3) (v := .int (nI 0)) hx hb hg i_Y hown hK.va hI h_o rfl 2 (by decide) (hg _ q_51) (fun _ h9 => h9) rfl d_Y_makeRoom_47 ?_
  refine lv_istore_n (lv' := [(2, .int (nI 0)), (0, .ref o), (1, .int (nI 0))]) hx hb d_Y_makeRoom_50 rfl hl (by decide) rfl (fun ls hl => ?_)
  refine lv_iload_n hx hb d_Y_makeRoom_51 rfl (lv_at hl 0 rfl) ?_
  refine lv_iload_n hx hb d_Y_makeRoom_52 rfl (lv_at hl 2 rfl) ?_
  refine lv_icmp_le (tgt := 90) hx hb d_Y_makeRoom_53 (by decide) (fun _ => ?_) (fun h9 => absurd (by decide) h9)
  refine lv_aload_n hx hb d_Y_makeRoom_90 rfl (lv_at hl 1 rfl) ?_
  refine lv_dup hx hb d_Y_makeRoom_91 rfl ?_
  refine mp_get (C := R_Y) (T := F_Y) (N := 3) (v := .int (nI 0)) hx hb hg i_Y hown hK.va hI h_o rfl 2 (by decide) (hg _ q_51) (fun _ h9 => h9) rfl d_Y_makeRoom_92 ?_
  refine lv_iconst (v := nI 1) hx hb d_Y_makeRoom_95 (by decide) ?_
  refine lv_iadd hx hb d_Y_makeRoom_96 ?_
  refine lv_topi (fun v1 ev1 => ?_)
  obtain rfl : v1 = nI (0 + 1) := ev1.trans (nI_add _ _)
  refine mp_put (C := R_Y) (T := F_Y) (N := 3) (v := .int (nI (0 + 1))) (ty := .int) hx hb hg i_Y t_Y t_Y_ok n_Y hown hK.va hI h_o rfl 2 (by decide) (hg _ q_51) (fun _ h9 => h9) rfl (by decide +kernel) (rfl) rfl (Nat.le_of_ble_eq_true rfl) d_Y_makeRoom_97 (fun S2 H3 locs e_4 hI => ?_)
  have e_4 : S2 = va_up S o (some (T, .inr (3, [.ref ka, .ref na, .int (nI (0 + 1))]))) := e_4
  have h_ka : S2 ka = some ((T + 1), .inl ((g 0), 4, .inl kf)) := by rw [e_4]; exact mp_keep h_ka h_o (by omega)
  have h_na : S2 na = some ((T + 2), .inl ((g 0), 4, .inl nf)) := by rw [e_4]; exact mp_keep h_na h_o (by omega)
  have h_o : S2 o = some (T, .inr (3, [.ref ka, .ref na, .int (nI (0 + 1))])) := by rw [e_4]; exact mp_us _ _ _
  have hfr : ∀ b, S b ≠ none → b ≠ o → S2 b = S b := fun b h9 k0 => by rw [e_4]; exact (mp_un k0).trans (hfr b h9 k0)
  refine mp_vret hx hb hr hlocks hI (by decide) (by decide) ?_ d_Y_makeRoom_100
  exact ⟨h_o, hfr⟩
set_option maxHeartbeats 4000000 in
set_option maxRecDepth 100000 in
/-- a number put into a polynomial that is 0 -/
theorem c_Y_put0 (l : Launch) (D : mp_G) (g : Nat → ClassId) (S : mp_M) (sz : Nat) (o ka na T : Nat) (kf nf : Nat → Int32) (k x : Nat) (h_o : S o = some (T, .inr (3, [.ref ka, .ref na, .int (nI 0)]))) (h_ka : S ka = some ((T + 1), .inl ((g 0), 4, .inl kf))) (h_na : S na = some ((T + 2), .inl ((g 0), 4, .inl nf))) (hx9 : x < 32003) : Met l y_Y_put w_Y_put ({ frames := 1, cells := 0, slots := 0, locals := 22 }) (va_Pc [.ref o, .int (nI k), .int (nI x)] (mp_B0 D classes (tys g) S sz)) (va_Qi (fun (r : Int32) (S1 : mp_M) => ((x = 0 ∧ r = 0) ∨ (x ≠ 0 ∧ r = 1)) ∧ (∀ b, S b ≠ none → b ≠ o → b ≠ ka → b ≠ na → S1 b = S b)) (mp_B1 D classes S sz) (mp_A S sz)) 0 0 (mp_A S sz) := by
  refine Met.ofW (cc := b_Y_put) (maxL := 6) (ret := (some .boolean)) (by decide) rfl ?_
  intro p e s m args below meth c s₁ B hml hv
  obtain ⟨rfl, hsz, hH, hK⟩ := hv
  have hx := B.exec
  have hb := B.bytes
  have hr := B.returns
  have hts := atoms_spec (ws := w_Y_put) B.pre
  have hg : ∀ w ∈ gw, w.before _ s = true := fun w h => hts w (List.mem_cons_of_mem _ h)
  have hown : s.vm.findClass R_Y = some m.cls := findClass_of_methodNamed B.named
  have hlocks := B.notSynchronized
  subst hsz
  have hI := mp_I.start hH
  have hl := lv_entry ([.ref o, .int (nI k), .int (nI x)]) (n := 6) (Nat.le_of_ble_eq_true rfl)
  rw [lg_entry_eq]
  generalize (lg_sl ([.ref o, .int (nI k), .int (nI x)]) ++ List.replicate (6 - (lg_sl ([.ref o, .int (nI k), .int (nI x)])).length) Slot.unset).toArray = ls at hl ⊢
  have hl : lv_has ls 6 [(0, .ref o), (1, .int (nI k)), (2, .int (nI x))] := hl
  have hfr : ∀ b, S b ≠ none → b ≠ o → b ≠ ka → b ≠ na → S b = S b := fun _ _ _ _ _ => rfl
  refine lv_iconst (v := nI 0) hx hb d_Y_put_0 (by decide) ?_
  refine lv_istore_n (lv' := [(3, .int (nI 0)), (0, .ref o), (1, .int (nI k)), (2, .int (nI x))]) hx hb d_Y_put_1 rfl hl (by decide) rfl (fun ls hl => ?_)
  refine lv_iload_n hx hb d_Y_put_2 rfl (lv_at hl 0 rfl) ?_
  refine lv_aload_n hx hb d_Y_put_3 rfl (lv_at hl 1 rfl) ?_
  refine mp_get (C := R_Y) (T := F_Y) (N := 3) (v := .int (nI 0)) hx hb hg i_Y hown hK.va hI h_o rfl 2 (by decide) (hg _ q_51) (fun _ h9 => h9) rfl d_Y_put_4 ?_
  refine lv_icmp_ge (tgt := 26) hx hb d_Y_put_7 (by decide) (fun _ => ?_) (fun h9 => absurd (by decide) h9)
  refine lv_iload_n hx hb d_Y_put_26 rfl (lv_at hl 0 rfl) ?_
  refine lv_aload_n hx hb d_Y_put_27 rfl (lv_at hl 1 rfl) ?_
  refine mp_get (C := R_Y) (T := F_Y) (N := 3) (v := .int (nI 0)) hx hb hg i_Y hown hK.va hI h_o rfl 2 (by decide) (hg _ q_51) (fun _ h9 => h9) rfl d_Y_put_28 ?_
  refine lv_icmp_ge (tgt := 48) hx hb d_Y_put_31 (by decide) (fun _ => ?_) (fun h9 => absurd (by decide) h9)
  refine lv_iconst (v := nI 0) hx hb d_Y_put_48 (by decide) ?_
  refine lv_istore (lv' := [(4, .int (nI 0)), (3, .int (nI 0)), (0, .ref o), (1, .int (nI k)), (2, .int (nI x))]) hx hb d_Y_put_49 hl (by decide) rfl (fun ls hl => ?_)
  refine lv_iload hx hb d_Y_put_51 (lv_at hl 0 rfl) ?_
  refine lv_if_eq (tgt := 65) hx hb d_Y_put_53 (by decide) (fun _ => ?_) (fun h9 => absurd (by decide) h9)
  refine lv_iconst (v := nI 0) hx hb d_Y_put_65 (by decide) ?_
  refine lv_istore (lv' := [(5, .int (nI 0)), (4, .int (nI 0)), (3, .int (nI 0)), (0, .ref o), (1, .int (nI k)), (2, .int (nI x))]) hx hb d_Y_put_66 hl (by decide) rfl (fun ls hl => ?_)
  refine lv_iload hx hb d_Y_put_68 (lv_at hl 0 rfl) ?_
  refine lv_iload_n hx hb d_Y_put_70 rfl (lv_at hl 5 rfl) ?_
  refine lv_icmp_ne (tgt := 76) hx hb d_Y_put_71 (by decide) (fun c1 => ?_) (fun c1 => ?_)
  · rw [nI_eq (by omega) (by omega)] at c1
    refine lv_iload hx hb d_Y_put_76 (lv_at hl 1 rfl) ?_
    refine lv_if_ne (tgt := 103) hx hb d_Y_put_78 (by decide) (fun h9 => absurd h9 (by decide)) (fun _ => ?_)
    refine lv_aload_n hx hb d_Y_put_81 rfl (lv_at hl 3 rfl) ?_
    refine lv_iload_n hx hb d_Y_put_82 rfl (lv_at hl 2 rfl) ?_
    refine mp_callv hI (va_runV (As := [.int (nI 0)]) (rest := []) ⟨hx, hb, hml, hown, hg⟩ (c_Y_makeRoom0 l D g S _ o ka na T kf nf h_o h_ka h_na) ⟨(callB_of 1 hg (wd_goodG q_699) rfl rfl rfl (hg _ q_3) (hg _ q_696) (by decide +kernel) ⟨Nat.le_of_ble_eq_true rfl, Nat.le_of_ble_eq_true rfl⟩), hg _ q_698, hg _ qs_21⟩ (mp_preV (C := R_Y) (T := F_Y) hI hK h_o rfl [.int (nI 0)]) rfl rfl hl.1 rfl (lv_room (Nat.le_of_ble_eq_true rfl)) d_Y_put_83 ⟨Nat.le_of_ble_eq_true rfl, Nat.le_of_ble_eq_true rfl⟩) (fun S1 H2 locs p_3 hI => ?_)
    obtain ⟨hm_o, fm⟩ := p_3
    have h_ka : S1 ka = some ((T + 1), .inl ((g 0), 4, .inl kf)) := (fm ka (mp_in h_ka) (mp_ne h_ka h_o (by omega))).trans h_ka
    have h_na : S1 na = some ((T + 2), .inl ((g 0), 4, .inl nf)) := (fm na (mp_in h_na) (mp_ne h_na h_o (by omega))).trans h_na
    have hfr : ∀ b, S b ≠ none → b ≠ o → b ≠ ka → b ≠ na → S1 b = S b := fun b h9 k0 k1 k2 => (fm b (by rw [hfr b h9 k0 k1 k2]; exact h9) k0).trans (hfr b h9 k0 k1 k2)
    refine lv_aload_n hx hb d_Y_put_86 rfl (lv_at hl 3 rfl) ?_
    refine mp_get (C := R_Y) (T := F_Y) (N := 3) (v := .ref ka) hx hb hg i_Y hown hK.va hI hm_o rfl 0 (by decide) (hg _ q_45) (fun _ h9 => h9) rfl d_Y_put_87 ?_
    refine lv_iload_n hx hb d_Y_put_90 rfl (lv_at hl 2 rfl) ?_
    refine lv_iload_n hx hb d_Y_put_91 rfl (lv_at hl 4 rfl) ?_
    refine mp_iast hx hb hK.va hI 0 h_ka rfl (vp_in_nI (by decide) (by decide)) d_Y_put_92 (fun S5 H6 locs e_7 hI => ?_)
    have e_7 : S5 = va_up S1 ka (some ((T + 1), .inl ((g 0), 4, .inl (upd kf (nI 0).toNatClampNeg (nI k))))) := e_7
    have hm_o : S5 o = some (T, .inr (3, [.ref ka, .ref na, .int (nI 1)])) := by rw [e_7]; exact mp_keep hm_o h_ka (by omega)
    have h_na : S5 na = some ((T + 2), .inl ((g 0), 4, .inl nf)) := by rw [e_7]; exact mp_keep h_na h_ka (by omega)
    have h_ka : S5 ka = some ((T + 1), .inl ((g 0), 4, .inl (upd kf (nI 0).toNatClampNeg (nI k)))) := by rw [e_7]; exact mp_us _ _ _
    have hfr : ∀ b, S b ≠ none → b ≠ o → b ≠ ka → b ≠ na → S5 b = S b := fun b h9 k0 k1 k2 => by rw [e_7]; exact (mp_un k1).trans (hfr b h9 k0 k1 k2)
    refine lv_aload_n hx hb d_Y_put_93 rfl (lv_at hl 3 rfl) ?_
    refine mp_get (C := R_Y) (T := F_Y) (N := 3) (v := .ref na) hx hb hg i_Y hown hK.va hI hm_o rfl 1 (by decide) (hg _ q_48) (fun _ h9 => h9) rfl d_Y_put_94 ?_
    refine lv_iload_n hx hb d_Y_put_97 rfl (lv_at hl 2 rfl) ?_
    refine lv_iload_n hx hb d_Y_put_98 rfl (lv_at hl 5 rfl) ?_
    refine mp_iast hx hb hK.va hI 0 h_na rfl (vp_in_nI (by decide) (by decide)) d_Y_put_99 (fun S8 H9 locs e_10 hI => ?_)
    have e_10 : S8 = va_up S5 na (some ((T + 2), .inl ((g 0), 4, .inl (upd nf (nI 0).toNatClampNeg (nI x))))) := e_10
    have hm_o : S8 o = some (T, .inr (3, [.ref ka, .ref na, .int (nI 1)])) := by rw [e_10]; exact mp_keep hm_o h_na (by omega)
    have h_ka : S8 ka = some ((T + 1), .inl ((g 0), 4, .inl (upd kf (nI 0).toNatClampNeg (nI k)))) := by rw [e_10]; exact mp_keep h_ka h_na (by omega)
    have h_na : S8 na = some ((T + 2), .inl ((g 0), 4, .inl (upd nf (nI 0).toNatClampNeg (nI x)))) := by rw [e_10]; exact mp_us _ _ _
    have hfr : ∀ b, S b ≠ none → b ≠ o → b ≠ ka → b ≠ na → S8 b = S b := fun b h9 k0 k1 k2 => by rw [e_10]; exact (mp_un k2).trans (hfr b h9 k0 k1 k2)
    refine lv_goto (tgt := 122) hx hb d_Y_put_100 (by decide) ?_
    refine lv_iconst (v := nI 1) hx hb d_Y_put_122 (by decide) ?_
    refine mp_zret hx hb hr hlocks hI (by decide) (by decide) ?_ (by decide) d_Y_put_123
    exact ⟨Or.inr ⟨by omega, rfl⟩, hfr⟩
  · rw [nI_eq (by omega) (by omega)] at c1
    refine lv_iconst (v := nI 0) hx hb d_Y_put_74 (by decide) ?_
    refine mp_zret hx hb hr hlocks hI (by decide) (by decide) ?_ (by decide) d_Y_put_75
    exact ⟨Or.inl ⟨by omega, rfl⟩, hfr⟩
set_option maxHeartbeats 4000000 in
set_option maxRecDepth 100000 in
/-- term on a polynomial that is 0 -/
theorem c_B_term0 (l : Launch) (D : mp_G) (g : Nat → ClassId) (S : mp_M) (sz : Nat) (o pa n : Nat) (eo ek en cap pz : Nat → Nat) (kf nf : Nat → Nat → Int32) (v2 v3 v4 v5 v6 v7 v8 v9 : Value) (k v : Nat) (ab be : Int64) (h_o : S o = some (0, .inr (0, [.int (nI n), .ref pa, v2, v3, v4, v5, v6, v7, v8, v9]))) (h_pa : S pa = some (1, .inl ((g 2), 40, .inr (.inr (.inr (.inr (rfs eo 40))))))) (hE : yS g 100 40 eo ek en cap pz kf nf S) (hz : pz k = 0) (hcp : cap k = 4) (hk : k < 40) (hv : v < 2 ^ 31) (hn : n < 4) (hn0 : 0 < n) (hp : pwOk n v) (hq : rsN be ≠ 0) : Met l y_B_term w_B_term ({ frames := 2, cells := 0, slots := 0, locals := 47 }) (va_Pc [.ref o, .int (nI k), .long ab, .long be, .int (nI v)] (mp_B0 D classes (tys g) S sz)) (va_Qi (fun (r : Int32) (S1 : mp_M) => (((rsN ab * (rsN be ^ 32001 % 32003) % 32003) = 0 ∧ r = 0) ∨ ((rsN ab * (rsN be ^ 32001 % 32003) % 32003) ≠ 0 ∧ r = 1)) ∧ (∀ b, S b ≠ none → b ≠ eo k → b ≠ ek k → b ≠ en k → S1 b = S b)) (mp_B1 D classes S sz) (mp_A S sz)) 0 0 (mp_A S sz) := by
  refine Met.ofW (cc := b_B_term) (maxL := 10) (ret := (some .boolean)) (by decide) rfl ?_
  intro p e s m args below meth c s₁ B hml hv
  obtain ⟨rfl, hsz, hH, hK⟩ := hv
  have hx := B.exec
  have hb := B.bytes
  have hr := B.returns
  have hts := atoms_spec (ws := w_B_term) B.pre
  have hg : ∀ w ∈ gw, w.before _ s = true := fun w h => hts w (List.mem_cons_of_mem _ h)
  have hown : s.vm.findClass R_B = some m.cls := findClass_of_methodNamed B.named
  have hlocks := B.notSynchronized
  subst hsz
  have hI := mp_I.start hH
  have hl := lv_entry ([.ref o, .int (nI k), .long ab, .long be, .int (nI v)]) (n := 10) (Nat.le_of_ble_eq_true rfl)
  rw [lg_entry_eq]
  generalize (lg_sl ([.ref o, .int (nI k), .long ab, .long be, .int (nI v)]) ++ List.replicate (10 - (lg_sl ([.ref o, .int (nI k), .long ab, .long be, .int (nI v)])).length) Slot.unset).toArray = ls at hl ⊢
  have hl : lv_has ls 10 [(0, .ref o), (1, .int (nI k)), (2, .long ab), (4, .long be), (6, .int (nI v))] := hl
  have hfr : ∀ b, S b ≠ none → b ≠ eo k → b ≠ ek k → b ≠ en k → S b = S b := fun _ _ _ _ _ => rfl
  refine lv_aload_n hx hb d_B_term_0 rfl (lv_at hl 0 rfl) ?_
  refine lv_iload_n hx hb d_B_term_1 rfl (lv_at hl 1 rfl) ?_
  refine pp_callr (va_runV (As := [.int (nI k)]) (rest := []) ⟨hx, hb, hml, hown, hg⟩ (p_B_polynomialOf l D g S _ o pa eo (.int (nI n)) v2 v3 v4 v5 v6 v7 v8 v9 k h_o h_pa hk) ⟨(callB_of 1 hg (wd_goodG q_632) rfl rfl rfl (hg _ q_1) (hg _ q_629) (by decide +kernel) ⟨Nat.le_of_ble_eq_true rfl, Nat.le_of_ble_eq_true rfl⟩), hg _ q_631, hg _ qs_20⟩ (mp_preV (C := R_B) (T := F_B) hI hK h_o rfl [.int (nI k)]) rfl rfl hl.1 rfl (lv_room (Nat.le_of_ble_eq_true rfl)) d_B_term_2 ⟨Nat.le_of_ble_eq_true rfl, Nat.le_of_ble_eq_true rfl⟩) (fun r1 er1 => ?_)
  have er1 : r1 = eo k := er1
  subst er1
  refine lv_astore (lv' := [(7, .ref (eo k)), (0, .ref o), (1, .int (nI k)), (2, .long ab), (4, .long be), (6, .int (nI v))]) hx hb d_B_term_5 hl (by decide) rfl (fun ls hl => ?_)
  refine lv_iload hx hb d_B_term_7 (lv_at hl 5 rfl) ?_
  refine lv_aload_n hx hb d_B_term_9 rfl (lv_at hl 1 rfl) ?_
  refine mp_get (C := R_B) (T := F_B) (N := 10) (v := .int (nI n)) hx hb hg i_B hown hK.va hI h_o rfl 0 (by decide) (hg _ q_82) (fun _ h9 => h9) rfl d_B_term_10 ?_
  refine pp_calli (va_runS (As := [.int (nI v), .int (nI n)]) (rest := []) ⟨hx, hb, hml, hown, hg⟩ (p_W_keyOf l D g S _ v n hv hn hn0) ⟨(callB_of 2 hg (wd_goodG q_651) rfl rfl rfl (hg _ q_11) (hg _ q_649) (by decide +kernel) ⟨Nat.le_of_ble_eq_true rfl, Nat.le_of_ble_eq_true rfl⟩), hg _ q_650⟩ (mp_pre hI hK [.int (nI v), .int (nI n)]) rfl rfl hl.1 rfl (lv_room (Nat.le_of_ble_eq_true rfl)) d_B_term_13 ⟨Nat.le_of_ble_eq_true rfl, Nat.le_of_ble_eq_true rfl⟩) (fun r2 er2 => ?_)
  obtain rfl : r2 = nI (kN (v % 16) (v / 16 % 16) (v / 256)) := by rcases er2 with ⟨_, h9⟩ | ⟨h9, _⟩; exact h9; exact absurd hp h9
  have hkb := kN_pw (v := v) hp
  refine lv_istore (lv' := [(8, .int (nI (kN (v % 16) (v / 16 % 16) (v / 256)))), (7, .ref (eo k)), (0, .ref o), (1, .int (nI k)), (2, .long ab), (4, .long be), (6, .int (nI v))]) hx hb d_B_term_16 hl (by decide) rfl (fun ls hl => ?_)
  refine lv_iload hx hb d_B_term_18 (lv_at hl 0 rfl) ?_
  refine lv_if_ge (tgt := 33) hx hb d_B_term_20 (by decide) (fun _ => ?_) (fun h9 => absurd (nI_pos9 hkb) h9)
  refine lv_lload hx hb d_B_term_33 (lv_at hl 5 rfl) ?_
  refine pp_calli (va_runS (As := [.long be]) (rest := []) ⟨hx, hb, hml, hown, hg⟩ (p_B_numberOf l D g S _ be) ⟨(callB_of 1 hg (wd_goodG q_670) rfl rfl rfl (hg _ q_1) (hg _ q_668) (by decide +kernel) ⟨Nat.le_of_ble_eq_true rfl, Nat.le_of_ble_eq_true rfl⟩), hg _ q_669⟩ (mp_pre hI hK [.long be]) rfl rfl hl.1 rfl (lv_room (Nat.le_of_ble_eq_true rfl)) d_B_term_35 ⟨Nat.le_of_ble_eq_true rfl, Nat.le_of_ble_eq_true rfl⟩) (fun r3 er3 => ?_)
  have er3 : r3 = nI (rsN be) := er3
  subst er3
  refine lv_istore (lv' := [(9, .int (nI (rsN be))), (8, .int (nI (kN (v % 16) (v / 16 % 16) (v / 256)))), (7, .ref (eo k)), (0, .ref o), (1, .int (nI k)), (2, .long ab), (4, .long be), (6, .int (nI v))]) hx hb d_B_term_38 hl (by decide) rfl (fun ls hl => ?_)
  refine lv_iload hx hb d_B_term_40 (lv_at hl 0 rfl) ?_
  have hrb := rsN_lt be
  have hra := rsN_lt ab
  refine lv_if_ne (tgt := 55) hx hb d_B_term_42 (by decide) (fun _ => ?_) (fun h9 => absurd h9 (nI_ne9 (by omega) hq))
  refine lv_aload hx hb d_B_term_55 (lv_at hl 2 rfl) ?_
  refine lv_iload hx hb d_B_term_57 (lv_at hl 1 rfl) ?_
  refine lv_lload_n hx hb d_B_term_59 rfl (lv_at hl 5 rfl) ?_
  refine pp_calli (va_runS (As := [.long ab]) (rest := [.int (nI (kN (v % 16) (v / 16 % 16) (v / 256))), .ref (eo k)]) ⟨hx, hb, hml, hown, hg⟩ (p_B_numberOf l D g S _ ab) ⟨(callB_of 1 hg (wd_goodG q_670) rfl rfl rfl (hg _ q_1) (hg _ q_668) (by decide +kernel) ⟨Nat.le_of_ble_eq_true rfl, Nat.le_of_ble_eq_true rfl⟩), hg _ q_669⟩ (mp_pre hI hK [.long ab]) rfl rfl hl.1 rfl (lv_room (Nat.le_of_ble_eq_true rfl)) d_B_term_60 ⟨Nat.le_of_ble_eq_true rfl, Nat.le_of_ble_eq_true rfl⟩) (fun r4 er4 => ?_)
  have er4 : r4 = nI (rsN ab) := er4
  subst er4
  refine lv_iload hx hb d_B_term_63 (lv_at hl 0 rfl) ?_
  refine mp_calli hI (va_runS (As := [.int (nI (rsN be))]) (rest := [.int (nI (rsN ab)), .int (nI (kN (v % 16) (v / 16 % 16) (v / 256))), .ref (eo k)]) ⟨hx, hb, hml, hown, hg⟩ (c_B_inverse l D g S _ (rsN be) (rsN_lt be)) ⟨(callB_of 1 hg (wd_goodG q_414) rfl rfl rfl (hg _ q_1) (hg _ q_691) (by decide +kernel) ⟨Nat.le_of_ble_eq_true rfl, Nat.le_of_ble_eq_true rfl⟩), hg _ q_413⟩ (mp_pre hI hK [.int (nI (rsN be))]) rfl rfl hl.1 rfl (lv_room (Nat.le_of_ble_eq_true rfl)) d_B_term_65 ⟨Nat.le_of_ble_eq_true rfl, Nat.le_of_ble_eq_true rfl⟩) (fun r8 S5 H6 locs p_7 hI => ?_)
  obtain ⟨er8, eS9⟩ := p_7
  rw [eS9] at hI
  have er8 : r8 = nI (rsN be ^ 32001 % 32003) := er8
  subst er8
  have hib : rsN be ^ 32001 % 32003 < 32003 := Nat.mod_lt _ (by decide)
  have hml9 : rsN ab * (rsN be ^ 32001 % 32003) < 2 ^ 31 := Nat.lt_of_le_of_lt (Nat.mul_le_mul (Nat.le_of_lt_succ (show rsN ab < 32002 + 1 by omega)) (Nat.le_of_lt_succ (show _ < 32002 + 1 by omega))) (by decide)
  refine lv_imul hx hb d_B_term_68 ?_
  refine lv_topi (fun v10 ev10 => ?_)
  obtain rfl : v10 = nI ((rsN ab) * (rsN be ^ 32001 % 32003)) := ev10.trans (pk_mul _ _)
  refine lv_sipush (v := nI 32003) hx hb d_B_term_69 (by decide) ?_
  refine lv_irem hx hb d_B_term_72 (by decide) ?_
  refine lv_topi (fun v11 ev11 => ?_)
  obtain rfl : v11 = nI (((rsN ab) * (rsN be ^ 32001 % 32003)) % 32003) := ev11.trans (pk_rem (hml9) (by omega) (by omega))
  obtain ⟨y1, y2, y3⟩ := hE k hk
  rw [hz] at y1
  rw [hcp] at y2 y3
  refine mp_calli hI (va_runV (As := [.int (nI (kN (v % 16) (v / 16 % 16) (v / 256))), .int (nI (((rsN ab) * (rsN be ^ 32001 % 32003)) % 32003))]) (rest := []) ⟨hx, hb, hml, hown, hg⟩ (c_Y_put0 l D g S _ (eo k) (ek k) (en k) (100 + 3 * k) (kf k) (nf k) (kN (v % 16) (v / 16 % 16) (v / 256)) (rsN ab * (rsN be ^ 32001 % 32003) % 32003) y1 y2 y3 (Nat.mod_lt _ (by decide))) ⟨(callB_of 2 hg (wd_goodG q_695) rfl rfl rfl (hg _ q_3) (hg _ q_692) (by decide +kernel) ⟨Nat.le_of_ble_eq_true rfl, Nat.le_of_ble_eq_true rfl⟩), hg _ q_693, hg _ q_694⟩ (mp_preV (C := R_Y) (T := F_Y) hI hK y1 rfl [.int (nI (kN (v % 16) (v / 16 % 16) (v / 256))), .int (nI (((rsN ab) * (rsN be ^ 32001 % 32003)) % 32003))]) rfl rfl hl.1 rfl (lv_room (Nat.le_of_ble_eq_true rfl)) d_B_term_73 ⟨Nat.le_of_ble_eq_true rfl, Nat.le_of_ble_eq_true rfl⟩) (fun r15 S12 H13 locs p_14 hI => ?_)
  obtain ⟨er15, fp⟩ := p_14
  have hfr9 : ∀ b, S b ≠ none → b ≠ eo k → b ≠ ek k → b ≠ en k → S12 b = S b := fp
  rcases er15 with ⟨hz9, rfl⟩ | ⟨hz9, rfl⟩
  · refine mp_zret hx hb hr hlocks hI (by decide) (by decide) ?_ (by decide) d_B_term_76
    exact ⟨Or.inl ⟨hz9, rfl⟩, hfr9⟩
  · refine mp_zret hx hb hr hlocks hI (by decide) (by decide) ?_ (by decide) d_B_term_76
    exact ⟨Or.inr ⟨hz9, rfl⟩, hfr9⟩
set_option maxHeartbeats 4000000 in
set_option maxRecDepth 100000 in
/-- a polynomial that is 0 is not added -/
theorem c_K_add0 (l : Launch) (D : mp_G) (g : Nat → ClassId) (S : mp_M) (sz : Nat) (o y T : Nat) (u0 u1 u2 t0 t1 : Value) (h_o : S o = some (2, .inr (9, [u0, u1, u2]))) (h_y : S y = some (T, .inr (3, [t0, t1, .int (nI 0)])))  : Met l y_K_add w_K_add ({ frames := 0, cells := 0, slots := 0, locals := 0 }) (va_Pc [.ref o, .ref y] (mp_B0 D classes (tys g) S sz)) (va_Qv (fun (S1 : mp_M) => S1 = S) (mp_B1 D classes S sz) (mp_A S sz)) 0 0 (mp_A S sz) := by
  refine Met.ofW (cc := b_K_add) (maxL := 2) (ret := none) (by decide) rfl ?_
  intro p e s m args below meth c s₁ B hml hv
  obtain ⟨rfl, hsz, hH, hK⟩ := hv
  have hx := B.exec
  have hb := B.bytes
  have hr := B.returns
  have hts := atoms_spec (ws := w_K_add) B.pre
  have hg : ∀ w ∈ gw, w.before _ s = true := fun w h => hts w (List.mem_cons_of_mem _ h)
  have hown : s.vm.findClass R_K = some m.cls := findClass_of_methodNamed B.named
  have hlocks := B.notSynchronized
  subst hsz
  have hI := mp_I.start hH
  have hl := lv_entry ([.ref o, .ref y]) (n := 2) (Nat.le_of_ble_eq_true rfl)
  rw [lg_entry_eq]
  generalize (lg_sl ([.ref o, .ref y]) ++ List.replicate (2 - (lg_sl ([.ref o, .ref y])).length) Slot.unset).toArray = ls at hl ⊢
  have hl : lv_has ls 2 [(0, .ref o), (1, .ref y)] := hl
  refine lv_aload_n hx hb d_K_add_0 rfl (lv_at hl 1 rfl) ?_
  refine mp_getN (C := R_Y) (T := F_Y) (N := 3) (v := .int (nI 0)) hx hb hg i_Y hown hK.va hI h_y rfl 2 (by decide) (hK.use q_50 rfl) (fun _ h9 => h9) rfl d_K_add_1 ?_
  refine lv_if_le (tgt := 54) hx hb d_K_add_4 (by decide) (fun _ => ?_) (fun h9 => absurd (by decide) h9)
  refine mp_vret hx hb hr hlocks hI (by decide) (by decide) ?_ d_K_add_54
  exact rfl
set_option maxHeartbeats 4000000 in
set_option maxRecDepth 100000 in
/-- take of a polynomial that is 0 -/
theorem c_B_take0 (l : Launch) (D : mp_G) (g : Nat → ClassId) (S : mp_M) (sz : Nat) (o pa lo n tk : Nat) (eo ek en cap pz : Nat → Nat) (kf nf : Nat → Nat → Int32) (v3 v4 v6 v8 v9 u0 u1 u2 : Value) (an : Int32) (k : Nat) (h_o : S o = some (0, .inr (0, [.int (nI n), .ref pa, .ref lo, v3, v4, .int (nI tk), v6, .int an, v8, v9]))) (h_pa : S pa = some (1, .inl ((g 2), 40, .inr (.inr (.inr (.inr (rfs eo 40))))))) (h_lo : S lo = some (2, .inr (9, [u0, u1, u2]))) (hE : yS g 100 40 eo ek en cap pz kf nf S) (hz : pz k = 0) (hk : k < 40) (htk : tk < 12) : Met l y_B_take w_B_take ({ frames := 1, cells := 0, slots := 0, locals := 21 }) (va_Pc [.ref o, .int (nI k)] (mp_B0 D classes (tys g) S sz)) (va_Qi (fun (r : Int32) (S1 : mp_M) => r = 1 ∧ S1 o = some (0, .inr (0, [.int (nI n), .ref pa, .ref lo, v3, v4, .int (nI (tk + 1)), v6, .int 0, v8, v9])) ∧ (∀ b, S b ≠ none → b ≠ o → S1 b = S b)) (mp_B1 D classes S sz) (mp_A S sz)) 0 0 (mp_A S sz) := by
  refine Met.ofW (cc := b_B_take) (maxL := 3) (ret := (some .boolean)) (by decide) rfl ?_
  intro p e s m args below meth c s₁ B hml hv
  obtain ⟨rfl, hsz, hH, hK⟩ := hv
  have hx := B.exec
  have hb := B.bytes
  have hr := B.returns
  have hts := atoms_spec (ws := w_B_take) B.pre
  have hg : ∀ w ∈ gw, w.before _ s = true := fun w h => hts w (List.mem_cons_of_mem _ h)
  have hown : s.vm.findClass R_B = some m.cls := findClass_of_methodNamed B.named
  have hlocks := B.notSynchronized
  subst hsz
  have hI := mp_I.start hH
  have hl := lv_entry ([.ref o, .int (nI k)]) (n := 3) (Nat.le_of_ble_eq_true rfl)
  rw [lg_entry_eq]
  generalize (lg_sl ([.ref o, .int (nI k)]) ++ List.replicate (3 - (lg_sl ([.ref o, .int (nI k)])).length) Slot.unset).toArray = ls at hl ⊢
  have hl : lv_has ls 3 [(0, .ref o), (1, .int (nI k))] := hl
  have hfr : ∀ b, S b ≠ none → b ≠ o → S b = S b := fun _ _ _ => rfl
  obtain ⟨y1, y2, y3⟩ := hE k hk
  rw [hz] at y1
  refine lv_aload_n hx hb d_B_take_0 rfl (lv_at hl 0 rfl) ?_
  refine lv_iload_n hx hb d_B_take_1 rfl (lv_at hl 1 rfl) ?_
  refine pp_callr (va_runV (As := [.int (nI k)]) (rest := []) ⟨hx, hb, hml, hown, hg⟩ (p_B_polynomialOf l D g S _ o pa eo (.int (nI n)) (.ref lo) v3 v4 (.int (nI tk)) v6 (.int an) v8 v9 k h_o h_pa hk) ⟨(callB_of 1 hg (wd_goodG q_632) rfl rfl rfl (hg _ q_1) (hg _ q_629) (by decide +kernel) ⟨Nat.le_of_ble_eq_true rfl, Nat.le_of_ble_eq_true rfl⟩), hg _ q_631, hg _ qs_20⟩ (mp_preV (C := R_B) (T := F_B) hI hK h_o rfl [.int (nI k)]) rfl rfl hl.1 rfl (lv_room (Nat.le_of_ble_eq_true rfl)) d_B_take_2 ⟨Nat.le_of_ble_eq_true rfl, Nat.le_of_ble_eq_true rfl⟩) (fun r1 er1 => ?_)
  have er1 : r1 = eo k := er1
  subst er1
  refine lv_astore_n (lv' := [(2, .ref (eo k)), (0, .ref o), (1, .int (nI k))]) hx hb d_B_take_5 rfl hl (by decide) rfl (fun ls hl => ?_)
  refine lv_aload_n hx hb d_B_take_6 rfl (lv_at hl 1 rfl) ?_
  refine mp_get (C := R_B) (T := F_B) (N := 10) (v := .int (nI tk)) hx hb hg i_B hown hK.va hI h_o rfl 5 (by decide) (hg _ q_87) (fun _ h9 => h9) rfl d_B_take_7 ?_
  refine lv_bipush (v := nI 12) hx hb d_B_take_10 (by decide) ?_
  refine lv_icmp_lt (tgt := 17) hx hb d_B_take_12 (by decide) (fun _ => ?_) (fun h9 => absurd ((nI_ltI (by omega) (by omega)).mpr htk) h9)
  refine lv_aload_n hx hb d_B_take_17 rfl (lv_at hl 1 rfl) ?_
  refine lv_dup hx hb d_B_take_18 rfl ?_
  refine mp_get (C := R_B) (T := F_B) (N := 10) (v := .int (nI tk)) hx hb hg i_B hown hK.va hI h_o rfl 5 (by decide) (hg _ q_87) (fun _ h9 => h9) rfl d_B_take_19 ?_
  refine lv_iconst (v := nI 1) hx hb d_B_take_22 (by decide) ?_
  refine lv_iadd hx hb d_B_take_23 ?_
  refine lv_topi (fun v2 ev2 => ?_)
  obtain rfl : v2 = nI (tk + 1) := ev2.trans (nI_add _ _)
  refine mp_put (C := R_B) (T := F_B) (N := 10) (v := .int (nI (tk + 1))) (ty := .int) hx hb hg i_B t_B t_B_ok n_B hown hK.va hI h_o rfl 5 (by decide) (hg _ q_87) (fun _ h9 => h9) rfl (by decide +kernel) (rfl) rfl (Nat.le_of_ble_eq_true rfl) d_B_take_24 (fun S3 H4 locs e_5 hI => ?_)
  have e_5 : S3 = va_up S o (some (0, .inr (0, [.int (nI n), .ref pa, .ref lo, v3, v4, .int (nI (tk + 1)), v6, .int an, v8, v9]))) := e_5
  have h_pa : S3 pa = some (1, .inl ((g 2), 40, .inr (.inr (.inr (.inr (rfs eo 40)))))) := by rw [e_5]; exact mp_keep h_pa h_o (by decide)
  have h_lo : S3 lo = some (2, .inr (9, [u0, u1, u2])) := by rw [e_5]; exact mp_keep h_lo h_o (by decide)
  have y1 : S3 (eo k) = some ((100 + 3 * k), .inr (3, [.ref (ek k), .ref (en k), .int (nI 0)])) := by rw [e_5]; exact mp_keep y1 h_o (by omega)
  have h_o : S3 o = some (0, .inr (0, [.int (nI n), .ref pa, .ref lo, v3, v4, .int (nI (tk + 1)), v6, .int an, v8, v9])) := by rw [e_5]; exact mp_us _ _ _
  have hfr : ∀ b, S b ≠ none → b ≠ o → S3 b = S b := fun b h9 k0 => by rw [e_5]; exact (mp_un k0).trans (hfr b h9 k0)
  refine lv_aload_n hx hb d_B_take_27 rfl (lv_at hl 1 rfl) ?_
  refine mp_get (C := R_B) (T := F_B) (N := 10) (v := .ref lo) hx hb hg i_B hown hK.va hI h_o rfl 2 (by decide) (hg _ q_84) (fun _ h9 => h9) rfl d_B_take_28 ?_
  refine lv_aload_n hx hb d_B_take_31 rfl (lv_at hl 0 rfl) ?_
  refine mp_callv hI (va_runV (As := [.ref (eo k)]) (rest := []) ⟨hx, hb, hml, hown, hg⟩ (c_K_add0 l D g S3 _ lo (eo k) (100 + 3 * k) u0 u1 u2 _ _ h_lo y1) ⟨(callB_of 1 hg (wd_goodG q_726) rfl rfl rfl (hg _ q_2) (hg _ q_723) (by decide +kernel) ⟨Nat.le_of_ble_eq_true rfl, Nat.le_of_ble_eq_true rfl⟩), hg _ q_724, hg _ q_725⟩ (mp_preV (C := R_K) (T := F_K) hI hK h_lo rfl [.ref (eo k)]) rfl rfl hl.1 rfl (lv_room (Nat.le_of_ble_eq_true rfl)) d_B_take_32 ⟨Nat.le_of_ble_eq_true rfl, Nat.le_of_ble_eq_true rfl⟩) (fun S6 H7 locs p_8 hI => ?_)
  rw [p_8] at hI
  refine lv_aload_n hx hb d_B_take_35 rfl (lv_at hl 1 rfl) ?_
  refine lv_iconst (v := nI 0) hx hb d_B_take_36 (by decide) ?_
  refine mp_put (C := R_B) (T := F_B) (N := 10) (v := .int (nI 0)) (ty := .boolean) hx hb hg i_B t_B t_B_ok n_B hown hK.va hI h_o rfl 7 (by decide) (hg _ q_89) (fun _ h9 => h9) rfl (by decide +kernel) (rfl) rfl (Nat.le_of_ble_eq_true rfl) d_B_take_37 (fun S11 H12 locs e_13 hI => ?_)
  have e_13 : S11 = va_up S3 o (some (0, .inr (0, [.int (nI n), .ref pa, .ref lo, v3, v4, .int (nI (tk + 1)), v6, .int (nI 0), v8, v9]))) := e_13
  have h_pa : S11 pa = some (1, .inl ((g 2), 40, .inr (.inr (.inr (.inr (rfs eo 40)))))) := by rw [e_13]; exact mp_keep h_pa h_o (by decide)
  have h_lo : S11 lo = some (2, .inr (9, [u0, u1, u2])) := by rw [e_13]; exact mp_keep h_lo h_o (by decide)
  have y1 : S11 (eo k) = some ((100 + 3 * k), .inr (3, [.ref (ek k), .ref (en k), .int (nI 0)])) := by rw [e_13]; exact mp_keep y1 h_o (by omega)
  have h_o : S11 o = some (0, .inr (0, [.int (nI n), .ref pa, .ref lo, v3, v4, .int (nI (tk + 1)), v6, .int (nI 0), v8, v9])) := by rw [e_13]; exact mp_us _ _ _
  have hfr : ∀ b, S b ≠ none → b ≠ o → S11 b = S b := fun b h9 k0 => by rw [e_13]; exact (mp_un k0).trans (hfr b h9 k0)
  refine lv_iconst (v := nI 1) hx hb d_B_take_40 (by decide) ?_
  refine mp_zret hx hb hr hlocks hI (by decide) (by decide) ?_ (by decide) d_B_take_41
  exact ⟨rfl, h_o, hfr⟩
