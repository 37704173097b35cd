/-- a value, as far as it is summed up -/
def vlI (c : Nat → fF) (x y w : fF) (i : Nat) : fF := sm i (fun q => c q * ev x y w (Em q))
theorem vl_z {c : Nat → fF} {x y w : fF} {i : Nat} (h : c i = 0) : vlI c x y w (i + 1) = vlI c x y w i := by
  unfold vlI; rw [sm_s, h]; grind
theorem vl_s (c : Nat → fF) (x y w : fF) (i : Nat) : vlI c x y w (i + 1) = vlI c x y w i + c i * ev x y w (Em i) := rfl

theorem d_M_at_12 : decode b_M_at 12 = .ok (.aload_n 0, 1) := by decide +kernel
theorem d_M_at_13 : decode b_M_at 13 = .ok (.iload_n 1, 1) := by decide +kernel
theorem d_M_at_14 : decode b_M_at 14 = .ok (.invokevirtual 241, 3) := by decide +kernel
theorem d_M_at_17 : decode b_M_at 17 = .ok (.ifCond .ne 7, 3) := by decide +kernel
theorem d_M_at_20 : decode b_M_at 20 = .ok (.iconst 2, 1) := by decide +kernel
theorem d_M_at_21 : decode b_M_at 21 = .ok (.goto 16, 3) := by decide +kernel
theorem d_M_at_24 : decode b_M_at 24 = .ok (.aload_n 0, 1) := by decide +kernel
theorem d_M_at_25 : decode b_M_at 25 = .ok (.iload_n 2, 1) := by decide +kernel
theorem d_M_at_26 : decode b_M_at 26 = .ok (.invokevirtual 244, 3) := by decide +kernel
theorem d_M_at_29 : decode b_M_at 29 = .ok (.ifCond .ne 7, 3) := by decide +kernel
theorem d_M_at_32 : decode b_M_at 32 = .ok (.iconst 3, 1) := by decide +kernel
theorem d_M_at_33 : decode b_M_at 33 = .ok (.goto 4, 3) := by decide +kernel
theorem d_M_at_36 : decode b_M_at 36 = .ok (.iconst 0, 1) := by decide +kernel
theorem d_M_at_51 : decode b_M_at 51 = .ok (.aload_n 0, 1) := by decide +kernel
theorem d_M_at_52 : decode b_M_at 52 = .ok (.getfield 50, 3) := by decide +kernel
theorem d_M_at_55 : decode b_M_at 55 = .ok (.iconst 3, 1) := by decide +kernel
theorem d_M_at_56 : decode b_M_at 56 = .ok (.iload_n 1, 1) := by decide +kernel
theorem d_M_at_57 : decode b_M_at 57 = .ok (.imul, 1) := by decide +kernel
theorem d_M_at_58 : decode b_M_at 58 = .ok (.iload_n 2, 1) := by decide +kernel
theorem d_M_at_59 : decode b_M_at 59 = .ok (.iadd, 1) := by decide +kernel
theorem d_M_at_60 : decode b_M_at 60 = .ok (.iaload, 1) := by decide +kernel
theorem d_M_isLetter_0 : decode b_M_isLetter 0 = .ok (.iload_n 1, 1) := by decide +kernel
theorem d_M_isLetter_1 : decode b_M_isLetter 1 = .ok (.ifCond .lt 15, 3) := by decide +kernel
theorem d_M_isLetter_4 : decode b_M_isLetter 4 = .ok (.iload_n 1, 1) := by decide +kernel
theorem d_M_isLetter_5 : decode b_M_isLetter 5 = .ok (.aload_n 0, 1) := by decide +kernel
theorem d_M_isLetter_6 : decode b_M_isLetter 6 = .ok (.getfield 78, 3) := by decide +kernel
theorem d_M_isLetter_9 : decode b_M_isLetter 9 = .ok (.if_icmp .ge 7, 3) := by decide +kernel
theorem d_M_isLetter_12 : decode b_M_isLetter 12 = .ok (.iconst 1, 1) := by decide +kernel
theorem d_M_isLetter_13 : decode b_M_isLetter 13 = .ok (.goto 4, 3) := by decide +kernel
theorem d_M_isLetter_16 : decode b_M_isLetter 16 = .ok (.iconst 0, 1) := by decide +kernel
theorem d_M_isLetter_17 : decode b_M_isLetter 17 = .ok (.ireturn, 1) := by decide +kernel
theorem d_M_isZero_0 : decode b_M_isZero 0 = .ok (.iload_n 1, 1) := by decide +kernel
theorem d_M_isZero_1 : decode b_M_isZero 1 = .ok (.ifCond .lt 15, 3) := by decide +kernel
theorem d_M_isZero_4 : decode b_M_isZero 4 = .ok (.iload_n 1, 1) := by decide +kernel
theorem d_M_isZero_5 : decode b_M_isZero 5 = .ok (.aload_n 0, 1) := by decide +kernel
theorem d_M_isZero_6 : decode b_M_isZero 6 = .ok (.getfield 195, 3) := by decide +kernel
theorem d_M_isZero_9 : decode b_M_isZero 9 = .ok (.if_icmp .ge 7, 3) := by decide +kernel
theorem d_M_isZero_12 : decode b_M_isZero 12 = .ok (.iconst 1, 1) := by decide +kernel
theorem d_M_isZero_13 : decode b_M_isZero 13 = .ok (.goto 4, 3) := by decide +kernel
theorem d_M_isZero_16 : decode b_M_isZero 16 = .ok (.iconst 0, 1) := by decide +kernel
theorem d_M_isZero_17 : decode b_M_isZero 17 = .ok (.ireturn, 1) := by decide +kernel
theorem d_M_left_8 : decode b_M_left 8 = .ok (.iconst 0, 1) := by decide +kernel
theorem d_M_left_9 : decode b_M_left 9 = .ok (.goto 4, 3) := by decide +kernel
theorem d_M_left_25 : decode b_M_left 25 = .ok (.iload_n 1, 1) := by decide +kernel
theorem d_M_left_26 : decode b_M_left 26 = .ok (.ifCond .lt 11, 3) := by decide +kernel
theorem d_M_left_29 : decode b_M_left 29 = .ok (.iload_n 1, 1) := by decide +kernel
theorem d_M_left_30 : decode b_M_left 30 = .ok (.aload_n 0, 1) := by decide +kernel
theorem d_M_left_31 : decode b_M_left 31 = .ok (.getfield 171, 3) := by decide +kernel
theorem d_M_left_34 : decode b_M_left 34 = .ok (.if_icmp .lt 7, 3) := by decide +kernel
theorem d_M_left_37 : decode b_M_left 37 = .ok (.iconst (-1), 1) := by decide +kernel
theorem d_M_left_38 : decode b_M_left 38 = .ok (.goto 12, 3) := by decide +kernel
theorem d_M_left_41 : decode b_M_left 41 = .ok (.aload_n 0, 1) := by decide +kernel
theorem d_M_left_42 : decode b_M_left 42 = .ok (.getfield 32, 3) := by decide +kernel
theorem d_M_left_45 : decode b_M_left 45 = .ok (.iload_n 1, 1) := by decide +kernel
theorem d_M_left_46 : decode b_M_left 46 = .ok (.iaload, 1) := by decide +kernel
theorem d_M_left_47 : decode b_M_left 47 = .ok (.invokestatic 238, 3) := by decide +kernel
theorem d_M_left_50 : decode b_M_left 50 = .ok (.ireturn, 1) := by decide +kernel
theorem d_M_minimal_12 : decode b_M_minimal 12 = .ok (.aload_n 0, 1) := by decide +kernel
theorem d_M_minimal_13 : decode b_M_minimal 13 = .ok (.iload_n 1, 1) := by decide +kernel
theorem d_M_minimal_14 : decode b_M_minimal 14 = .ok (.invokevirtual 244, 3) := by decide +kernel
theorem d_M_minimal_17 : decode b_M_minimal 17 = .ok (.ifCond .ne 7, 3) := by decide +kernel
theorem d_M_minimal_20 : decode b_M_minimal 20 = .ok (.iconst 2, 1) := by decide +kernel
theorem d_M_minimal_21 : decode b_M_minimal 21 = .ok (.goto 4, 3) := by decide +kernel
theorem d_M_minimal_24 : decode b_M_minimal 24 = .ok (.iconst 0, 1) := by decide +kernel
theorem d_M_minimal_37 : decode b_M_minimal 37 = .ok (.iload_n 2, 1) := by decide +kernel
theorem d_M_minimal_38 : decode b_M_minimal 38 = .ok (.ifCond .lt 13, 3) := by decide +kernel
theorem d_M_minimal_41 : decode b_M_minimal 41 = .ok (.iload_n 2, 1) := by decide +kernel
theorem d_M_minimal_42 : decode b_M_minimal 42 = .ok (.aload_n 0, 1) := by decide +kernel
theorem d_M_minimal_43 : decode b_M_minimal 43 = .ok (.getfield 38, 3) := by decide +kernel
theorem d_M_minimal_46 : decode b_M_minimal 46 = .ok (.iload_n 1, 1) := by decide +kernel
theorem d_M_minimal_47 : decode b_M_minimal 47 = .ok (.iaload, 1) := by decide +kernel
theorem d_M_minimal_48 : decode b_M_minimal 48 = .ok (.if_icmp .le 7, 3) := by decide +kernel
theorem d_M_minimal_51 : decode b_M_minimal 51 = .ok (.iconst 0, 1) := by decide +kernel
theorem d_M_minimal_52 : decode b_M_minimal 52 = .ok (.goto 14, 3) := by decide +kernel
theorem d_M_minimal_55 : decode b_M_minimal 55 = .ok (.aload_n 0, 1) := by decide +kernel
theorem d_M_minimal_56 : decode b_M_minimal 56 = .ok (.getfield 41, 3) := by decide +kernel
theorem d_M_minimal_59 : decode b_M_minimal 59 = .ok (.bipush 17, 2) := by decide +kernel
theorem d_M_minimal_61 : decode b_M_minimal 61 = .ok (.iload_n 1, 1) := by decide +kernel
theorem d_M_minimal_62 : decode b_M_minimal 62 = .ok (.imul, 1) := by decide +kernel
theorem d_M_minimal_63 : decode b_M_minimal 63 = .ok (.iload_n 2, 1) := by decide +kernel
theorem d_M_minimal_64 : decode b_M_minimal 64 = .ok (.iadd, 1) := by decide +kernel
theorem d_M_minimal_65 : decode b_M_minimal 65 = .ok (.iaload, 1) := by decide +kernel
theorem d_M_minimal_66 : decode b_M_minimal 66 = .ok (.ireturn, 1) := by decide +kernel
theorem d_M_multiplicity_12 : decode b_M_multiplicity 12 = .ok (.aload_n 0, 1) := by decide +kernel
theorem d_M_multiplicity_13 : decode b_M_multiplicity 13 = .ok (.iload_n 1, 1) := by decide +kernel
theorem d_M_multiplicity_14 : decode b_M_multiplicity 14 = .ok (.invokevirtual 241, 3) := by decide +kernel
theorem d_M_multiplicity_17 : decode b_M_multiplicity 17 = .ok (.ifCond .ne 7, 3) := by decide +kernel
theorem d_M_multiplicity_20 : decode b_M_multiplicity 20 = .ok (.iconst 2, 1) := by decide +kernel
theorem d_M_multiplicity_21 : decode b_M_multiplicity 21 = .ok (.goto 4, 3) := by decide +kernel
theorem d_M_multiplicity_24 : decode b_M_multiplicity 24 = .ok (.iconst 0, 1) := by decide +kernel
theorem d_M_multiplicity_39 : decode b_M_multiplicity 39 = .ok (.aload_n 0, 1) := by decide +kernel
theorem d_M_multiplicity_40 : decode b_M_multiplicity 40 = .ok (.getfield 53, 3) := by decide +kernel
theorem d_M_multiplicity_43 : decode b_M_multiplicity 43 = .ok (.iload_n 1, 1) := by decide +kernel
theorem d_M_multiplicity_44 : decode b_M_multiplicity 44 = .ok (.iaload, 1) := by decide +kernel
theorem d_M_total_8 : decode b_M_total 8 = .ok (.iconst 0, 1) := by decide +kernel
theorem d_M_total_9 : decode b_M_total 9 = .ok (.goto 4, 3) := by decide +kernel
theorem d_M_total_23 : decode b_M_total 23 = .ok (.aload_n 0, 1) := by decide +kernel
theorem d_M_total_24 : decode b_M_total 24 = .ok (.getfield 171, 3) := by decide +kernel
theorem d_M_total_27 : decode b_M_total 27 = .ok (.goto 4, 3) := by decide +kernel
theorem d_M_value_12 : decode b_M_value 12 = .ok (.iload_n 1, 1) := by decide +kernel
theorem d_M_value_13 : decode b_M_value 13 = .ok (.invokestatic 101, 3) := by decide +kernel
theorem d_M_value_16 : decode b_M_value 16 = .ok (.ifCond .eq 11, 3) := by decide +kernel
theorem d_M_value_19 : decode b_M_value 19 = .ok (.aload_n 0, 1) := by decide +kernel
theorem d_M_value_20 : decode b_M_value 20 = .ok (.iload_n 2, 1) := by decide +kernel
theorem d_M_value_21 : decode b_M_value 21 = .ok (.invokevirtual 241, 3) := by decide +kernel
theorem d_M_value_24 : decode b_M_value 24 = .ok (.ifCond .ne 7, 3) := by decide +kernel
theorem d_M_value_27 : decode b_M_value 27 = .ok (.iconst 2, 1) := by decide +kernel
theorem d_M_value_28 : decode b_M_value 28 = .ok (.goto 4, 3) := by decide +kernel
theorem d_M_value_31 : decode b_M_value 31 = .ok (.iconst 0, 1) := by decide +kernel
theorem d_M_value_44 : decode b_M_value 44 = .ok (.iconst 0, 1) := by decide +kernel
theorem d_M_value_45 : decode b_M_value 45 = .ok (.istore_n 3, 1) := by decide +kernel
theorem d_M_value_46 : decode b_M_value 46 = .ok (.iconst 0, 1) := by decide +kernel
theorem d_M_value_47 : decode b_M_value 47 = .ok (.istore 4, 2) := by decide +kernel
theorem d_M_value_49 : decode b_M_value 49 = .ok (.iload 4, 2) := by decide +kernel
theorem d_M_value_51 : decode b_M_value 51 = .ok (.sipush 1000, 3) := by decide +kernel
theorem d_M_value_54 : decode b_M_value 54 = .ok (.if_icmp .ge 72, 3) := by decide +kernel
theorem d_M_value_57 : decode b_M_value 57 = .ok (.aload_n 0, 1) := by decide +kernel
theorem d_M_value_58 : decode b_M_value 58 = .ok (.getfield 8, 3) := by decide +kernel
theorem d_M_value_61 : decode b_M_value 61 = .ok (.sipush 1000, 3) := by decide +kernel
theorem d_M_value_64 : decode b_M_value 64 = .ok (.iload_n 1, 1) := by decide +kernel
theorem d_M_value_65 : decode b_M_value 65 = .ok (.imul, 1) := by decide +kernel
theorem d_M_value_66 : decode b_M_value 66 = .ok (.iload 4, 2) := by decide +kernel
theorem d_M_value_68 : decode b_M_value 68 = .ok (.iadd, 1) := by decide +kernel
theorem d_M_value_69 : decode b_M_value 69 = .ok (.iaload, 1) := by decide +kernel
theorem d_M_value_70 : decode b_M_value 70 = .ok (.istore 5, 2) := by decide +kernel
theorem d_M_value_72 : decode b_M_value 72 = .ok (.iload 5, 2) := by decide +kernel
theorem d_M_value_74 : decode b_M_value 74 = .ok (.ifCond .eq 46, 3) := by decide +kernel
theorem d_M_value_77 : decode b_M_value 77 = .ok (.iload_n 3, 1) := by decide +kernel
theorem d_M_value_78 : decode b_M_value 78 = .ok (.iload 5, 2) := by decide +kernel
theorem d_M_value_80 : decode b_M_value 80 = .ok (.iload 4, 2) := by decide +kernel
theorem d_M_value_82 : decode b_M_value 82 = .ok (.aload_n 0, 1) := by decide +kernel
theorem d_M_value_83 : decode b_M_value 83 = .ok (.getfield 50, 3) := by decide +kernel
theorem d_M_value_86 : decode b_M_value 86 = .ok (.iconst 3, 1) := by decide +kernel
theorem d_M_value_87 : decode b_M_value 87 = .ok (.iload_n 2, 1) := by decide +kernel
theorem d_M_value_88 : decode b_M_value 88 = .ok (.imul, 1) := by decide +kernel
theorem d_M_value_89 : decode b_M_value 89 = .ok (.iaload, 1) := by decide +kernel
theorem d_M_value_90 : decode b_M_value 90 = .ok (.aload_n 0, 1) := by decide +kernel
theorem d_M_value_91 : decode b_M_value 91 = .ok (.getfield 50, 3) := by decide +kernel
theorem d_M_value_94 : decode b_M_value 94 = .ok (.iconst 3, 1) := by decide +kernel
theorem d_M_value_95 : decode b_M_value 95 = .ok (.iload_n 2, 1) := by decide +kernel
theorem d_M_value_96 : decode b_M_value 96 = .ok (.imul, 1) := by decide +kernel
theorem d_M_value_97 : decode b_M_value 97 = .ok (.iconst 1, 1) := by decide +kernel
theorem d_M_value_98 : decode b_M_value 98 = .ok (.iadd, 1) := by decide +kernel
theorem d_M_value_99 : decode b_M_value 99 = .ok (.iaload, 1) := by decide +kernel
theorem d_M_value_100 : decode b_M_value 100 = .ok (.aload_n 0, 1) := by decide +kernel
theorem d_M_value_101 : decode b_M_value 101 = .ok (.getfield 50, 3) := by decide +kernel
theorem d_M_value_104 : decode b_M_value 104 = .ok (.iconst 3, 1) := by decide +kernel
theorem d_M_value_105 : decode b_M_value 105 = .ok (.iload_n 2, 1) := by decide +kernel
theorem d_M_value_106 : decode b_M_value 106 = .ok (.imul, 1) := by decide +kernel
theorem d_M_value_107 : decode b_M_value 107 = .ok (.iconst 2, 1) := by decide +kernel
theorem d_M_value_108 : decode b_M_value 108 = .ok (.iadd, 1) := by decide +kernel
theorem d_M_value_109 : decode b_M_value 109 = .ok (.iaload, 1) := by decide +kernel
theorem d_M_value_110 : decode b_M_value 110 = .ok (.invokestatic 191, 3) := by decide +kernel
theorem d_M_value_113 : decode b_M_value 113 = .ok (.invokestatic 87, 3) := by decide +kernel
theorem d_M_value_116 : decode b_M_value 116 = .ok (.invokestatic 174, 3) := by decide +kernel
theorem d_M_value_119 : decode b_M_value 119 = .ok (.istore_n 3, 1) := by decide +kernel
theorem d_M_value_120 : decode b_M_value 120 = .ok (.iinc 4 1, 3) := by decide +kernel
theorem d_M_value_123 : decode b_M_value 123 = .ok (.goto (-74), 3) := by decide +kernel
theorem d_M_value_126 : decode b_M_value 126 = .ok (.iload_n 3, 1) := by decide +kernel
theorem d_M_value_127 : decode b_M_value 127 = .ok (.ireturn, 1) := by decide +kernel
set_option maxHeartbeats 4000000 in
set_option maxRecDepth 100000 in
/-- no such one -/
theorem c_M_isZeroN (l : Launch) (D : mp_G) (g : Nat → ClassId) (S : mp_M) (sz : Nat) (o zc : Nat) (mv0 mv1 mv2 mv3 mv4 mv5 mv6 mv7 mv8 mv9 mv10 mv11 mv12 mv13 mv14 mv15 mv16 mv17 mv18 mv19 mv20 mv22 mv23 mv24 mv25 mv26 mv27 mv28 mv29 mv30 : Value) (x : Int32) (h_o : S o = some (2000, .inr (10, [mv0, mv1, mv2, mv3, mv4, mv5, mv6, mv7, mv8, mv9, mv10, mv11, mv12, mv13, mv14, mv15, mv16, mv17, mv18, mv19, mv20, .int (nI zc), mv22, mv23, mv24, mv25, mv26, mv27, mv28, mv29, mv30]))) (hx9 : x < 0 ∨ nI zc ≤ x) : Met l y_M_isZero w_M_isZero ({ frames := 0, cells := 0, slots := 0, locals := 0 }) (va_Pc [.ref o, .int x] (mp_B0 D classes (tys g) S sz)) (va_Qi (fun (r : Int32) (S1 : mp_M) => r = 0 ∧ S1 = S) (mp_B1 D classes S sz) (mp_A S sz)) 0 0 (mp_A S sz) := by
  refine Met.ofW (cc := b_M_isZero) (maxL := 2) (ret := (some .boolean)) (by decide) rfl ?_
  intro p e s m args below meth c s₁ B hml hv
  obtain ⟨rfl, hsz, hH, hK⟩ := hv
  have hx := B.exec
  have hb := B.bytes
  have hr := B.returns
  have hts := atoms_spec (ws := w_M_isZero) B.pre
  have hg : ∀ w ∈ gw, w.before _ s = true := fun w h => hts w (List.mem_cons_of_mem _ h)
  have hown : s.vm.findClass R_M = some m.cls := findClass_of_methodNamed B.named
  have hlocks := B.notSynchronized
  subst hsz
  have hI := mp_I.start hH
  have hl := lv_entry ([.ref o, .int x]) (n := 2) (Nat.le_of_ble_eq_true rfl)
  rw [lg_entry_eq]
  generalize (lg_sl ([.ref o, .int x]) ++ List.replicate (2 - (lg_sl ([.ref o, .int x])).length) Slot.unset).toArray = ls at hl ⊢
  have hl : lv_has ls 2 [(0, .ref o), (1, .int x)] := hl
  refine lv_iload_n hx hb d_M_isZero_0 rfl (lv_at hl 1 rfl) ?_
  refine lv_if_lt (tgt := 16) hx hb d_M_isZero_1 (by decide) (fun c1 => ?_) (fun c1 => ?_)
  · refine lv_iconst (v := nI 0) hx hb d_M_isZero_16 (by decide) ?_
    refine mp_zret hx hb hr hlocks hI (Nat.le_of_ble_eq_true rfl) (Nat.le_of_ble_eq_true rfl) ?_ (by decide) d_M_isZero_17
    exact ⟨rfl, rfl⟩
  · refine lv_iload_n hx hb d_M_isZero_4 rfl (lv_at hl 1 rfl) ?_
    refine lv_aload_n hx hb d_M_isZero_5 rfl (lv_at hl 0 rfl) ?_
    refine mp_get (C := R_M) (T := F_M) (N := 31) (v := .int (nI zc)) hx hb hg i_M hown hK.va hI h_o rfl 21 (by decide) (hg _ q_825) (fun _ h9 => h9) rfl d_M_isZero_6 ?_
    refine lv_icmp_ge (tgt := 16) hx hb d_M_isZero_9 (by decide) (fun _ => ?_) (fun h9 => absurd (hx9.resolve_left c1) h9)
    refine lv_iconst (v := nI 0) hx hb d_M_isZero_16 (by decide) ?_
    refine mp_zret hx hb hr hlocks hI (Nat.le_of_ble_eq_true rfl) (Nat.le_of_ble_eq_true rfl) ?_ (by decide) d_M_isZero_17
    exact ⟨rfl, rfl⟩
set_option maxHeartbeats 4000000 in
set_option maxRecDepth 100000 in
/-- such a one -/
theorem c_M_isZero (l : Launch) (D : mp_G) (g : Nat → ClassId) (S : mp_M) (sz : Nat) (o zc k9 : Nat) (mv0 mv1 mv2 mv3 mv4 mv5 mv6 mv7 mv8 mv9 mv10 mv11 mv12 mv13 mv14 mv15 mv16 mv17 mv18 mv19 mv20 mv22 mv23 mv24 mv25 mv26 mv27 mv28 mv29 mv30 : Value) (h_o : S o = some (2000, .inr (10, [mv0, mv1, mv2, mv3, mv4, mv5, mv6, mv7, mv8, mv9, mv10, mv11, mv12, mv13, mv14, mv15, mv16, mv17, mv18, mv19, mv20, .int (nI zc), mv22, mv23, mv24, mv25, mv26, mv27, mv28, mv29, mv30]))) (hk9 : k9 < zc) (hn9 : zc ≤ 16) : Met l y_M_isZero w_M_isZero ({ frames := 0, cells := 0, slots := 0, locals := 0 }) (va_Pc [.ref o, .int (nI k9)] (mp_B0 D classes (tys g) S sz)) (va_Qi (fun (r : Int32) (S1 : mp_M) => r = 1 ∧ S1 = S) (mp_B1 D classes S sz) (mp_A S sz)) 0 0 (mp_A S sz) := by
  refine Met.ofW (cc := b_M_isZero) (maxL := 2) (ret := (some .boolean)) (by decide) rfl ?_
  intro p e s m args below meth c s₁ B hml hv
  obtain ⟨rfl, hsz, hH, hK⟩ := hv
  have hx := B.exec
  have hb := B.bytes
  have hr := B.returns
  have hts := atoms_spec (ws := w_M_isZero) B.pre
  have hg : ∀ w ∈ gw, w.before _ s = true := fun w h => hts w (List.mem_cons_of_mem _ h)
  have hown : s.vm.findClass R_M = some m.cls := findClass_of_methodNamed B.named
  have hlocks := B.notSynchronized
  subst hsz
  have hI := mp_I.start hH
  have hl := lv_entry ([.ref o, .int (nI k9)]) (n := 2) (Nat.le_of_ble_eq_true rfl)
  rw [lg_entry_eq]
  generalize (lg_sl ([.ref o, .int (nI k9)]) ++ List.replicate (2 - (lg_sl ([.ref o, .int (nI k9)])).length) Slot.unset).toArray = ls at hl ⊢
  have hl : lv_has ls 2 [(0, .ref o), (1, .int (nI k9))] := hl
  refine lv_iload_n hx hb d_M_isZero_0 rfl (lv_at hl 1 rfl) ?_
  refine lv_if_lt (tgt := 16) hx hb d_M_isZero_1 (by decide) (fun h9 => absurd h9 (nI_pos (by omega))) (fun _ => ?_)
  refine lv_iload_n hx hb d_M_isZero_4 rfl (lv_at hl 1 rfl) ?_
  refine lv_aload_n hx hb d_M_isZero_5 rfl (lv_at hl 0 rfl) ?_
  refine mp_get (C := R_M) (T := F_M) (N := 31) (v := .int (nI zc)) hx hb hg i_M hown hK.va hI h_o rfl 21 (by decide) (hg _ q_825) (fun _ h9 => h9) rfl d_M_isZero_6 ?_
  refine lv_icmp_ge (tgt := 16) hx hb d_M_isZero_9 (by decide) (fun h9 => absurd h9 (by rw [nI_leI (by omega) (by omega)]; omega)) (fun _ => ?_)
  refine lv_iconst (v := nI 1) hx hb d_M_isZero_12 (by decide) ?_
  refine lv_goto (tgt := 17) hx hb d_M_isZero_13 (by decide) ?_
  refine mp_zret hx hb hr hlocks hI (Nat.le_of_ble_eq_true rfl) (Nat.le_of_ble_eq_true rfl) ?_ (by decide) d_M_isZero_17
  exact ⟨rfl, rfl⟩
set_option maxHeartbeats 4000000 in
set_option maxRecDepth 100000 in
/-- no such one -/
theorem c_M_isLetterN (l : Launch) (D : mp_G) (g : Nat → ClassId) (S : mp_M) (sz : Nat) (o nl : Nat) (mv1 mv2 mv3 mv4 mv5 mv6 mv7 mv8 mv9 mv10 mv11 mv12 mv13 mv14 mv15 mv16 mv17 mv18 mv19 mv20 mv21 mv22 mv23 mv24 mv25 mv26 mv27 mv28 mv29 mv30 : Value) (x : Int32) (h_o : S o = some (2000, .inr (10, [.int (nI nl), mv1, mv2, mv3, mv4, mv5, mv6, mv7, mv8, mv9, mv10, mv11, mv12, mv13, mv14, mv15, mv16, mv17, mv18, mv19, mv20, mv21, mv22, mv23, mv24, mv25, mv26, mv27, mv28, mv29, mv30]))) (hx9 : x < 0 ∨ nI nl ≤ x) : Met l y_M_isLetter w_M_isLetter ({ frames := 0, cells := 0, slots := 0, locals := 0 }) (va_Pc [.ref o, .int x] (mp_B0 D classes (tys g) S sz)) (va_Qi (fun (r : Int32) (S1 : mp_M) => r = 0 ∧ S1 = S) (mp_B1 D classes S sz) (mp_A S sz)) 0 0 (mp_A S sz) := by
  refine Met.ofW (cc := b_M_isLetter) (maxL := 2) (ret := (some .boolean)) (by decide) rfl ?_
  intro p e s m args below meth c s₁ B hml hv
  obtain ⟨rfl, hsz, hH, hK⟩ := hv
  have hx := B.exec
  have hb := B.bytes
  have hr := B.returns
  have hts := atoms_spec (ws := w_M_isLetter) B.pre
  have hg : ∀ w ∈ gw, w.before _ s = true := fun w h => hts w (List.mem_cons_of_mem _ h)
  have hown : s.vm.findClass R_M = some m.cls := findClass_of_methodNamed B.named
  have hlocks := B.notSynchronized
  subst hsz
  have hI := mp_I.start hH
  have hl := lv_entry ([.ref o, .int x]) (n := 2) (Nat.le_of_ble_eq_true rfl)
  rw [lg_entry_eq]
  generalize (lg_sl ([.ref o, .int x]) ++ List.replicate (2 - (lg_sl ([.ref o, .int x])).length) Slot.unset).toArray = ls at hl ⊢
  have hl : lv_has ls 2 [(0, .ref o), (1, .int x)] := hl
  refine lv_iload_n hx hb d_M_isLetter_0 rfl (lv_at hl 1 rfl) ?_
  refine lv_if_lt (tgt := 16) hx hb d_M_isLetter_1 (by decide) (fun c1 => ?_) (fun c1 => ?_)
  · refine lv_iconst (v := nI 0) hx hb d_M_isLetter_16 (by decide) ?_
    refine mp_zret hx hb hr hlocks hI (Nat.le_of_ble_eq_true rfl) (Nat.le_of_ble_eq_true rfl) ?_ (by decide) d_M_isLetter_17
    exact ⟨rfl, rfl⟩
  · refine lv_iload_n hx hb d_M_isLetter_4 rfl (lv_at hl 1 rfl) ?_
    refine lv_aload_n hx hb d_M_isLetter_5 rfl (lv_at hl 0 rfl) ?_
    refine mp_get (C := R_M) (T := F_M) (N := 31) (v := .int (nI nl)) hx hb hg i_M hown hK.va hI h_o rfl 0 (by decide) (hg _ q_804) (fun _ h9 => h9) rfl d_M_isLetter_6 ?_
    refine lv_icmp_ge (tgt := 16) hx hb d_M_isLetter_9 (by decide) (fun _ => ?_) (fun h9 => absurd (hx9.resolve_left c1) h9)
    refine lv_iconst (v := nI 0) hx hb d_M_isLetter_16 (by decide) ?_
    refine mp_zret hx hb hr hlocks hI (Nat.le_of_ble_eq_true rfl) (Nat.le_of_ble_eq_true rfl) ?_ (by decide) d_M_isLetter_17
    exact ⟨rfl, rfl⟩
set_option maxHeartbeats 4000000 in
set_option maxRecDepth 100000 in
/-- such a one -/
theorem c_M_isLetter (l : Launch) (D : mp_G) (g : Nat → ClassId) (S : mp_M) (sz : Nat) (o nl k9 : Nat) (mv1 mv2 mv3 mv4 mv5 mv6 mv7 mv8 mv9 mv10 mv11 mv12 mv13 mv14 mv15 mv16 mv17 mv18 mv19 mv20 mv21 mv22 mv23 mv24 mv25 mv26 mv27 mv28 mv29 mv30 : Value) (h_o : S o = some (2000, .inr (10, [.int (nI nl), mv1, mv2, mv3, mv4, mv5, mv6, mv7, mv8, mv9, mv10, mv11, mv12, mv13, mv14, mv15, mv16, mv17, mv18, mv19, mv20, mv21, mv22, mv23, mv24, mv25, mv26, mv27, mv28, mv29, mv30]))) (hk9 : k9 < nl) (hn9 : nl ≤ 3) : Met l y_M_isLetter w_M_isLetter ({ frames := 0, cells := 0, slots := 0, locals := 0 }) (va_Pc [.ref o, .int (nI k9)] (mp_B0 D classes (tys g) S sz)) (va_Qi (fun (r : Int32) (S1 : mp_M) => r = 1 ∧ S1 = S) (mp_B1 D classes S sz) (mp_A S sz)) 0 0 (mp_A S sz) := by
  refine Met.ofW (cc := b_M_isLetter) (maxL := 2) (ret := (some .boolean)) (by decide) rfl ?_
  intro p e s m args below meth c s₁ B hml hv
  obtain ⟨rfl, hsz, hH, hK⟩ := hv
  have hx := B.exec
  have hb := B.bytes
  have hr := B.returns
  have hts := atoms_spec (ws := w_M_isLetter) B.pre
  have hg : ∀ w ∈ gw, w.before _ s = true := fun w h => hts w (List.mem_cons_of_mem _ h)
  have hown : s.vm.findClass R_M = some m.cls := findClass_of_methodNamed B.named
  have hlocks := B.notSynchronized
  subst hsz
  have hI := mp_I.start hH
  have hl := lv_entry ([.ref o, .int (nI k9)]) (n := 2) (Nat.le_of_ble_eq_true rfl)
  rw [lg_entry_eq]
  generalize (lg_sl ([.ref o, .int (nI k9)]) ++ List.replicate (2 - (lg_sl ([.ref o, .int (nI k9)])).length) Slot.unset).toArray = ls at hl ⊢
  have hl : lv_has ls 2 [(0, .ref o), (1, .int (nI k9))] := hl
  refine lv_iload_n hx hb d_M_isLetter_0 rfl (lv_at hl 1 rfl) ?_
  refine lv_if_lt (tgt := 16) hx hb d_M_isLetter_1 (by decide) (fun h9 => absurd h9 (nI_pos (by omega))) (fun _ => ?_)
  refine lv_iload_n hx hb d_M_isLetter_4 rfl (lv_at hl 1 rfl) ?_
  refine lv_aload_n hx hb d_M_isLetter_5 rfl (lv_at hl 0 rfl) ?_
  refine mp_get (C := R_M) (T := F_M) (N := 31) (v := .int (nI nl)) hx hb hg i_M hown hK.va hI h_o rfl 0 (by decide) (hg _ q_804) (fun _ h9 => h9) rfl d_M_isLetter_6 ?_
  refine lv_icmp_ge (tgt := 16) hx hb d_M_isLetter_9 (by decide) (fun h9 => absurd h9 (by rw [nI_leI (by omega) (by omega)]; omega)) (fun _ => ?_)
  refine lv_iconst (v := nI 1) hx hb d_M_isLetter_12 (by decide) ?_
  refine lv_goto (tgt := 17) hx hb d_M_isLetter_13 (by decide) ?_
  refine mp_zret hx hb hr hlocks hI (Nat.le_of_ble_eq_true rfl) (Nat.le_of_ble_eq_true rfl) ?_ (by decide) d_M_isLetter_17
  exact ⟨rfl, rfl⟩
set_option maxHeartbeats 4000000 in
set_option maxRecDepth 100000 in
/-- a getter of the reference -/
theorem c_M_totalK (l : Launch) (D : mp_G) (g : Nat → ClassId) (S : mp_M) (sz : Nat) (o pa le dg lt9 ze oq nl s9 zc : Nat) (mv1 mv2 mv5 mv6 mv7 mv8 mv9 mv10 mv11 mv13 mv16 mv19 mv20 mv24 mv25 mv26 mv27 mv28 mv29 mv30 : Value) (PO : Nat → fF) (LF DG : Nat → Nat) (LE ZM : Nat → fF) (OF : Nat → Nat) (th : Int32) (h_o : S o = some (2000, .inr (10, [.int (nI nl), mv1, mv2, .int th, .ref pa, mv5, mv6, mv7, mv8, mv9, mv10, mv11, .int (nI 1), mv13, .int (nI s9), .ref le, mv16, .ref dg, .ref lt9, mv19, mv20, .int (nI zc), .ref ze, .ref oq, mv24, mv25, mv26, mv27, mv28, mv29, mv30]))) (h_pa : S pa = some (2001, .inl ((g 0), 40000, .inl (fun j => nI (PO j).val)))) (h_le : S le = some (2008, .inl ((g 0), 17, .inl (fun j => nI (LF j))))) (h_dg : S dg = some (2010, .inl ((g 0), 3, .inl (fun j => nI (DG j))))) (h_lt9 : S lt9 = some (2011, .inl ((g 0), 51, .inl (fun j => nI (LE j).val)))) (h_ze : S ze = some (2014, .inl ((g 0), 51, .inl (fun j => nI (ZM j).val)))) (h_oq : S oq = some (2015, .inl ((g 0), 17, .inl (fun j => nI (OF j))))) (hnl : nl ≤ 3) (hs : s9 ≤ 16) (hzc : zc ≤ 16) : Met l y_M_total w_M_total ({ frames := 0, cells := 0, slots := 0, locals := 0 }) (va_Pc [.ref o] (mp_B0 D classes (tys g) S sz)) (va_Qi (fun (r : Int32) (S1 : mp_M) => r = nI s9 ∧ S1 o = some (2000, .inr (10, [.int (nI nl), mv1, mv2, .int (nI 0), .ref pa, mv5, mv6, mv7, mv8, mv9, mv10, mv11, .int (nI 1), mv13, .int (nI s9), .ref le, mv16, .ref dg, .ref lt9, mv19, mv20, .int (nI zc), .ref ze, .ref oq, mv24, mv25, mv26, mv27, mv28, mv29, mv30])) ∧ (∀ b t e9, S b = some (t, e9) → (t ≠ 2000) → S1 b = some (t, e9))) (mp_B1 D classes S sz) (mp_A S sz)) 0 0 (mp_A S sz) := by
  refine Met.ofW (cc := b_M_total) (maxL := 1) (ret := (some .int)) (by decide) rfl ?_
  intro p e s m args below meth c s₁ B hml hv
  obtain ⟨rfl, hsz, hH, hK⟩ := hv
  have hx := B.exec
  have hb := B.bytes
  have hr := B.returns
  have hts := atoms_spec (ws := w_M_total) B.pre
  have hg : ∀ w ∈ gw, w.before _ s = true := fun w h => hts w (List.mem_cons_of_mem _ h)
  have hown : s.vm.findClass R_M = some m.cls := findClass_of_methodNamed B.named
  have hlocks := B.notSynchronized
  subst hsz
  have hI := mp_I.start hH
  have hl := lv_entry ([.ref o]) (n := 1) (Nat.le_of_ble_eq_true rfl)
  rw [lg_entry_eq]
  generalize (lg_sl ([.ref o]) ++ List.replicate (1 - (lg_sl ([.ref o])).length) Slot.unset).toArray = ls at hl ⊢
  have hl : lv_has ls 1 [(0, .ref o)] := hl
  have hfr : ∀ b t e9, S b = some (t, e9) → (t ≠ 2000) → S b = some (t, e9) := fun _ _ _ h9 _ => h9
  refine lv_aload_n hx hb d_M_total_0 rfl (lv_at hl 0 rfl) ?_
  refine lv_aload_n hx hb d_M_total_1 rfl (lv_at hl 0 rfl) ?_
  refine mp_get (C := R_M) (T := F_M) (N := 31) (v := .int (nI 1)) hx hb hg i_M hown hK.va hI h_o rfl 12 (by decide) (hg _ q_816) (fun _ h9 => h9) rfl d_M_total_2 ?_
  refine lv_if_eq (tgt := 12) hx hb d_M_total_5 (by decide) (fun h9 => absurd h9 (by decide)) (fun _ => ?_)
  refine lv_iconst (v := nI 0) hx hb d_M_total_8 (by decide) ?_
  refine lv_goto (tgt := 13) hx hb d_M_total_9 (by decide) ?_
  refine mp_put (C := R_M) (T := F_M) (N := 31) (v := .int (nI 0)) (ty := .int) hx hb hg i_M t_M t_M_ok n_M hown hK.va hI h_o rfl 3 (by decide) (hg _ q_807) (fun _ h9 => h9) rfl (by decide +kernel) (rfl) rfl (Nat.le_of_ble_eq_true rfl) d_M_total_13 (fun S1 H2 locs e_3 hI => ?_)
  have h_o_o := h_o
  have e_3 : S1 = va_up S o (some (2000, .inr (10, [.int (nI nl), mv1, mv2, .int (nI 0), .ref pa, mv5, mv6, mv7, mv8, mv9, mv10, mv11, .int (nI 1), mv13, .int (nI s9), .ref le, mv16, .ref dg, .ref lt9, mv19, mv20, .int (nI zc), .ref ze, .ref oq, mv24, mv25, mv26, mv27, mv28, mv29, mv30]))) := e_3
  have h_pa : S1 pa = some (2001, .inl ((g 0), 40000, .inl (fun j => nI (PO j).val))) := by rw [e_3]; exact mp_keep h_pa h_o (by decide)
  have h_le : S1 le = some (2008, .inl ((g 0), 17, .inl (fun j => nI (LF j)))) := by rw [e_3]; exact mp_keep h_le h_o (by decide)
  have h_dg : S1 dg = some (2010, .inl ((g 0), 3, .inl (fun j => nI (DG j)))) := by rw [e_3]; exact mp_keep h_dg h_o (by decide)
  have h_lt9 : S1 lt9 = some (2011, .inl ((g 0), 51, .inl (fun j => nI (LE j).val))) := by rw [e_3]; exact mp_keep h_lt9 h_o (by decide)
  have h_ze : S1 ze = some (2014, .inl ((g 0), 51, .inl (fun j => nI (ZM j).val))) := by rw [e_3]; exact mp_keep h_ze h_o (by decide)
  have h_oq : S1 oq = some (2015, .inl ((g 0), 17, .inl (fun j => nI (OF j)))) := by rw [e_3]; exact mp_keep h_oq h_o (by decide)
  have h_o : S1 o = some (2000, .inr (10, [.int (nI nl), mv1, mv2, .int (nI 0), .ref pa, mv5, mv6, mv7, mv8, mv9, mv10, mv11, .int (nI 1), mv13, .int (nI s9), .ref le, mv16, .ref dg, .ref lt9, mv19, mv20, .int (nI zc), .ref ze, .ref oq, mv24, mv25, mv26, mv27, mv28, mv29, mv30])) := by rw [e_3]; exact mp_us _ _ _
  have hfr : ∀ b t e9, S b = some (t, e9) → (t ≠ 2000) → S1 b = some (t, e9) := fun b t e9 h9 k0 => by rw [e_3]; exact mp_keep (hfr b t e9 h9 k0) h_o_o (by omega)
  refine lv_aload_n hx hb d_M_total_16 rfl (lv_at hl 0 rfl) ?_
  refine mp_get (C := R_M) (T := F_M) (N := 31) (v := .int (nI 1)) hx hb hg i_M hown hK.va hI h_o rfl 12 (by decide) (hg _ q_816) (fun _ h9 => h9) rfl d_M_total_17 ?_
  refine lv_if_eq (tgt := 30) hx hb d_M_total_20 (by decide) (fun h9 => absurd h9 (by decide)) (fun _ => ?_)
  refine lv_aload_n hx hb d_M_total_23 rfl (lv_at hl 0 rfl) ?_
  refine mp_get (C := R_M) (T := F_M) (N := 31) (v := .int (nI s9)) hx hb hg i_M hown hK.va hI h_o rfl 14 (by decide) (hg _ q_818) (fun _ h9 => h9) rfl d_M_total_24 ?_
  refine lv_goto (tgt := 31) hx hb d_M_total_27 (by decide) ?_
  refine mp_iret hx hb hr hlocks hI (Nat.le_of_ble_eq_true rfl) (Nat.le_of_ble_eq_true rfl) ?_ d_M_total_31
  exact ⟨rfl, h_o, hfr⟩
set_option maxHeartbeats 4000000 in
set_option maxRecDepth 100000 in
/-- a getter of the reference -/
theorem c_M_leftN (l : Launch) (D : mp_G) (g : Nat → ClassId) (S : mp_M) (sz : Nat) (o pa le dg lt9 ze oq nl s9 zc : Nat) (mv1 mv2 mv5 mv6 mv7 mv8 mv9 mv10 mv11 mv13 mv16 mv19 mv20 mv24 mv25 mv26 mv27 mv28 mv29 mv30 : Value) (PO : Nat → fF) (LF DG : Nat → Nat) (LE ZM : Nat → fF) (OF : Nat → Nat) (th : Int32) (x : Int32) (h_o : S o = some (2000, .inr (10, [.int (nI nl), mv1, mv2, .int th, .ref pa, mv5, mv6, mv7, mv8, mv9, mv10, mv11, .int (nI 1), mv13, .int (nI s9), .ref le, mv16, .ref dg, .ref lt9, mv19, mv20, .int (nI zc), .ref ze, .ref oq, mv24, mv25, mv26, mv27, mv28, mv29, mv30]))) (h_pa : S pa = some (2001, .inl ((g 0), 40000, .inl (fun j => nI (PO j).val)))) (h_le : S le = some (2008, .inl ((g 0), 17, .inl (fun j => nI (LF j))))) (h_dg : S dg = some (2010, .inl ((g 0), 3, .inl (fun j => nI (DG j))))) (h_lt9 : S lt9 = some (2011, .inl ((g 0), 51, .inl (fun j => nI (LE j).val)))) (h_ze : S ze = some (2014, .inl ((g 0), 51, .inl (fun j => nI (ZM j).val)))) (h_oq : S oq = some (2015, .inl ((g 0), 17, .inl (fun j => nI (OF j))))) (hnl : nl ≤ 3) (hs : s9 ≤ 16) (hzc : zc ≤ 16) (hx9 : x < 0 ∨ nI s9 ≤ x) : Met l y_M_left w_M_left ({ frames := 0, cells := 0, slots := 0, locals := 0 }) (va_Pc [.ref o, .int x] (mp_B0 D classes (tys g) S sz)) (va_Qi (fun (r : Int32) (S1 : mp_M) => r = -1 ∧ S1 o = some (2000, .inr (10, [.int (nI nl), mv1, mv2, .int (nI 0), .ref pa, mv5, mv6, mv7, mv8, mv9, mv10, mv11, .int (nI 1), mv13, .int (nI s9), .ref le, mv16, .ref dg, .ref lt9, mv19, mv20, .int (nI zc), .ref ze, .ref oq, mv24, mv25, mv26, mv27, mv28, mv29, mv30])) ∧ (∀ b t e9, S b = some (t, e9) → (t ≠ 2000) → S1 b = some (t, e9))) (mp_B1 D classes S sz) (mp_A S sz)) 0 0 (mp_A S sz) := by
  refine Met.ofW (cc := b_M_left) (maxL := 2) (ret := (some .int)) (by decide) rfl ?_
  intro p e s m args below meth c s₁ B hml hv
  obtain ⟨rfl, hsz, hH, hK⟩ := hv
  have hx := B.exec
  have hb := B.bytes
  have hr := B.returns
  have hts := atoms_spec (ws := w_M_left) B.pre
  have hg : ∀ w ∈ gw, w.before _ s = true := fun w h => hts w (List.mem_cons_of_mem _ h)
  have hown : s.vm.findClass R_M = some m.cls := findClass_of_methodNamed B.named
  have hlocks := B.notSynchronized
  subst hsz
  have hI := mp_I.start hH
  have hl := lv_entry ([.ref o, .int x]) (n := 2) (Nat.le_of_ble_eq_true rfl)
  rw [lg_entry_eq]
  generalize (lg_sl ([.ref o, .int x]) ++ List.replicate (2 - (lg_sl ([.ref o, .int x])).length) Slot.unset).toArray = ls at hl ⊢
  have hl : lv_has ls 2 [(0, .ref o), (1, .int x)] := hl
  have hfr : ∀ b t e9, S b = some (t, e9) → (t ≠ 2000) → S b = some (t, e9) := fun _ _ _ h9 _ => h9
  refine lv_aload_n hx hb d_M_left_0 rfl (lv_at hl 0 rfl) ?_
  refine lv_aload_n hx hb d_M_left_1 rfl (lv_at hl 0 rfl) ?_
  refine mp_get (C := R_M) (T := F_M) (N := 31) (v := .int (nI 1)) hx hb hg i_M hown hK.va hI h_o rfl 12 (by decide) (hg _ q_816) (fun _ h9 => h9) rfl d_M_left_2 ?_
  refine lv_if_eq (tgt := 12) hx hb d_M_left_5 (by decide) (fun h9 => absurd h9 (by decide)) (fun _ => ?_)
  refine lv_iconst (v := nI 0) hx hb d_M_left_8 (by decide) ?_
  refine lv_goto (tgt := 13) hx hb d_M_left_9 (by decide) ?_
  refine mp_put (C := R_M) (T := F_M) (N := 31) (v := .int (nI 0)) (ty := .int) hx hb hg i_M t_M t_M_ok n_M hown hK.va hI h_o rfl 3 (by decide) (hg _ q_807) (fun _ h9 => h9) rfl (by decide +kernel) (rfl) rfl (Nat.le_of_ble_eq_true rfl) d_M_left_13 (fun S1 H2 locs e_3 hI => ?_)
  have h_o_o := h_o
  have e_3 : S1 = va_up S o (some (2000, .inr (10, [.int (nI nl), mv1, mv2, .int (nI 0), .ref pa, mv5, mv6, mv7, mv8, mv9, mv10, mv11, .int (nI 1), mv13, .int (nI s9), .ref le, mv16, .ref dg, .ref lt9, mv19, mv20, .int (nI zc), .ref ze, .ref oq, mv24, mv25, mv26, mv27, mv28, mv29, mv30]))) := e_3
  have h_pa : S1 pa = some (2001, .inl ((g 0), 40000, .inl (fun j => nI (PO j).val))) := by rw [e_3]; exact mp_keep h_pa h_o (by decide)
  have h_le : S1 le = some (2008, .inl ((g 0), 17, .inl (fun j => nI (LF j)))) := by rw [e_3]; exact mp_keep h_le h_o (by decide)
  have h_dg : S1 dg = some (2010, .inl ((g 0), 3, .inl (fun j => nI (DG j)))) := by rw [e_3]; exact mp_keep h_dg h_o (by decide)
  have h_lt9 : S1 lt9 = some (2011, .inl ((g 0), 51, .inl (fun j => nI (LE j).val))) := by rw [e_3]; exact mp_keep h_lt9 h_o (by decide)
  have h_ze : S1 ze = some (2014, .inl ((g 0), 51, .inl (fun j => nI (ZM j).val))) := by rw [e_3]; exact mp_keep h_ze h_o (by decide)
  have h_oq : S1 oq = some (2015, .inl ((g 0), 17, .inl (fun j => nI (OF j)))) := by rw [e_3]; exact mp_keep h_oq h_o (by decide)
  have h_o : S1 o = some (2000, .inr (10, [.int (nI nl), mv1, mv2, .int (nI 0), .ref pa, mv5, mv6, mv7, mv8, mv9, mv10, mv11, .int (nI 1), mv13, .int (nI s9), .ref le, mv16, .ref dg, .ref lt9, mv19, mv20, .int (nI zc), .ref ze, .ref oq, mv24, mv25, mv26, mv27, mv28, mv29, mv30])) := by rw [e_3]; exact mp_us _ _ _
  have hfr : ∀ b t e9, S b = some (t, e9) → (t ≠ 2000) → S1 b = some (t, e9) := fun b t e9 h9 k0 => by rw [e_3]; exact mp_keep (hfr b t e9 h9 k0) h_o_o (by omega)
  refine lv_aload_n hx hb d_M_left_16 rfl (lv_at hl 0 rfl) ?_
  refine mp_get (C := R_M) (T := F_M) (N := 31) (v := .int (nI 1)) hx hb hg i_M hown hK.va hI h_o rfl 12 (by decide) (hg _ q_816) (fun _ h9 => h9) rfl d_M_left_17 ?_
  refine lv_if_ne (tgt := 25) hx hb d_M_left_20 (by decide) (fun _ => ?_) (fun h9 => absurd h9 (by decide))
  refine lv_iload_n hx hb d_M_left_25 rfl (lv_at hl 1 rfl) ?_
  refine lv_if_lt (tgt := 37) hx hb d_M_left_26 (by decide) (fun c1 => ?_) (fun c1 => ?_)
  · refine lv_iconst (v := (-1)) hx hb d_M_left_37 (by decide) ?_
    refine lv_goto (tgt := 50) hx hb d_M_left_38 (by decide) ?_
    refine mp_iret hx hb hr hlocks hI (Nat.le_of_ble_eq_true rfl) (Nat.le_of_ble_eq_true rfl) ?_ d_M_left_50
    exact ⟨rfl, h_o, hfr⟩
  · refine lv_iload_n hx hb d_M_left_29 rfl (lv_at hl 1 rfl) ?_
    refine lv_aload_n hx hb d_M_left_30 rfl (lv_at hl 0 rfl) ?_
    refine mp_get (C := R_M) (T := F_M) (N := 31) (v := .int (nI s9)) hx hb hg i_M hown hK.va hI h_o rfl 14 (by decide) (hg _ q_818) (fun _ h9 => h9) rfl d_M_left_31 ?_
    refine lv_icmp_lt (tgt := 41) hx hb d_M_left_34 (by decide) (fun h9 => absurd h9 (fun h9 => absurd h9 (Int32.not_lt.mpr (hx9.resolve_left c1)))) (fun _ => ?_)
    refine lv_iconst (v := (-1)) hx hb d_M_left_37 (by decide) ?_
    refine lv_goto (tgt := 50) hx hb d_M_left_38 (by decide) ?_
    refine mp_iret hx hb hr hlocks hI (Nat.le_of_ble_eq_true rfl) (Nat.le_of_ble_eq_true rfl) ?_ d_M_left_50
    exact ⟨rfl, h_o, hfr⟩
set_option maxHeartbeats 4000000 in
set_option maxRecDepth 100000 in
/-- a getter of the reference -/
theorem c_M_leftK (l : Launch) (D : mp_G) (g : Nat → ClassId) (S : mp_M) (sz : Nat) (o pa le dg lt9 ze oq nl s9 zc : Nat) (mv1 mv2 mv5 mv6 mv7 mv8 mv9 mv10 mv11 mv13 mv16 mv19 mv20 mv24 mv25 mv26 mv27 mv28 mv29 mv30 : Value) (PO : Nat → fF) (LF DG : Nat → Nat) (LE ZM : Nat → fF) (OF : Nat → Nat) (th : Int32) (k9 : Nat) (h_o : S o = some (2000, .inr (10, [.int (nI nl), mv1, mv2, .int th, .ref pa, mv5, mv6, mv7, mv8, mv9, mv10, mv11, .int (nI 1), mv13, .int (nI s9), .ref le, mv16, .ref dg, .ref lt9, mv19, mv20, .int (nI zc), .ref ze, .ref oq, mv24, mv25, mv26, mv27, mv28, mv29, mv30]))) (h_pa : S pa = some (2001, .inl ((g 0), 40000, .inl (fun j => nI (PO j).val)))) (h_le : S le = some (2008, .inl ((g 0), 17, .inl (fun j => nI (LF j))))) (h_dg : S dg = some (2010, .inl ((g 0), 3, .inl (fun j => nI (DG j))))) (h_lt9 : S lt9 = some (2011, .inl ((g 0), 51, .inl (fun j => nI (LE j).val)))) (h_ze : S ze = some (2014, .inl ((g 0), 51, .inl (fun j => nI (ZM j).val)))) (h_oq : S oq = some (2015, .inl ((g 0), 17, .inl (fun j => nI (OF j))))) (hnl : nl ≤ 3) (hs : s9 ≤ 16) (hzc : zc ≤ 16) (hk9 : k9 < s9) (hLb : LF k9 < 1000) : Met l y_M_left w_M_left ({ frames := 1, cells := 0, slots := 0, locals := 20 }) (va_Pc [.ref o, .int (nI k9)] (mp_B0 D classes (tys g) S sz)) (va_Qi (fun (r : Int32) (S1 : mp_M) => r = nI (LF k9 % 10 + 16 * (LF k9 / 10 % 10) + 256 * (LF k9 / 100)) ∧ S1 o = some (2000, .inr (10, [.int (nI nl), mv1, mv2, .int (nI 0), .ref pa, mv5, mv6, mv7, mv8, mv9, mv10, mv11, .int (nI 1), mv13, .int (nI s9), .ref le, mv16, .ref dg, .ref lt9, mv19, mv20, .int (nI zc), .ref ze, .ref oq, mv24, mv25, mv26, mv27, mv28, mv29, mv30])) ∧ (∀ b t e9, S b = some (t, e9) → (t ≠ 2000) → S1 b = some (t, e9))) (mp_B1 D classes S sz) (mp_A S sz)) 0 0 (mp_A S sz) := by
  refine Met.ofW (cc := b_M_left) (maxL := 2) (ret := (some .int)) (by decide) rfl ?_
  intro p e s m args below meth c s₁ B hml hv
  obtain ⟨rfl, hsz, hH, hK⟩ := hv
  have hx := B.exec
  have hb := B.bytes
  have hr := B.returns
  have hts := atoms_spec (ws := w_M_left) B.pre
  have hg : ∀ w ∈ gw, w.before _ s = true := fun w h => hts w (List.mem_cons_of_mem _ h)
  have hown : s.vm.findClass R_M = some m.cls := findClass_of_methodNamed B.named
  have hlocks := B.notSynchronized
  subst hsz
  have hI := mp_I.start hH
  have hl := lv_entry ([.ref o, .int (nI k9)]) (n := 2) (Nat.le_of_ble_eq_true rfl)
  rw [lg_entry_eq]
  generalize (lg_sl ([.ref o, .int (nI k9)]) ++ List.replicate (2 - (lg_sl ([.ref o, .int (nI k9)])).length) Slot.unset).toArray = ls at hl ⊢
  have hl : lv_has ls 2 [(0, .ref o), (1, .int (nI k9))] := hl
  have hfr : ∀ b t e9, S b = some (t, e9) → (t ≠ 2000) → S b = some (t, e9) := fun _ _ _ h9 _ => h9
  refine lv_aload_n hx hb d_M_left_0 rfl (lv_at hl 0 rfl) ?_
  refine lv_aload_n hx hb d_M_left_1 rfl (lv_at hl 0 rfl) ?_
  refine mp_get (C := R_M) (T := F_M) (N := 31) (v := .int (nI 1)) hx hb hg i_M hown hK.va hI h_o rfl 12 (by decide) (hg _ q_816) (fun _ h9 => h9) rfl d_M_left_2 ?_
  refine lv_if_eq (tgt := 12) hx hb d_M_left_5 (by decide) (fun h9 => absurd h9 (by decide)) (fun _ => ?_)
  refine lv_iconst (v := nI 0) hx hb d_M_left_8 (by decide) ?_
  refine lv_goto (tgt := 13) hx hb d_M_left_9 (by decide) ?_
  refine mp_put (C := R_M) (T := F_M) (N := 31) (v := .int (nI 0)) (ty := .int) hx hb hg i_M t_M t_M_ok n_M hown hK.va hI h_o rfl 3 (by decide) (hg _ q_807) (fun _ h9 => h9) rfl (by decide +kernel) (rfl) rfl (Nat.le_of_ble_eq_true rfl) d_M_left_13 (fun S1 H2 locs e_3 hI => ?_)
  have h_o_o := h_o
  have e_3 : S1 = va_up S o (some (2000, .inr (10, [.int (nI nl), mv1, mv2, .int (nI 0), .ref pa, mv5, mv6, mv7, mv8, mv9, mv10, mv11, .int (nI 1), mv13, .int (nI s9), .ref le, mv16, .ref dg, .ref lt9, mv19, mv20, .int (nI zc), .ref ze, .ref oq, mv24, mv25, mv26, mv27, mv28, mv29, mv30]))) := e_3
  have h_pa : S1 pa = some (2001, .inl ((g 0), 40000, .inl (fun j => nI (PO j).val))) := by rw [e_3]; exact mp_keep h_pa h_o (by decide)
  have h_le : S1 le = some (2008, .inl ((g 0), 17, .inl (fun j => nI (LF j)))) := by rw [e_3]; exact mp_keep h_le h_o (by decide)
  have h_dg : S1 dg = some (2010, .inl ((g 0), 3, .inl (fun j => nI (DG j)))) := by rw [e_3]; exact mp_keep h_dg h_o (by decide)
  have h_lt9 : S1 lt9 = some (2011, .inl ((g 0), 51, .inl (fun j => nI (LE j).val))) := by rw [e_3]; exact mp_keep h_lt9 h_o (by decide)
  have h_ze : S1 ze = some (2014, .inl ((g 0), 51, .inl (fun j => nI (ZM j).val))) := by rw [e_3]; exact mp_keep h_ze h_o (by decide)
  have h_oq : S1 oq = some (2015, .inl ((g 0), 17, .inl (fun j => nI (OF j)))) := by rw [e_3]; exact mp_keep h_oq h_o (by decide)
  have h_o : S1 o = some (2000, .inr (10, [.int (nI nl), mv1, mv2, .int (nI 0), .ref pa, mv5, mv6, mv7, mv8, mv9, mv10, mv11, .int (nI 1), mv13, .int (nI s9), .ref le, mv16, .ref dg, .ref lt9, mv19, mv20, .int (nI zc), .ref ze, .ref oq, mv24, mv25, mv26, mv27, mv28, mv29, mv30])) := by rw [e_3]; exact mp_us _ _ _
  have hfr : ∀ b t e9, S b = some (t, e9) → (t ≠ 2000) → S1 b = some (t, e9) := fun b t e9 h9 k0 => by rw [e_3]; exact mp_keep (hfr b t e9 h9 k0) h_o_o (by omega)
  refine lv_aload_n hx hb d_M_left_16 rfl (lv_at hl 0 rfl) ?_
  refine mp_get (C := R_M) (T := F_M) (N := 31) (v := .int (nI 1)) hx hb hg i_M hown hK.va hI h_o rfl 12 (by decide) (hg _ q_816) (fun _ h9 => h9) rfl d_M_left_17 ?_
  refine lv_if_ne (tgt := 25) hx hb d_M_left_20 (by decide) (fun _ => ?_) (fun h9 => absurd h9 (by decide))
  refine lv_iload_n hx hb d_M_left_25 rfl (lv_at hl 1 rfl) ?_
  refine lv_if_lt (tgt := 37) hx hb d_M_left_26 (by decide) (fun h9 => absurd h9 (nI_pos (by omega))) (fun _ => ?_)
  refine lv_iload_n hx hb d_M_left_29 rfl (lv_at hl 1 rfl) ?_
  refine lv_aload_n hx hb d_M_left_30 rfl (lv_at hl 0 rfl) ?_
  refine mp_get (C := R_M) (T := F_M) (N := 31) (v := .int (nI s9)) hx hb hg i_M hown hK.va hI h_o rfl 14 (by decide) (hg _ q_818) (fun _ h9 => h9) rfl d_M_left_31 ?_
  refine lv_icmp_lt (tgt := 41) hx hb d_M_left_34 (by decide) (fun _ => ?_) (fun h9 => absurd (by rw [nI_ltI (by omega) (by omega)]; omega) h9)
  refine lv_aload_n hx hb d_M_left_41 rfl (lv_at hl 0 rfl) ?_
  refine mp_get (C := R_M) (T := F_M) (N := 31) (v := .ref le) hx hb hg i_M hown hK.va hI h_o rfl 15 (by decide) (hg _ q_819) (fun _ h9 => h9) rfl d_M_left_42 ?_
  refine lv_iload_n hx hb d_M_left_45 rfl (lv_at hl 1 rfl) ?_
  refine mp_iald hx hb hK.va hI 0 h_le rfl (vp_in_nI (show k9 < 17 by omega) (by omega)) d_M_left_46 ?_
  refine lv_topi (fun v4 ev4 => ?_)
  obtain rfl : v4 = nI (LF k9) := ev4.trans (by rw [nI_clamp (by omega)])
  refine mp_calli hI (va_runS (As := [.int (nI (LF k9))]) (rest := []) ⟨hx, hb, hml, hown, hg⟩ (c_M_powerAt l D g S1 _ (LF k9) hLb) ⟨(callB_of 1 hg (wd_goodG q_1074) rfl rfl rfl (hg _ q_5) (hg _ q_1072) (by decide +kernel) ⟨Nat.le_of_ble_eq_true rfl, Nat.le_of_ble_eq_true rfl⟩), hg _ q_1073⟩ (mp_pre hI hK [.int (nI (LF k9))]) rfl rfl hl.1 rfl (lv_room (Nat.le_of_ble_eq_true rfl)) d_M_left_47 ⟨Nat.le_of_ble_eq_true rfl, Nat.le_of_ble_eq_true rfl⟩) (fun r8 S5 H6 locs p_7 hI => ?_)
  obtain ⟨er8, eS9⟩ := p_7
  rw [eS9] at hI
  have er8 : r8 = nI (LF k9 % 10 + 16 * (LF k9 / 10 % 10) + 256 * (LF k9 / 100)) := er8
  subst er8
  refine mp_iret hx hb hr hlocks hI (Nat.le_of_ble_eq_true rfl) (Nat.le_of_ble_eq_true rfl) ?_ d_M_left_50
  exact ⟨rfl, h_o, hfr⟩
set_option maxHeartbeats 4000000 in
set_option maxRecDepth 100000 in
/-- a getter of the reference -/
theorem c_M_atZ (l : Launch) (D : mp_G) (g : Nat → ClassId) (S : mp_M) (sz : Nat) (o pa le dg lt9 ze oq nl s9 zc : Nat) (mv1 mv2 mv5 mv6 mv7 mv8 mv9 mv10 mv11 mv13 mv16 mv19 mv20 mv24 mv25 mv26 mv27 mv28 mv29 mv30 : Value) (PO : Nat → fF) (LF DG : Nat → Nat) (LE ZM : Nat → fF) (OF : Nat → Nat) (th : Int32) (x y9 : Int32) (h_o : S o = some (2000, .inr (10, [.int (nI nl), mv1, mv2, .int th, .ref pa, mv5, mv6, mv7, mv8, mv9, mv10, mv11, .int (nI 1), mv13, .int (nI s9), .ref le, mv16, .ref dg, .ref lt9, mv19, mv20, .int (nI zc), .ref ze, .ref oq, mv24, mv25, mv26, mv27, mv28, mv29, mv30]))) (h_pa : S pa = some (2001, .inl ((g 0), 40000, .inl (fun j => nI (PO j).val)))) (h_le : S le = some (2008, .inl ((g 0), 17, .inl (fun j => nI (LF j))))) (h_dg : S dg = some (2010, .inl ((g 0), 3, .inl (fun j => nI (DG j))))) (h_lt9 : S lt9 = some (2011, .inl ((g 0), 51, .inl (fun j => nI (LE j).val)))) (h_ze : S ze = some (2014, .inl ((g 0), 51, .inl (fun j => nI (ZM j).val)))) (h_oq : S oq = some (2015, .inl ((g 0), 17, .inl (fun j => nI (OF j))))) (hnl : nl ≤ 3) (hs : s9 ≤ 16) (hzc : zc ≤ 16) (hx9 : x < 0 ∨ nI zc ≤ x) : Met l y_M_at w_M_at ({ frames := 1, cells := 0, slots := 0, locals := 21 }) (va_Pc [.ref o, .int x, .int y9] (mp_B0 D classes (tys g) S sz)) (va_Qi (fun (r : Int32) (S1 : mp_M) => r = 0 ∧ S1 o = some (2000, .inr (10, [.int (nI nl), mv1, mv2, .int (nI 2), .ref pa, mv5, mv6, mv7, mv8, mv9, mv10, mv11, .int (nI 1), mv13, .int (nI s9), .ref le, mv16, .ref dg, .ref lt9, mv19, mv20, .int (nI zc), .ref ze, .ref oq, mv24, mv25, mv26, mv27, mv28, mv29, mv30])) ∧ (∀ b t e9, S b = some (t, e9) → (t ≠ 2000) → S1 b = some (t, e9))) (mp_B1 D classes S sz) (mp_A S sz)) 0 0 (mp_A S sz) := by
  refine Met.ofW (cc := b_M_at) (maxL := 3) (ret := (some .int)) (by decide) rfl ?_
  intro p e s m args below meth c s₁ B hml hv
  obtain ⟨rfl, hsz, hH, hK⟩ := hv
  have hx := B.exec
  have hb := B.bytes
  have hr := B.returns
  have hts := atoms_spec (ws := w_M_at) B.pre
  have hg : ∀ w ∈ gw, w.before _ s = true := fun w h => hts w (List.mem_cons_of_mem _ h)
  have hown : s.vm.findClass R_M = some m.cls := findClass_of_methodNamed B.named
  have hlocks := B.notSynchronized
  subst hsz
  have hI := mp_I.start hH
  have hl := lv_entry ([.ref o, .int x, .int y9]) (n := 3) (Nat.le_of_ble_eq_true rfl)
  rw [lg_entry_eq]
  generalize (lg_sl ([.ref o, .int x, .int y9]) ++ List.replicate (3 - (lg_sl ([.ref o, .int x, .int y9])).length) Slot.unset).toArray = ls at hl ⊢
  have hl : lv_has ls 3 [(0, .ref o), (1, .int x), (2, .int y9)] := hl
  have hfr : ∀ b t e9, S b = some (t, e9) → (t ≠ 2000) → S b = some (t, e9) := fun _ _ _ h9 _ => h9
  refine lv_aload_n hx hb d_M_at_0 rfl (lv_at hl 0 rfl) ?_
  refine lv_aload_n hx hb d_M_at_1 rfl (lv_at hl 0 rfl) ?_
  refine mp_get (C := R_M) (T := F_M) (N := 31) (v := .int (nI 1)) hx hb hg i_M hown hK.va hI h_o rfl 12 (by decide) (hg _ q_816) (fun _ h9 => h9) rfl d_M_at_2 ?_
  refine lv_if_ne (tgt := 12) hx hb d_M_at_5 (by decide) (fun _ => ?_) (fun h9 => absurd h9 (by decide))
  refine lv_aload_n hx hb d_M_at_12 rfl (lv_at hl 0 rfl) ?_
  refine lv_iload_n hx hb d_M_at_13 rfl (lv_at hl 1 rfl) ?_
  refine mp_calli hI (va_runV (As := [.int x]) (rest := [.ref o]) ⟨hx, hb, hml, hown, hg⟩ (c_M_isZeroN l D g S _ o zc (.int (nI nl)) mv1 mv2 (.int th) (.ref pa) mv5 mv6 mv7 mv8 mv9 mv10 mv11 (.int (nI 1)) mv13 (.int (nI s9)) (.ref le) mv16 (.ref dg) (.ref lt9) mv19 mv20 (.ref ze) (.ref oq) mv24 mv25 mv26 mv27 mv28 mv29 mv30 x h_o hx9) ⟨(callB_of 1 hg (wd_goodG q_1082) rfl rfl rfl (hg _ q_5) (hg _ q_1079) (by decide +kernel) ⟨Nat.le_of_ble_eq_true rfl, Nat.le_of_ble_eq_true rfl⟩), hg _ q_1081, hg _ qs_48⟩ (mp_preV (C := R_M) (T := F_M) hI hK h_o rfl [.int x]) rfl rfl hl.1 rfl (lv_room (Nat.le_of_ble_eq_true rfl)) d_M_at_14 ⟨Nat.le_of_ble_eq_true rfl, Nat.le_of_ble_eq_true rfl⟩) (fun r4 S1 H2 locs p_3 hI => ?_)
  obtain ⟨er4, eS5⟩ := p_3
  rw [eS5] at hI
  have er4 : r4 = 0 := er4
  subst er4
  refine lv_if_ne (tgt := 24) hx hb d_M_at_17 (by decide) (fun h9 => absurd h9 (by decide)) (fun _ => ?_)
  refine lv_iconst (v := nI 2) hx hb d_M_at_20 (by decide) ?_
  refine lv_goto (tgt := 37) hx hb d_M_at_21 (by decide) ?_
  refine mp_put (C := R_M) (T := F_M) (N := 31) (v := .int (nI 2)) (ty := .int) hx hb hg i_M t_M t_M_ok n_M hown hK.va hI h_o rfl 3 (by decide) (hg _ q_807) (fun _ h9 => h9) rfl (by decide +kernel) (rfl) rfl (Nat.le_of_ble_eq_true rfl) d_M_at_37 (fun S6 H7 locs e_8 hI => ?_)
  have h_o_o := h_o
  have e_8 : S6 = va_up S o (some (2000, .inr (10, [.int (nI nl), mv1, mv2, .int (nI 2), .ref pa, mv5, mv6, mv7, mv8, mv9, mv10, mv11, .int (nI 1), mv13, .int (nI s9), .ref le, mv16, .ref dg, .ref lt9, mv19, mv20, .int (nI zc), .ref ze, .ref oq, mv24, mv25, mv26, mv27, mv28, mv29, mv30]))) := e_8
  have h_pa : S6 pa = some (2001, .inl ((g 0), 40000, .inl (fun j => nI (PO j).val))) := by rw [e_8]; exact mp_keep h_pa h_o (by decide)
  have h_le : S6 le = some (2008, .inl ((g 0), 17, .inl (fun j => nI (LF j)))) := by rw [e_8]; exact mp_keep h_le h_o (by decide)
  have h_dg : S6 dg = some (2010, .inl ((g 0), 3, .inl (fun j => nI (DG j)))) := by rw [e_8]; exact mp_keep h_dg h_o (by decide)
  have h_lt9 : S6 lt9 = some (2011, .inl ((g 0), 51, .inl (fun j => nI (LE j).val))) := by rw [e_8]; exact mp_keep h_lt9 h_o (by decide)
  have h_ze : S6 ze = some (2014, .inl ((g 0), 51, .inl (fun j => nI (ZM j).val))) := by rw [e_8]; exact mp_keep h_ze h_o (by decide)
  have h_oq : S6 oq = some (2015, .inl ((g 0), 17, .inl (fun j => nI (OF j)))) := by rw [e_8]; exact mp_keep h_oq h_o (by decide)
  have h_o : S6 o = some (2000, .inr (10, [.int (nI nl), mv1, mv2, .int (nI 2), .ref pa, mv5, mv6, mv7, mv8, mv9, mv10, mv11, .int (nI 1), mv13, .int (nI s9), .ref le, mv16, .ref dg, .ref lt9, mv19, mv20, .int (nI zc), .ref ze, .ref oq, mv24, mv25, mv26, mv27, mv28, mv29, mv30])) := by rw [e_8]; exact mp_us _ _ _
  have hfr : ∀ b t e9, S b = some (t, e9) → (t ≠ 2000) → S6 b = some (t, e9) := fun b t e9 h9 k0 => by rw [e_8]; exact mp_keep (hfr b t e9 h9 k0) h_o_o (by omega)
  refine lv_aload_n hx hb d_M_at_40 rfl (lv_at hl 0 rfl) ?_
  refine mp_get (C := R_M) (T := F_M) (N := 31) (v := .int (nI 2)) hx hb hg i_M hown hK.va hI h_o rfl 3 (by decide) (hg _ q_807) (fun _ h9 => h9) rfl d_M_at_41 ?_
  refine lv_if_eq (tgt := 51) hx hb d_M_at_44 (by decide) (fun h9 => absurd h9 (by decide)) (fun _ => ?_)
  refine lv_iconst (v := nI 0) hx hb d_M_at_47 (by decide) ?_
  refine lv_goto (tgt := 61) hx hb d_M_at_48 (by decide) ?_
  refine mp_iret hx hb hr hlocks hI (Nat.le_of_ble_eq_true rfl) (Nat.le_of_ble_eq_true rfl) ?_ d_M_at_61
  exact ⟨rfl, h_o, hfr⟩
set_option maxHeartbeats 4000000 in
set_option maxRecDepth 100000 in
/-- a getter of the reference -/
theorem c_M_atL (l : Launch) (D : mp_G) (g : Nat → ClassId) (S : mp_M) (sz : Nat) (o pa le dg lt9 ze oq nl s9 zc : Nat) (mv1 mv2 mv5 mv6 mv7 mv8 mv9 mv10 mv11 mv13 mv16 mv19 mv20 mv24 mv25 mv26 mv27 mv28 mv29 mv30 : Value) (PO : Nat → fF) (LF DG : Nat → Nat) (LE ZM : Nat → fF) (OF : Nat → Nat) (th : Int32) (z9 : Nat) (x : Int32) (h_o : S o = some (2000, .inr (10, [.int (nI nl), mv1, mv2, .int th, .ref pa, mv5, mv6, mv7, mv8, mv9, mv10, mv11, .int (nI 1), mv13, .int (nI s9), .ref le, mv16, .ref dg, .ref lt9, mv19, mv20, .int (nI zc), .ref ze, .ref oq, mv24, mv25, mv26, mv27, mv28, mv29, mv30]))) (h_pa : S pa = some (2001, .inl ((g 0), 40000, .inl (fun j => nI (PO j).val)))) (h_le : S le = some (2008, .inl ((g 0), 17, .inl (fun j => nI (LF j))))) (h_dg : S dg = some (2010, .inl ((g 0), 3, .inl (fun j => nI (DG j))))) (h_lt9 : S lt9 = some (2011, .inl ((g 0), 51, .inl (fun j => nI (LE j).val)))) (h_ze : S ze = some (2014, .inl ((g 0), 51, .inl (fun j => nI (ZM j).val)))) (h_oq : S oq = some (2015, .inl ((g 0), 17, .inl (fun j => nI (OF j))))) (hnl : nl ≤ 3) (hs : s9 ≤ 16) (hzc : zc ≤ 16) (hz9 : z9 < zc) (hx9 : x < 0 ∨ nI nl ≤ x) : Met l y_M_at w_M_at ({ frames := 1, cells := 0, slots := 0, locals := 21 }) (va_Pc [.ref o, .int (nI z9), .int x] (mp_B0 D classes (tys g) S sz)) (va_Qi (fun (r : Int32) (S1 : mp_M) => r = 0 ∧ S1 o = some (2000, .inr (10, [.int (nI nl), mv1, mv2, .int (nI 3), .ref pa, mv5, mv6, mv7, mv8, mv9, mv10, mv11, .int (nI 1), mv13, .int (nI s9), .ref le, mv16, .ref dg, .ref lt9, mv19, mv20, .int (nI zc), .ref ze, .ref oq, mv24, mv25, mv26, mv27, mv28, mv29, mv30])) ∧ (∀ b t e9, S b = some (t, e9) → (t ≠ 2000) → S1 b = some (t, e9))) (mp_B1 D classes S sz) (mp_A S sz)) 0 0 (mp_A S sz) := by
  refine Met.ofW (cc := b_M_at) (maxL := 3) (ret := (some .int)) (by decide) rfl ?_
  intro p e s m args below meth c s₁ B hml hv
  obtain ⟨rfl, hsz, hH, hK⟩ := hv
  have hx := B.exec
  have hb := B.bytes
  have hr := B.returns
  have hts := atoms_spec (ws := w_M_at) B.pre
  have hg : ∀ w ∈ gw, w.before _ s = true := fun w h => hts w (List.mem_cons_of_mem _ h)
  have hown : s.vm.findClass R_M = some m.cls := findClass_of_methodNamed B.named
  have hlocks := B.notSynchronized
  subst hsz
  have hI := mp_I.start hH
  have hl := lv_entry ([.ref o, .int (nI z9), .int x]) (n := 3) (Nat.le_of_ble_eq_true rfl)
  rw [lg_entry_eq]
  generalize (lg_sl ([.ref o, .int (nI z9), .int x]) ++ List.replicate (3 - (lg_sl ([.ref o, .int (nI z9), .int x])).length) Slot.unset).toArray = ls at hl ⊢
  have hl : lv_has ls 3 [(0, .ref o), (1, .int (nI z9)), (2, .int x)] := hl
  have hfr : ∀ b t e9, S b = some (t, e9) → (t ≠ 2000) → S b = some (t, e9) := fun _ _ _ h9 _ => h9
  refine lv_aload_n hx hb d_M_at_0 rfl (lv_at hl 0 rfl) ?_
  refine lv_aload_n hx hb d_M_at_1 rfl (lv_at hl 0 rfl) ?_
  refine mp_get (C := R_M) (T := F_M) (N := 31) (v := .int (nI 1)) hx hb hg i_M hown hK.va hI h_o rfl 12 (by decide) (hg _ q_816) (fun _ h9 => h9) rfl d_M_at_2 ?_
  refine lv_if_ne (tgt := 12) hx hb d_M_at_5 (by decide) (fun _ => ?_) (fun h9 => absurd h9 (by decide))
  refine lv_aload_n hx hb d_M_at_12 rfl (lv_at hl 0 rfl) ?_
  refine lv_iload_n hx hb d_M_at_13 rfl (lv_at hl 1 rfl) ?_
  refine mp_calli hI (va_runV (As := [.int (nI z9)]) (rest := [.ref o]) ⟨hx, hb, hml, hown, hg⟩ (c_M_isZero l D g S _ o zc z9 (.int (nI nl)) mv1 mv2 (.int th) (.ref pa) mv5 mv6 mv7 mv8 mv9 mv10 mv11 (.int (nI 1)) mv13 (.int (nI s9)) (.ref le) mv16 (.ref dg) (.ref lt9) mv19 mv20 (.ref ze) (.ref oq) mv24 mv25 mv26 mv27 mv28 mv29 mv30 h_o hz9 hzc) ⟨(callB_of 1 hg (wd_goodG q_1082) rfl rfl rfl (hg _ q_5) (hg _ q_1079) (by decide +kernel) ⟨Nat.le_of_ble_eq_true rfl, Nat.le_of_ble_eq_true rfl⟩), hg _ q_1081, hg _ qs_48⟩ (mp_preV (C := R_M) (T := F_M) hI hK h_o rfl [.int (nI z9)]) rfl rfl hl.1 rfl (lv_room (Nat.le_of_ble_eq_true rfl)) d_M_at_14 ⟨Nat.le_of_ble_eq_true rfl, Nat.le_of_ble_eq_true rfl⟩) (fun r4 S1 H2 locs p_3 hI => ?_)
  obtain ⟨er4, eS5⟩ := p_3
  rw [eS5] at hI
  have er4 : r4 = 1 := er4
  subst er4
  refine lv_if_ne (tgt := 24) hx hb d_M_at_17 (by decide) (fun _ => ?_) (fun h9 => absurd h9 (by decide))
  refine lv_aload_n hx hb d_M_at_24 rfl (lv_at hl 0 rfl) ?_
  refine lv_iload_n hx hb d_M_at_25 rfl (lv_at hl 2 rfl) ?_
  refine mp_calli hI (va_runV (As := [.int x]) (rest := [.ref o]) ⟨hx, hb, hml, hown, hg⟩ (c_M_isLetterN l D g S _ o nl mv1 mv2 (.int th) (.ref pa) mv5 mv6 mv7 mv8 mv9 mv10 mv11 (.int (nI 1)) mv13 (.int (nI s9)) (.ref le) mv16 (.ref dg) (.ref lt9) mv19 mv20 (.int (nI zc)) (.ref ze) (.ref oq) mv24 mv25 mv26 mv27 mv28 mv29 mv30 x h_o hx9) ⟨(callB_of 1 hg (wd_goodG q_1086) rfl rfl rfl (hg _ q_5) (hg _ q_1083) (by decide +kernel) ⟨Nat.le_of_ble_eq_true rfl, Nat.le_of_ble_eq_true rfl⟩), hg _ q_1085, hg _ qs_49⟩ (mp_preV (C := R_M) (T := F_M) hI hK h_o rfl [.int x]) rfl rfl hl.1 rfl (lv_room (Nat.le_of_ble_eq_true rfl)) d_M_at_26 ⟨Nat.le_of_ble_eq_true rfl, Nat.le_of_ble_eq_true rfl⟩) (fun r9 S6 H7 locs p_8 hI => ?_)
  obtain ⟨er9, eS10⟩ := p_8
  rw [eS10] at hI
  have er9 : r9 = 0 := er9
  subst er9
  refine lv_if_ne (tgt := 36) hx hb d_M_at_29 (by decide) (fun h9 => absurd h9 (by decide)) (fun _ => ?_)
  refine lv_iconst (v := nI 3) hx hb d_M_at_32 (by decide) ?_
  refine lv_goto (tgt := 37) hx hb d_M_at_33 (by decide) ?_
  refine mp_put (C := R_M) (T := F_M) (N := 31) (v := .int (nI 3)) (ty := .int) hx hb hg i_M t_M t_M_ok n_M hown hK.va hI h_o rfl 3 (by decide) (hg _ q_807) (fun _ h9 => h9) rfl (by decide +kernel) (rfl) rfl (Nat.le_of_ble_eq_true rfl) d_M_at_37 (fun S11 H12 locs e_13 hI => ?_)
  have h_o_o := h_o
  have e_13 : S11 = va_up S o (some (2000, .inr (10, [.int (nI nl), mv1, mv2, .int (nI 3), .ref pa, mv5, mv6, mv7, mv8, mv9, mv10, mv11, .int (nI 1), mv13, .int (nI s9), .ref le, mv16, .ref dg, .ref lt9, mv19, mv20, .int (nI zc), .ref ze, .ref oq, mv24, mv25, mv26, mv27, mv28, mv29, mv30]))) := e_13
  have h_pa : S11 pa = some (2001, .inl ((g 0), 40000, .inl (fun j => nI (PO j).val))) := by rw [e_13]; exact mp_keep h_pa h_o (by decide)
  have h_le : S11 le = some (2008, .inl ((g 0), 17, .inl (fun j => nI (LF j)))) := by rw [e_13]; exact mp_keep h_le h_o (by decide)
  have h_dg : S11 dg = some (2010, .inl ((g 0), 3, .inl (fun j => nI (DG j)))) := by rw [e_13]; exact mp_keep h_dg h_o (by decide)
  have h_lt9 : S11 lt9 = some (2011, .inl ((g 0), 51, .inl (fun j => nI (LE j).val))) := by rw [e_13]; exact mp_keep h_lt9 h_o (by decide)
  have h_ze : S11 ze = some (2014, .inl ((g 0), 51, .inl (fun j => nI (ZM j).val))) := by rw [e_13]; exact mp_keep h_ze h_o (by decide)
  have h_oq : S11 oq = some (2015, .inl ((g 0), 17, .inl (fun j => nI (OF j)))) := by rw [e_13]; exact mp_keep h_oq h_o (by decide)
  have h_o : S11 o = some (2000, .inr (10, [.int (nI nl), mv1, mv2, .int (nI 3), .ref pa, mv5, mv6, mv7, mv8, mv9, mv10, mv11, .int (nI 1), mv13, .int (nI s9), .ref le, mv16, .ref dg, .ref lt9, mv19, mv20, .int (nI zc), .ref ze, .ref oq, mv24, mv25, mv26, mv27, mv28, mv29, mv30])) := by rw [e_13]; exact mp_us _ _ _
  have hfr : ∀ b t e9, S b = some (t, e9) → (t ≠ 2000) → S11 b = some (t, e9) := fun b t e9 h9 k0 => by rw [e_13]; exact mp_keep (hfr b t e9 h9 k0) h_o_o (by omega)
  refine lv_aload_n hx hb d_M_at_40 rfl (lv_at hl 0 rfl) ?_
  refine mp_get (C := R_M) (T := F_M) (N := 31) (v := .int (nI 3)) hx hb hg i_M hown hK.va hI h_o rfl 3 (by decide) (hg _ q_807) (fun _ h9 => h9) rfl d_M_at_41 ?_
  refine lv_if_eq (tgt := 51) hx hb d_M_at_44 (by decide) (fun h9 => absurd h9 (by decide)) (fun _ => ?_)
  refine lv_iconst (v := nI 0) hx hb d_M_at_47 (by decide) ?_
  refine lv_goto (tgt := 61) hx hb d_M_at_48 (by decide) ?_
  refine mp_iret hx hb hr hlocks hI (Nat.le_of_ble_eq_true rfl) (Nat.le_of_ble_eq_true rfl) ?_ d_M_at_61
  exact ⟨rfl, h_o, hfr⟩
set_option maxHeartbeats 4000000 in
set_option maxRecDepth 100000 in
/-- a getter of the reference -/
theorem c_M_atK (l : Launch) (D : mp_G) (g : Nat → ClassId) (S : mp_M) (sz : Nat) (o pa le dg lt9 ze oq nl s9 zc : Nat) (mv1 mv2 mv5 mv6 mv7 mv8 mv9 mv10 mv11 mv13 mv16 mv19 mv20 mv24 mv25 mv26 mv27 mv28 mv29 mv30 : Value) (PO : Nat → fF) (LF DG : Nat → Nat) (LE ZM : Nat → fF) (OF : Nat → Nat) (th : Int32) (z9 k9 : Nat) (h_o : S o = some (2000, .inr (10, [.int (nI nl), mv1, mv2, .int th, .ref pa, mv5, mv6, mv7, mv8, mv9, mv10, mv11, .int (nI 1), mv13, .int (nI s9), .ref le, mv16, .ref dg, .ref lt9, mv19, mv20, .int (nI zc), .ref ze, .ref oq, mv24, mv25, mv26, mv27, mv28, mv29, mv30]))) (h_pa : S pa = some (2001, .inl ((g 0), 40000, .inl (fun j => nI (PO j).val)))) (h_le : S le = some (2008, .inl ((g 0), 17, .inl (fun j => nI (LF j))))) (h_dg : S dg = some (2010, .inl ((g 0), 3, .inl (fun j => nI (DG j))))) (h_lt9 : S lt9 = some (2011, .inl ((g 0), 51, .inl (fun j => nI (LE j).val)))) (h_ze : S ze = some (2014, .inl ((g 0), 51, .inl (fun j => nI (ZM j).val)))) (h_oq : S oq = some (2015, .inl ((g 0), 17, .inl (fun j => nI (OF j))))) (hnl : nl ≤ 3) (hs : s9 ≤ 16) (hzc : zc ≤ 16) (hz9 : z9 < zc) (hk9 : k9 < nl) : Met l y_M_at w_M_at ({ frames := 1, cells := 0, slots := 0, locals := 21 }) (va_Pc [.ref o, .int (nI z9), .int (nI k9)] (mp_B0 D classes (tys g) S sz)) (va_Qi (fun (r : Int32) (S1 : mp_M) => r = nI (ZM (3 * z9 + k9)).val ∧ S1 o = some (2000, .inr (10, [.int (nI nl), mv1, mv2, .int (nI 0), .ref pa, mv5, mv6, mv7, mv8, mv9, mv10, mv11, .int (nI 1), mv13, .int (nI s9), .ref le, mv16, .ref dg, .ref lt9, mv19, mv20, .int (nI zc), .ref ze, .ref oq, mv24, mv25, mv26, mv27, mv28, mv29, mv30])) ∧ (∀ b t e9, S b = some (t, e9) → (t ≠ 2000) → S1 b = some (t, e9))) (mp_B1 D classes S sz) (mp_A S sz)) 0 0 (mp_A S sz) := by
  refine Met.ofW (cc := b_M_at) (maxL := 3) (ret := (some .int)) (by decide) rfl ?_
  intro p e s m args below meth c s₁ B hml hv
  obtain ⟨rfl, hsz, hH, hK⟩ := hv
  have hx := B.exec
  have hb := B.bytes
  have hr := B.returns
  have hts := atoms_spec (ws := w_M_at) B.pre
  have hg : ∀ w ∈ gw, w.before _ s = true := fun w h => hts w (List.mem_cons_of_mem _ h)
  have hown : s.vm.findClass R_M = some m.cls := findClass_of_methodNamed B.named
  have hlocks := B.notSynchronized
  subst hsz
  have hI := mp_I.start hH
  have hl := lv_entry ([.ref o, .int (nI z9), .int (nI k9)]) (n := 3) (Nat.le_of_ble_eq_true rfl)
  rw [lg_entry_eq]
  generalize (lg_sl ([.ref o, .int (nI z9), .int (nI k9)]) ++ List.replicate (3 - (lg_sl ([.ref o, .int (nI z9), .int (nI k9)])).length) Slot.unset).toArray = ls at hl ⊢
  have hl : lv_has ls 3 [(0, .ref o), (1, .int (nI z9)), (2, .int (nI k9))] := hl
  have hfr : ∀ b t e9, S b = some (t, e9) → (t ≠ 2000) → S b = some (t, e9) := fun _ _ _ h9 _ => h9
  refine lv_aload_n hx hb d_M_at_0 rfl (lv_at hl 0 rfl) ?_
  refine lv_aload_n hx hb d_M_at_1 rfl (lv_at hl 0 rfl) ?_
  refine mp_get (C := R_M) (T := F_M) (N := 31) (v := .int (nI 1)) hx hb hg i_M hown hK.va hI h_o rfl 12 (by decide) (hg _ q_816) (fun _ h9 => h9) rfl d_M_at_2 ?_
  refine lv_if_ne (tgt := 12) hx hb d_M_at_5 (by decide) (fun _ => ?_) (fun h9 => absurd h9 (by decide))
  refine lv_aload_n hx hb d_M_at_12 rfl (lv_at hl 0 rfl) ?_
  refine lv_iload_n hx hb d_M_at_13 rfl (lv_at hl 1 rfl) ?_
  refine mp_calli hI (va_runV (As := [.int (nI z9)]) (rest := [.ref o]) ⟨hx, hb, hml, hown, hg⟩ (c_M_isZero l D g S _ o zc z9 (.int (nI nl)) mv1 mv2 (.int th) (.ref pa) mv5 mv6 mv7 mv8 mv9 mv10 mv11 (.int (nI 1)) mv13 (.int (nI s9)) (.ref le) mv16 (.ref dg) (.ref lt9) mv19 mv20 (.ref ze) (.ref oq) mv24 mv25 mv26 mv27 mv28 mv29 mv30 h_o hz9 hzc) ⟨(callB_of 1 hg (wd_goodG q_1082) rfl rfl rfl (hg _ q_5) (hg _ q_1079) (by decide +kernel) ⟨Nat.le_of_ble_eq_true rfl, Nat.le_of_ble_eq_true rfl⟩), hg _ q_1081, hg _ qs_48⟩ (mp_preV (C := R_M) (T := F_M) hI hK h_o rfl [.int (nI z9)]) rfl rfl hl.1 rfl (lv_room (Nat.le_of_ble_eq_true rfl)) d_M_at_14 ⟨Nat.le_of_ble_eq_true rfl, Nat.le_of_ble_eq_true rfl⟩) (fun r4 S1 H2 locs p_3 hI => ?_)
  obtain ⟨er4, eS5⟩ := p_3
  rw [eS5] at hI
  have er4 : r4 = 1 := er4
  subst er4
  refine lv_if_ne (tgt := 24) hx hb d_M_at_17 (by decide) (fun _ => ?_) (fun h9 => absurd h9 (by decide))
  refine lv_aload_n hx hb d_M_at_24 rfl (lv_at hl 0 rfl) ?_
  refine lv_iload_n hx hb d_M_at_25 rfl (lv_at hl 2 rfl) ?_
  refine mp_calli hI (va_runV (As := [.int (nI k9)]) (rest := [.ref o]) ⟨hx, hb, hml, hown, hg⟩ (c_M_isLetter l D g S _ o nl k9 mv1 mv2 (.int th) (.ref pa) mv5 mv6 mv7 mv8 mv9 mv10 mv11 (.int (nI 1)) mv13 (.int (nI s9)) (.ref le) mv16 (.ref dg) (.ref lt9) mv19 mv20 (.int (nI zc)) (.ref ze) (.ref oq) mv24 mv25 mv26 mv27 mv28 mv29 mv30 h_o hk9 hnl) ⟨(callB_of 1 hg (wd_goodG q_1086) rfl rfl rfl (hg _ q_5) (hg _ q_1083) (by decide +kernel) ⟨Nat.le_of_ble_eq_true rfl, Nat.le_of_ble_eq_true rfl⟩), hg _ q_1085, hg _ qs_49⟩ (mp_preV (C := R_M) (T := F_M) hI hK h_o rfl [.int (nI k9)]) rfl rfl hl.1 rfl (lv_room (Nat.le_of_ble_eq_true rfl)) d_M_at_26 ⟨Nat.le_of_ble_eq_true rfl, Nat.le_of_ble_eq_true rfl⟩) (fun r9 S6 H7 locs p_8 hI => ?_)
  obtain ⟨er9, eS10⟩ := p_8
  rw [eS10] at hI
  have er9 : r9 = 1 := er9
  subst er9
  refine lv_if_ne (tgt := 36) hx hb d_M_at_29 (by decide) (fun _ => ?_) (fun h9 => absurd h9 (by decide))
  refine lv_iconst (v := nI 0) hx hb d_M_at_36 (by decide) ?_
  refine mp_put (C := R_M) (T := F_M) (N := 31) (v := .int (nI 0)) (ty := .int) hx hb hg i_M t_M t_M_ok n_M hown hK.va hI h_o rfl 3 (by decide) (hg _ q_807) (fun _ h9 => h9) rfl (by decide +kernel) (rfl) rfl (Nat.le_of_ble_eq_true rfl) d_M_at_37 (fun S11 H12 locs e_13 hI => ?_)
  have h_o_o := h_o
  have e_13 : S11 = va_up S o (some (2000, .inr (10, [.int (nI nl), mv1, mv2, .int (nI 0), .ref pa, mv5, mv6, mv7, mv8, mv9, mv10, mv11, .int (nI 1), mv13, .int (nI s9), .ref le, mv16, .ref dg, .ref lt9, mv19, mv20, .int (nI zc), .ref ze, .ref oq, mv24, mv25, mv26, mv27, mv28, mv29, mv30]))) := e_13
  have h_pa : S11 pa = some (2001, .inl ((g 0), 40000, .inl (fun j => nI (PO j).val))) := by rw [e_13]; exact mp_keep h_pa h_o (by decide)
  have h_le : S11 le = some (2008, .inl ((g 0), 17, .inl (fun j => nI (LF j)))) := by rw [e_13]; exact mp_keep h_le h_o (by decide)
  have h_dg : S11 dg = some (2010, .inl ((g 0), 3, .inl (fun j => nI (DG j)))) := by rw [e_13]; exact mp_keep h_dg h_o (by decide)
  have h_lt9 : S11 lt9 = some (2011, .inl ((g 0), 51, .inl (fun j => nI (LE j).val))) := by rw [e_13]; exact mp_keep h_lt9 h_o (by decide)
  have h_ze : S11 ze = some (2014, .inl ((g 0), 51, .inl (fun j => nI (ZM j).val))) := by rw [e_13]; exact mp_keep h_ze h_o (by decide)
  have h_oq : S11 oq = some (2015, .inl ((g 0), 17, .inl (fun j => nI (OF j)))) := by rw [e_13]; exact mp_keep h_oq h_o (by decide)
  have h_o : S11 o = some (2000, .inr (10, [.int (nI nl), mv1, mv2, .int (nI 0), .ref pa, mv5, mv6, mv7, mv8, mv9, mv10, mv11, .int (nI 1), mv13, .int (nI s9), .ref le, mv16, .ref dg, .ref lt9, mv19, mv20, .int (nI zc), .ref ze, .ref oq, mv24, mv25, mv26, mv27, mv28, mv29, mv30])) := by rw [e_13]; exact mp_us _ _ _
  have hfr : ∀ b t e9, S b = some (t, e9) → (t ≠ 2000) → S11 b = some (t, e9) := fun b t e9 h9 k0 => by rw [e_13]; exact mp_keep (hfr b t e9 h9 k0) h_o_o (by omega)
  refine lv_aload_n hx hb d_M_at_40 rfl (lv_at hl 0 rfl) ?_
  refine mp_get (C := R_M) (T := F_M) (N := 31) (v := .int (nI 0)) hx hb hg i_M hown hK.va hI h_o rfl 3 (by decide) (hg _ q_807) (fun _ h9 => h9) rfl d_M_at_41 ?_
  refine lv_if_eq (tgt := 51) hx hb d_M_at_44 (by decide) (fun _ => ?_) (fun h9 => absurd (by decide) h9)
  refine lv_aload_n hx hb d_M_at_51 rfl (lv_at hl 0 rfl) ?_
  refine mp_get (C := R_M) (T := F_M) (N := 31) (v := .ref ze) hx hb hg i_M hown hK.va hI h_o rfl 22 (by decide) (hg _ q_826) (fun _ h9 => h9) rfl d_M_at_52 ?_
  refine lv_iconst (v := nI 3) hx hb d_M_at_55 (by decide) ?_
  refine lv_iload_n hx hb d_M_at_56 rfl (lv_at hl 1 rfl) ?_
  refine lv_imul hx hb d_M_at_57 ?_
  refine lv_topi (fun v14 ev14 => ?_)
  obtain rfl : v14 = nI (3 * z9) := ev14.trans (pk_mul _ _)
  refine lv_iload_n hx hb d_M_at_58 rfl (lv_at hl 2 rfl) ?_
  refine lv_iadd hx hb d_M_at_59 ?_
  refine lv_topi (fun v15 ev15 => ?_)
  obtain rfl : v15 = nI ((3 * z9) + k9) := ev15.trans (nI_add _ _)
  refine mp_iald hx hb hK.va hI 0 h_ze rfl (vp_in_nI (show (3 * z9) + k9 < 51 by omega) (by omega)) d_M_at_60 ?_
  refine lv_topi (fun v16 ev16 => ?_)
  obtain rfl : v16 = nI (ZM ((3 * z9) + k9)).val := ev16.trans (by rw [nI_clamp (by omega)])
  refine mp_iret hx hb hr hlocks hI (Nat.le_of_ble_eq_true rfl) (Nat.le_of_ble_eq_true rfl) ?_ d_M_at_61
  exact ⟨rfl, h_o, hfr⟩
set_option maxHeartbeats 4000000 in
set_option maxRecDepth 100000 in
/-- a getter of the reference -/
theorem c_M_mulZ (l : Launch) (D : mp_G) (g : Nat → ClassId) (S : mp_M) (sz : Nat) (o pa le dg lt9 ze oq nl s9 zc : Nat) (mv1 mv2 mv5 mv6 mv7 mv8 mv9 mv10 mv11 mv13 mv16 mv19 mv20 mv24 mv25 mv26 mv27 mv28 mv29 mv30 : Value) (PO : Nat → fF) (LF DG : Nat → Nat) (LE ZM : Nat → fF) (OF : Nat → Nat) (th : Int32) (x : Int32) (h_o : S o = some (2000, .inr (10, [.int (nI nl), mv1, mv2, .int th, .ref pa, mv5, mv6, mv7, mv8, mv9, mv10, mv11, .int (nI 1), mv13, .int (nI s9), .ref le, mv16, .ref dg, .ref lt9, mv19, mv20, .int (nI zc), .ref ze, .ref oq, mv24, mv25, mv26, mv27, mv28, mv29, mv30]))) (h_pa : S pa = some (2001, .inl ((g 0), 40000, .inl (fun j => nI (PO j).val)))) (h_le : S le = some (2008, .inl ((g 0), 17, .inl (fun j => nI (LF j))))) (h_dg : S dg = some (2010, .inl ((g 0), 3, .inl (fun j => nI (DG j))))) (h_lt9 : S lt9 = some (2011, .inl ((g 0), 51, .inl (fun j => nI (LE j).val)))) (h_ze : S ze = some (2014, .inl ((g 0), 51, .inl (fun j => nI (ZM j).val)))) (h_oq : S oq = some (2015, .inl ((g 0), 17, .inl (fun j => nI (OF j))))) (hnl : nl ≤ 3) (hs : s9 ≤ 16) (hzc : zc ≤ 16) (hx9 : x < 0 ∨ nI zc ≤ x) : Met l y_M_multiplicity w_M_multiplicity ({ frames := 1, cells := 0, slots := 0, locals := 21 }) (va_Pc [.ref o, .int x] (mp_B0 D classes (tys g) S sz)) (va_Qi (fun (r : Int32) (S1 : mp_M) => r = 0 ∧ S1 o = some (2000, .inr (10, [.int (nI nl), mv1, mv2, .int (nI 2), .ref pa, mv5, mv6, mv7, mv8, mv9, mv10, mv11, .int (nI 1), mv13, .int (nI s9), .ref le, mv16, .ref dg, .ref lt9, mv19, mv20, .int (nI zc), .ref ze, .ref oq, mv24, mv25, mv26, mv27, mv28, mv29, mv30])) ∧ (∀ b t e9, S b = some (t, e9) → (t ≠ 2000) → S1 b = some (t, e9))) (mp_B1 D classes S sz) (mp_A S sz)) 0 0 (mp_A S sz) := by
  refine Met.ofW (cc := b_M_multiplicity) (maxL := 2) (ret := (some .int)) (by decide) rfl ?_
  intro p e s m args below meth c s₁ B hml hv
  obtain ⟨rfl, hsz, hH, hK⟩ := hv
  have hx := B.exec
  have hb := B.bytes
  have hr := B.returns
  have hts := atoms_spec (ws := w_M_multiplicity) B.pre
  have hg : ∀ w ∈ gw, w.before _ s = true := fun w h => hts w (List.mem_cons_of_mem _ h)
  have hown : s.vm.findClass R_M = some m.cls := findClass_of_methodNamed B.named
  have hlocks := B.notSynchronized
  subst hsz
  have hI := mp_I.start hH
  have hl := lv_entry ([.ref o, .int x]) (n := 2) (Nat.le_of_ble_eq_true rfl)
  rw [lg_entry_eq]
  generalize (lg_sl ([.ref o, .int x]) ++ List.replicate (2 - (lg_sl ([.ref o, .int x])).length) Slot.unset).toArray = ls at hl ⊢
  have hl : lv_has ls 2 [(0, .ref o), (1, .int x)] := hl
  have hfr : ∀ b t e9, S b = some (t, e9) → (t ≠ 2000) → S b = some (t, e9) := fun _ _ _ h9 _ => h9
  refine lv_aload_n hx hb d_M_multiplicity_0 rfl (lv_at hl 0 rfl) ?_
  refine lv_aload_n hx hb d_M_multiplicity_1 rfl (lv_at hl 0 rfl) ?_
  refine mp_get (C := R_M) (T := F_M) (N := 31) (v := .int (nI 1)) hx hb hg i_M hown hK.va hI h_o rfl 12 (by decide) (hg _ q_816) (fun _ h9 => h9) rfl d_M_multiplicity_2 ?_
  refine lv_if_ne (tgt := 12) hx hb d_M_multiplicity_5 (by decide) (fun _ => ?_) (fun h9 => absurd h9 (by decide))
  refine lv_aload_n hx hb d_M_multiplicity_12 rfl (lv_at hl 0 rfl) ?_
  refine lv_iload_n hx hb d_M_multiplicity_13 rfl (lv_at hl 1 rfl) ?_
  refine mp_calli hI (va_runV (As := [.int x]) (rest := [.ref o]) ⟨hx, hb, hml, hown, hg⟩ (c_M_isZeroN l D g S _ o zc (.int (nI nl)) mv1 mv2 (.int th) (.ref pa) mv5 mv6 mv7 mv8 mv9 mv10 mv11 (.int (nI 1)) mv13 (.int (nI s9)) (.ref le) mv16 (.ref dg) (.ref lt9) mv19 mv20 (.ref ze) (.ref oq) mv24 mv25 mv26 mv27 mv28 mv29 mv30 x h_o hx9) ⟨(callB_of 1 hg (wd_goodG q_1082) rfl rfl rfl (hg _ q_5) (hg _ q_1079) (by decide +kernel) ⟨Nat.le_of_ble_eq_true rfl, Nat.le_of_ble_eq_true rfl⟩), hg _ q_1081, hg _ qs_48⟩ (mp_preV (C := R_M) (T := F_M) hI hK h_o rfl [.int x]) rfl rfl hl.1 rfl (lv_room (Nat.le_of_ble_eq_true rfl)) d_M_multiplicity_14 ⟨Nat.le_of_ble_eq_true rfl, Nat.le_of_ble_eq_true rfl⟩) (fun r4 S1 H2 locs p_3 hI => ?_)
  obtain ⟨er4, eS5⟩ := p_3
  rw [eS5] at hI
  have er4 : r4 = 0 := er4
  subst er4
  refine lv_if_ne (tgt := 24) hx hb d_M_multiplicity_17 (by decide) (fun h9 => absurd h9 (by decide)) (fun _ => ?_)
  refine lv_iconst (v := nI 2) hx hb d_M_multiplicity_20 (by decide) ?_
  refine lv_goto (tgt := 25) hx hb d_M_multiplicity_21 (by decide) ?_
  refine mp_put (C := R_M) (T := F_M) (N := 31) (v := .int (nI 2)) (ty := .int) hx hb hg i_M t_M t_M_ok n_M hown hK.va hI h_o rfl 3 (by decide) (hg _ q_807) (fun _ h9 => h9) rfl (by decide +kernel) (rfl) rfl (Nat.le_of_ble_eq_true rfl) d_M_multiplicity_25 (fun S6 H7 locs e_8 hI => ?_)
  have h_o_o := h_o
  have e_8 : S6 = va_up S o (some (2000, .inr (10, [.int (nI nl), mv1, mv2, .int (nI 2), .ref pa, mv5, mv6, mv7, mv8, mv9, mv10, mv11, .int (nI 1), mv13, .int (nI s9), .ref le, mv16, .ref dg, .ref lt9, mv19, mv20, .int (nI zc), .ref ze, .ref oq, mv24, mv25, mv26, mv27, mv28, mv29, mv30]))) := e_8
  have h_pa : S6 pa = some (2001, .inl ((g 0), 40000, .inl (fun j => nI (PO j).val))) := by rw [e_8]; exact mp_keep h_pa h_o (by decide)
  have h_le : S6 le = some (2008, .inl ((g 0), 17, .inl (fun j => nI (LF j)))) := by rw [e_8]; exact mp_keep h_le h_o (by decide)
  have h_dg : S6 dg = some (2010, .inl ((g 0), 3, .inl (fun j => nI (DG j)))) := by rw [e_8]; exact mp_keep h_dg h_o (by decide)
  have h_lt9 : S6 lt9 = some (2011, .inl ((g 0), 51, .inl (fun j => nI (LE j).val))) := by rw [e_8]; exact mp_keep h_lt9 h_o (by decide)
  have h_ze : S6 ze = some (2014, .inl ((g 0), 51, .inl (fun j => nI (ZM j).val))) := by rw [e_8]; exact mp_keep h_ze h_o (by decide)
  have h_oq : S6 oq = some (2015, .inl ((g 0), 17, .inl (fun j => nI (OF j)))) := by rw [e_8]; exact mp_keep h_oq h_o (by decide)
  have h_o : S6 o = some (2000, .inr (10, [.int (nI nl), mv1, mv2, .int (nI 2), .ref pa, mv5, mv6, mv7, mv8, mv9, mv10, mv11, .int (nI 1), mv13, .int (nI s9), .ref le, mv16, .ref dg, .ref lt9, mv19, mv20, .int (nI zc), .ref ze, .ref oq, mv24, mv25, mv26, mv27, mv28, mv29, mv30])) := by rw [e_8]; exact mp_us _ _ _
  have hfr : ∀ b t e9, S b = some (t, e9) → (t ≠ 2000) → S6 b = some (t, e9) := fun b t e9 h9 k0 => by rw [e_8]; exact mp_keep (hfr b t e9 h9 k0) h_o_o (by omega)
  refine lv_aload_n hx hb d_M_multiplicity_28 rfl (lv_at hl 0 rfl) ?_
  refine mp_get (C := R_M) (T := F_M) (N := 31) (v := .int (nI 2)) hx hb hg i_M hown hK.va hI h_o rfl 3 (by decide) (hg _ q_807) (fun _ h9 => h9) rfl d_M_multiplicity_29 ?_
  refine lv_if_eq (tgt := 39) hx hb d_M_multiplicity_32 (by decide) (fun h9 => absurd h9 (by decide)) (fun _ => ?_)
  refine lv_iconst (v := nI 0) hx hb d_M_multiplicity_35 (by decide) ?_
  refine lv_goto (tgt := 45) hx hb d_M_multiplicity_36 (by decide) ?_
  refine mp_iret hx hb hr hlocks hI (Nat.le_of_ble_eq_true rfl) (Nat.le_of_ble_eq_true rfl) ?_ d_M_multiplicity_45
  exact ⟨rfl, h_o, hfr⟩
set_option maxHeartbeats 4000000 in
set_option maxRecDepth 100000 in
/-- a getter of the reference -/
theorem c_M_mulK (l : Launch) (D : mp_G) (g : Nat → ClassId) (S : mp_M) (sz : Nat) (o pa le dg lt9 ze oq nl s9 zc : Nat) (mv1 mv2 mv5 mv6 mv7 mv8 mv9 mv10 mv11 mv13 mv16 mv19 mv20 mv24 mv25 mv26 mv27 mv28 mv29 mv30 : Value) (PO : Nat → fF) (LF DG : Nat → Nat) (LE ZM : Nat → fF) (OF : Nat → Nat) (th : Int32) (z9 : Nat) (h_o : S o = some (2000, .inr (10, [.int (nI nl), mv1, mv2, .int th, .ref pa, mv5, mv6, mv7, mv8, mv9, mv10, mv11, .int (nI 1), mv13, .int (nI s9), .ref le, mv16, .ref dg, .ref lt9, mv19, mv20, .int (nI zc), .ref ze, .ref oq, mv24, mv25, mv26, mv27, mv28, mv29, mv30]))) (h_pa : S pa = some (2001, .inl ((g 0), 40000, .inl (fun j => nI (PO j).val)))) (h_le : S le = some (2008, .inl ((g 0), 17, .inl (fun j => nI (LF j))))) (h_dg : S dg = some (2010, .inl ((g 0), 3, .inl (fun j => nI (DG j))))) (h_lt9 : S lt9 = some (2011, .inl ((g 0), 51, .inl (fun j => nI (LE j).val)))) (h_ze : S ze = some (2014, .inl ((g 0), 51, .inl (fun j => nI (ZM j).val)))) (h_oq : S oq = some (2015, .inl ((g 0), 17, .inl (fun j => nI (OF j))))) (hnl : nl ≤ 3) (hs : s9 ≤ 16) (hzc : zc ≤ 16) (hz9 : z9 < zc) : Met l y_M_multiplicity w_M_multiplicity ({ frames := 1, cells := 0, slots := 0, locals := 21 }) (va_Pc [.ref o, .int (nI z9)] (mp_B0 D classes (tys g) S sz)) (va_Qi (fun (r : Int32) (S1 : mp_M) => r = nI (OF z9) ∧ S1 o = some (2000, .inr (10, [.int (nI nl), mv1, mv2, .int (nI 0), .ref pa, mv5, mv6, mv7, mv8, mv9, mv10, mv11, .int (nI 1), mv13, .int (nI s9), .ref le, mv16, .ref dg, .ref lt9, mv19, mv20, .int (nI zc), .ref ze, .ref oq, mv24, mv25, mv26, mv27, mv28, mv29, mv30])) ∧ (∀ b t e9, S b = some (t, e9) → (t ≠ 2000) → S1 b = some (t, e9))) (mp_B1 D classes S sz) (mp_A S sz)) 0 0 (mp_A S sz) := by
  refine Met.ofW (cc := b_M_multiplicity) (maxL := 2) (ret := (some .int)) (by decide) rfl ?_
  intro p e s m args below meth c s₁ B hml hv
  obtain ⟨rfl, hsz, hH, hK⟩ := hv
  have hx := B.exec
  have hb := B.bytes
  have hr := B.returns
  have hts := atoms_spec (ws := w_M_multiplicity) B.pre
  have hg : ∀ w ∈ gw, w.before _ s = true := fun w h => hts w (List.mem_cons_of_mem _ h)
  have hown : s.vm.findClass R_M = some m.cls := findClass_of_methodNamed B.named
  have hlocks := B.notSynchronized
  subst hsz
  have hI := mp_I.start hH
  have hl := lv_entry ([.ref o, .int (nI z9)]) (n := 2) (Nat.le_of_ble_eq_true rfl)
  rw [lg_entry_eq]
  generalize (lg_sl ([.ref o, .int (nI z9)]) ++ List.replicate (2 - (lg_sl ([.ref o, .int (nI z9)])).length) Slot.unset).toArray = ls at hl ⊢
  have hl : lv_has ls 2 [(0, .ref o), (1, .int (nI z9))] := hl
  have hfr : ∀ b t e9, S b = some (t, e9) → (t ≠ 2000) → S b = some (t, e9) := fun _ _ _ h9 _ => h9
  refine lv_aload_n hx hb d_M_multiplicity_0 rfl (lv_at hl 0 rfl) ?_
  refine lv_aload_n hx hb d_M_multiplicity_1 rfl (lv_at hl 0 rfl) ?_
  refine mp_get (C := R_M) (T := F_M) (N := 31) (v := .int (nI 1)) hx hb hg i_M hown hK.va hI h_o rfl 12 (by decide) (hg _ q_816) (fun _ h9 => h9) rfl d_M_multiplicity_2 ?_
  refine lv_if_ne (tgt := 12) hx hb d_M_multiplicity_5 (by decide) (fun _ => ?_) (fun h9 => absurd h9 (by decide))
  refine lv_aload_n hx hb d_M_multiplicity_12 rfl (lv_at hl 0 rfl) ?_
  refine lv_iload_n hx hb d_M_multiplicity_13 rfl (lv_at hl 1 rfl) ?_
  refine mp_calli hI (va_runV (As := [.int (nI z9)]) (rest := [.ref o]) ⟨hx, hb, hml, hown, hg⟩ (c_M_isZero l D g S _ o zc z9 (.int (nI nl)) mv1 mv2 (.int th) (.ref pa) mv5 mv6 mv7 mv8 mv9 mv10 mv11 (.int (nI 1)) mv13 (.int (nI s9)) (.ref le) mv16 (.ref dg) (.ref lt9) mv19 mv20 (.ref ze) (.ref oq) mv24 mv25 mv26 mv27 mv28 mv29 mv30 h_o hz9 hzc) ⟨(callB_of 1 hg (wd_goodG q_1082) rfl rfl rfl (hg _ q_5) (hg _ q_1079) (by decide +kernel) ⟨Nat.le_of_ble_eq_true rfl, Nat.le_of_ble_eq_true rfl⟩), hg _ q_1081, hg _ qs_48⟩ (mp_preV (C := R_M) (T := F_M) hI hK h_o rfl [.int (nI z9)]) rfl rfl hl.1 rfl (lv_room (Nat.le_of_ble_eq_true rfl)) d_M_multiplicity_14 ⟨Nat.le_of_ble_eq_true rfl, Nat.le_of_ble_eq_true rfl⟩) (fun r4 S1 H2 locs p_3 hI => ?_)
  obtain ⟨er4, eS5⟩ := p_3
  rw [eS5] at hI
  have er4 : r4 = 1 := er4
  subst er4
  refine lv_if_ne (tgt := 24) hx hb d_M_multiplicity_17 (by decide) (fun _ => ?_) (fun h9 => absurd h9 (by decide))
  refine lv_iconst (v := nI 0) hx hb d_M_multiplicity_24 (by decide) ?_
  refine mp_put (C := R_M) (T := F_M) (N := 31) (v := .int (nI 0)) (ty := .int) hx hb hg i_M t_M t_M_ok n_M hown hK.va hI h_o rfl 3 (by decide) (hg _ q_807) (fun _ h9 => h9) rfl (by decide +kernel) (rfl) rfl (Nat.le_of_ble_eq_true rfl) d_M_multiplicity_25 (fun S6 H7 locs e_8 hI => ?_)
  have h_o_o := h_o
  have e_8 : S6 = va_up S o (some (2000, .inr (10, [.int (nI nl), mv1, mv2, .int (nI 0), .ref pa, mv5, mv6, mv7, mv8, mv9, mv10, mv11, .int (nI 1), mv13, .int (nI s9), .ref le, mv16, .ref dg, .ref lt9, mv19, mv20, .int (nI zc), .ref ze, .ref oq, mv24, mv25, mv26, mv27, mv28, mv29, mv30]))) := e_8
  have h_pa : S6 pa = some (2001, .inl ((g 0), 40000, .inl (fun j => nI (PO j).val))) := by rw [e_8]; exact mp_keep h_pa h_o (by decide)
  have h_le : S6 le = some (2008, .inl ((g 0), 17, .inl (fun j => nI (LF j)))) := by rw [e_8]; exact mp_keep h_le h_o (by decide)
  have h_dg : S6 dg = some (2010, .inl ((g 0), 3, .inl (fun j => nI (DG j)))) := by rw [e_8]; exact mp_keep h_dg h_o (by decide)
  have h_lt9 : S6 lt9 = some (2011, .inl ((g 0), 51, .inl (fun j => nI (LE j).val))) := by rw [e_8]; exact mp_keep h_lt9 h_o (by decide)
  have h_ze : S6 ze = some (2014, .inl ((g 0), 51, .inl (fun j => nI (ZM j).val))) := by rw [e_8]; exact mp_keep h_ze h_o (by decide)
  have h_oq : S6 oq = some (2015, .inl ((g 0), 17, .inl (fun j => nI (OF j)))) := by rw [e_8]; exact mp_keep h_oq h_o (by decide)
  have h_o : S6 o = some (2000, .inr (10, [.int (nI nl), mv1, mv2, .int (nI 0), .ref pa, mv5, mv6, mv7, mv8, mv9, mv10, mv11, .int (nI 1), mv13, .int (nI s9), .ref le, mv16, .ref dg, .ref lt9, mv19, mv20, .int (nI zc), .ref ze, .ref oq, mv24, mv25, mv26, mv27, mv28, mv29, mv30])) := by rw [e_8]; exact mp_us _ _ _
  have hfr : ∀ b t e9, S b = some (t, e9) → (t ≠ 2000) → S6 b = some (t, e9) := fun b t e9 h9 k0 => by rw [e_8]; exact mp_keep (hfr b t e9 h9 k0) h_o_o (by omega)
  refine lv_aload_n hx hb d_M_multiplicity_28 rfl (lv_at hl 0 rfl) ?_
  refine mp_get (C := R_M) (T := F_M) (N := 31) (v := .int (nI 0)) hx hb hg i_M hown hK.va hI h_o rfl 3 (by decide) (hg _ q_807) (fun _ h9 => h9) rfl d_M_multiplicity_29 ?_
  refine lv_if_eq (tgt := 39) hx hb d_M_multiplicity_32 (by decide) (fun _ => ?_) (fun h9 => absurd (by decide) h9)
  refine lv_aload_n hx hb d_M_multiplicity_39 rfl (lv_at hl 0 rfl) ?_
  refine mp_get (C := R_M) (T := F_M) (N := 31) (v := .ref oq) hx hb hg i_M hown hK.va hI h_o rfl 23 (by decide) (hg _ q_827) (fun _ h9 => h9) rfl d_M_multiplicity_40 ?_
  refine lv_iload_n hx hb d_M_multiplicity_43 rfl (lv_at hl 1 rfl) ?_
  refine mp_iald hx hb hK.va hI 0 h_oq rfl (vp_in_nI (show z9 < 17 by omega) (by omega)) d_M_multiplicity_44 ?_
  refine lv_topi (fun v9 ev9 => ?_)
  obtain rfl : v9 = nI (OF z9) := ev9.trans (by rw [nI_clamp (by omega)])
  refine mp_iret hx hb hr hlocks hI (Nat.le_of_ble_eq_true rfl) (Nat.le_of_ble_eq_true rfl) ?_ d_M_multiplicity_45
  exact ⟨rfl, h_o, hfr⟩
set_option maxHeartbeats 4000000 in
set_option maxRecDepth 100000 in
/-- a getter of the reference -/
theorem c_M_minL (l : Launch) (D : mp_G) (g : Nat → ClassId) (S : mp_M) (sz : Nat) (o pa le dg lt9 ze oq nl s9 zc : Nat) (mv1 mv2 mv5 mv6 mv7 mv8 mv9 mv10 mv11 mv13 mv16 mv19 mv20 mv24 mv25 mv26 mv27 mv28 mv29 mv30 : Value) (PO : Nat → fF) (LF DG : Nat → Nat) (LE ZM : Nat → fF) (OF : Nat → Nat) (th : Int32) (x y9 : Int32) (h_o : S o = some (2000, .inr (10, [.int (nI nl), mv1, mv2, .int th, .ref pa, mv5, mv6, mv7, mv8, mv9, mv10, mv11, .int (nI 1), mv13, .int (nI s9), .ref le, mv16, .ref dg, .ref lt9, mv19, mv20, .int (nI zc), .ref ze, .ref oq, mv24, mv25, mv26, mv27, mv28, mv29, mv30]))) (h_pa : S pa = some (2001, .inl ((g 0), 40000, .inl (fun j => nI (PO j).val)))) (h_le : S le = some (2008, .inl ((g 0), 17, .inl (fun j => nI (LF j))))) (h_dg : S dg = some (2010, .inl ((g 0), 3, .inl (fun j => nI (DG j))))) (h_lt9 : S lt9 = some (2011, .inl ((g 0), 51, .inl (fun j => nI (LE j).val)))) (h_ze : S ze = some (2014, .inl ((g 0), 51, .inl (fun j => nI (ZM j).val)))) (h_oq : S oq = some (2015, .inl ((g 0), 17, .inl (fun j => nI (OF j))))) (hnl : nl ≤ 3) (hs : s9 ≤ 16) (hzc : zc ≤ 16) (hx9 : x < 0 ∨ nI nl ≤ x) : Met l y_M_minimal w_M_minimal ({ frames := 1, cells := 0, slots := 0, locals := 21 }) (va_Pc [.ref o, .int x, .int y9] (mp_B0 D classes (tys g) S sz)) (va_Qi (fun (r : Int32) (S1 : mp_M) => r = 0 ∧ S1 o = some (2000, .inr (10, [.int (nI nl), mv1, mv2, .int (nI 2), .ref pa, mv5, mv6, mv7, mv8, mv9, mv10, mv11, .int (nI 1), mv13, .int (nI s9), .ref le, mv16, .ref dg, .ref lt9, mv19, mv20, .int (nI zc), .ref ze, .ref oq, mv24, mv25, mv26, mv27, mv28, mv29, mv30])) ∧ (∀ b t e9, S b = some (t, e9) → (t ≠ 2000) → S1 b = some (t, e9))) (mp_B1 D classes S sz) (mp_A S sz)) 0 0 (mp_A S sz) := by
  refine Met.ofW (cc := b_M_minimal) (maxL := 3) (ret := (some .int)) (by decide) rfl ?_
  intro p e s m args below meth c s₁ B hml hv
  obtain ⟨rfl, hsz, hH, hK⟩ := hv
  have hx := B.exec
  have hb := B.bytes
  have hr := B.returns
  have hts := atoms_spec (ws := w_M_minimal) B.pre
  have hg : ∀ w ∈ gw, w.before _ s = true := fun w h => hts w (List.mem_cons_of_mem _ h)
  have hown : s.vm.findClass R_M = some m.cls := findClass_of_methodNamed B.named
  have hlocks := B.notSynchronized
  subst hsz
  have hI := mp_I.start hH
  have hl := lv_entry ([.ref o, .int x, .int y9]) (n := 3) (Nat.le_of_ble_eq_true rfl)
  rw [lg_entry_eq]
  generalize (lg_sl ([.ref o, .int x, .int y9]) ++ List.replicate (3 - (lg_sl ([.ref o, .int x, .int y9])).length) Slot.unset).toArray = ls at hl ⊢
  have hl : lv_has ls 3 [(0, .ref o), (1, .int x), (2, .int y9)] := hl
  have hfr : ∀ b t e9, S b = some (t, e9) → (t ≠ 2000) → S b = some (t, e9) := fun _ _ _ h9 _ => h9
  refine lv_aload_n hx hb d_M_minimal_0 rfl (lv_at hl 0 rfl) ?_
  refine lv_aload_n hx hb d_M_minimal_1 rfl (lv_at hl 0 rfl) ?_
  refine mp_get (C := R_M) (T := F_M) (N := 31) (v := .int (nI 1)) hx hb hg i_M hown hK.va hI h_o rfl 12 (by decide) (hg _ q_816) (fun _ h9 => h9) rfl d_M_minimal_2 ?_
  refine lv_if_ne (tgt := 12) hx hb d_M_minimal_5 (by decide) (fun _ => ?_) (fun h9 => absurd h9 (by decide))
  refine lv_aload_n hx hb d_M_minimal_12 rfl (lv_at hl 0 rfl) ?_
  refine lv_iload_n hx hb d_M_minimal_13 rfl (lv_at hl 1 rfl) ?_
  refine mp_calli hI (va_runV (As := [.int x]) (rest := [.ref o]) ⟨hx, hb, hml, hown, hg⟩ (c_M_isLetterN l D g S _ o nl mv1 mv2 (.int th) (.ref pa) mv5 mv6 mv7 mv8 mv9 mv10 mv11 (.int (nI 1)) mv13 (.int (nI s9)) (.ref le) mv16 (.ref dg) (.ref lt9) mv19 mv20 (.int (nI zc)) (.ref ze) (.ref oq) mv24 mv25 mv26 mv27 mv28 mv29 mv30 x h_o hx9) ⟨(callB_of 1 hg (wd_goodG q_1086) rfl rfl rfl (hg _ q_5) (hg _ q_1083) (by decide +kernel) ⟨Nat.le_of_ble_eq_true rfl, Nat.le_of_ble_eq_true rfl⟩), hg _ q_1085, hg _ qs_49⟩ (mp_preV (C := R_M) (T := F_M) hI hK h_o rfl [.int x]) rfl rfl hl.1 rfl (lv_room (Nat.le_of_ble_eq_true rfl)) d_M_minimal_14 ⟨Nat.le_of_ble_eq_true rfl, Nat.le_of_ble_eq_true rfl⟩) (fun r4 S1 H2 locs p_3 hI => ?_)
  obtain ⟨er4, eS5⟩ := p_3
  rw [eS5] at hI
  have er4 : r4 = 0 := er4
  subst er4
  refine lv_if_ne (tgt := 24) hx hb d_M_minimal_17 (by decide) (fun h9 => absurd h9 (by decide)) (fun _ => ?_)
  refine lv_iconst (v := nI 2) hx hb d_M_minimal_20 (by decide) ?_
  refine lv_goto (tgt := 25) hx hb d_M_minimal_21 (by decide) ?_
  refine mp_put (C := R_M) (T := F_M) (N := 31) (v := .int (nI 2)) (ty := .int) hx hb hg i_M t_M t_M_ok n_M hown hK.va hI h_o rfl 3 (by decide) (hg _ q_807) (fun _ h9 => h9) rfl (by decide +kernel) (rfl) rfl (Nat.le_of_ble_eq_true rfl) d_M_minimal_25 (fun S6 H7 locs e_8 hI => ?_)
  have h_o_o := h_o
  have e_8 : S6 = va_up S o (some (2000, .inr (10, [.int (nI nl), mv1, mv2, .int (nI 2), .ref pa, mv5, mv6, mv7, mv8, mv9, mv10, mv11, .int (nI 1), mv13, .int (nI s9), .ref le, mv16, .ref dg, .ref lt9, mv19, mv20, .int (nI zc), .ref ze, .ref oq, mv24, mv25, mv26, mv27, mv28, mv29, mv30]))) := e_8
  have h_pa : S6 pa = some (2001, .inl ((g 0), 40000, .inl (fun j => nI (PO j).val))) := by rw [e_8]; exact mp_keep h_pa h_o (by decide)
  have h_le : S6 le = some (2008, .inl ((g 0), 17, .inl (fun j => nI (LF j)))) := by rw [e_8]; exact mp_keep h_le h_o (by decide)
  have h_dg : S6 dg = some (2010, .inl ((g 0), 3, .inl (fun j => nI (DG j)))) := by rw [e_8]; exact mp_keep h_dg h_o (by decide)
  have h_lt9 : S6 lt9 = some (2011, .inl ((g 0), 51, .inl (fun j => nI (LE j).val))) := by rw [e_8]; exact mp_keep h_lt9 h_o (by decide)
  have h_ze : S6 ze = some (2014, .inl ((g 0), 51, .inl (fun j => nI (ZM j).val))) := by rw [e_8]; exact mp_keep h_ze h_o (by decide)
  have h_oq : S6 oq = some (2015, .inl ((g 0), 17, .inl (fun j => nI (OF j)))) := by rw [e_8]; exact mp_keep h_oq h_o (by decide)
  have h_o : S6 o = some (2000, .inr (10, [.int (nI nl), mv1, mv2, .int (nI 2), .ref pa, mv5, mv6, mv7, mv8, mv9, mv10, mv11, .int (nI 1), mv13, .int (nI s9), .ref le, mv16, .ref dg, .ref lt9, mv19, mv20, .int (nI zc), .ref ze, .ref oq, mv24, mv25, mv26, mv27, mv28, mv29, mv30])) := by rw [e_8]; exact mp_us _ _ _
  have hfr : ∀ b t e9, S b = some (t, e9) → (t ≠ 2000) → S6 b = some (t, e9) := fun b t e9 h9 k0 => by rw [e_8]; exact mp_keep (hfr b t e9 h9 k0) h_o_o (by omega)
  refine lv_aload_n hx hb d_M_minimal_28 rfl (lv_at hl 0 rfl) ?_
  refine mp_get (C := R_M) (T := F_M) (N := 31) (v := .int (nI 2)) hx hb hg i_M hown hK.va hI h_o rfl 3 (by decide) (hg _ q_807) (fun _ h9 => h9) rfl d_M_minimal_29 ?_
  refine lv_if_eq (tgt := 37) hx hb d_M_minimal_32 (by decide) (fun h9 => absurd h9 (by decide)) (fun _ => ?_)
  refine lv_iconst (v := nI 0) hx hb d_M_minimal_35 (by decide) ?_
  refine mp_iret hx hb hr hlocks hI (Nat.le_of_ble_eq_true rfl) (Nat.le_of_ble_eq_true rfl) ?_ d_M_minimal_36
  exact ⟨rfl, h_o, hfr⟩
set_option maxHeartbeats 4000000 in
set_option maxRecDepth 100000 in
/-- a getter of the reference -/
theorem c_M_minE (l : Launch) (D : mp_G) (g : Nat → ClassId) (S : mp_M) (sz : Nat) (o pa le dg lt9 ze oq nl s9 zc : Nat) (mv1 mv2 mv5 mv6 mv7 mv8 mv9 mv10 mv11 mv13 mv16 mv19 mv20 mv24 mv25 mv26 mv27 mv28 mv29 mv30 : Value) (PO : Nat → fF) (LF DG : Nat → Nat) (LE ZM : Nat → fF) (OF : Nat → Nat) (th : Int32) (k9 : Nat) (x : Int32) (h_o : S o = some (2000, .inr (10, [.int (nI nl), mv1, mv2, .int th, .ref pa, mv5, mv6, mv7, mv8, mv9, mv10, mv11, .int (nI 1), mv13, .int (nI s9), .ref le, mv16, .ref dg, .ref lt9, mv19, mv20, .int (nI zc), .ref ze, .ref oq, mv24, mv25, mv26, mv27, mv28, mv29, mv30]))) (h_pa : S pa = some (2001, .inl ((g 0), 40000, .inl (fun j => nI (PO j).val)))) (h_le : S le = some (2008, .inl ((g 0), 17, .inl (fun j => nI (LF j))))) (h_dg : S dg = some (2010, .inl ((g 0), 3, .inl (fun j => nI (DG j))))) (h_lt9 : S lt9 = some (2011, .inl ((g 0), 51, .inl (fun j => nI (LE j).val)))) (h_ze : S ze = some (2014, .inl ((g 0), 51, .inl (fun j => nI (ZM j).val)))) (h_oq : S oq = some (2015, .inl ((g 0), 17, .inl (fun j => nI (OF j))))) (hnl : nl ≤ 3) (hs : s9 ≤ 16) (hzc : zc ≤ 16) (hk9 : k9 < nl) (hx9 : x < 0 ∨ nI (DG k9) < x) : Met l y_M_minimal w_M_minimal ({ frames := 1, cells := 0, slots := 0, locals := 21 }) (va_Pc [.ref o, .int (nI k9), .int x] (mp_B0 D classes (tys g) S sz)) (va_Qi (fun (r : Int32) (S1 : mp_M) => r = 0 ∧ S1 o = some (2000, .inr (10, [.int (nI nl), mv1, mv2, .int (nI 0), .ref pa, mv5, mv6, mv7, mv8, mv9, mv10, mv11, .int (nI 1), mv13, .int (nI s9), .ref le, mv16, .ref dg, .ref lt9, mv19, mv20, .int (nI zc), .ref ze, .ref oq, mv24, mv25, mv26, mv27, mv28, mv29, mv30])) ∧ (∀ b t e9, S b = some (t, e9) → (t ≠ 2000) → S1 b = some (t, e9))) (mp_B1 D classes S sz) (mp_A S sz)) 0 0 (mp_A S sz) := by
  refine Met.ofW (cc := b_M_minimal) (maxL := 3) (ret := (some .int)) (by decide) rfl ?_
  intro p e s m args below meth c s₁ B hml hv
  obtain ⟨rfl, hsz, hH, hK⟩ := hv
  have hx := B.exec
  have hb := B.bytes
  have hr := B.returns
  have hts := atoms_spec (ws := w_M_minimal) B.pre
  have hg : ∀ w ∈ gw, w.before _ s = true := fun w h => hts w (List.mem_cons_of_mem _ h)
  have hown : s.vm.findClass R_M = some m.cls := findClass_of_methodNamed B.named
  have hlocks := B.notSynchronized
  subst hsz
  have hI := mp_I.start hH
  have hl := lv_entry ([.ref o, .int (nI k9), .int x]) (n := 3) (Nat.le_of_ble_eq_true rfl)
  rw [lg_entry_eq]
  generalize (lg_sl ([.ref o, .int (nI k9), .int x]) ++ List.replicate (3 - (lg_sl ([.ref o, .int (nI k9), .int x])).length) Slot.unset).toArray = ls at hl ⊢
  have hl : lv_has ls 3 [(0, .ref o), (1, .int (nI k9)), (2, .int x)] := hl
  have hfr : ∀ b t e9, S b = some (t, e9) → (t ≠ 2000) → S b = some (t, e9) := fun _ _ _ h9 _ => h9
  refine lv_aload_n hx hb d_M_minimal_0 rfl (lv_at hl 0 rfl) ?_
  refine lv_aload_n hx hb d_M_minimal_1 rfl (lv_at hl 0 rfl) ?_
  refine mp_get (C := R_M) (T := F_M) (N := 31) (v := .int (nI 1)) hx hb hg i_M hown hK.va hI h_o rfl 12 (by decide) (hg _ q_816) (fun _ h9 => h9) rfl d_M_minimal_2 ?_
  refine lv_if_ne (tgt := 12) hx hb d_M_minimal_5 (by decide) (fun _ => ?_) (fun h9 => absurd h9 (by decide))
  refine lv_aload_n hx hb d_M_minimal_12 rfl (lv_at hl 0 rfl) ?_
  refine lv_iload_n hx hb d_M_minimal_13 rfl (lv_at hl 1 rfl) ?_
  refine mp_calli hI (va_runV (As := [.int (nI k9)]) (rest := [.ref o]) ⟨hx, hb, hml, hown, hg⟩ (c_M_isLetter l D g S _ o nl k9 mv1 mv2 (.int th) (.ref pa) mv5 mv6 mv7 mv8 mv9 mv10 mv11 (.int (nI 1)) mv13 (.int (nI s9)) (.ref le) mv16 (.ref dg) (.ref lt9) mv19 mv20 (.int (nI zc)) (.ref ze) (.ref oq) mv24 mv25 mv26 mv27 mv28 mv29 mv30 h_o hk9 hnl) ⟨(callB_of 1 hg (wd_goodG q_1086) rfl rfl rfl (hg _ q_5) (hg _ q_1083) (by decide +kernel) ⟨Nat.le_of_ble_eq_true rfl, Nat.le_of_ble_eq_true rfl⟩), hg _ q_1085, hg _ qs_49⟩ (mp_preV (C := R_M) (T := F_M) hI hK h_o rfl [.int (nI k9)]) rfl rfl hl.1 rfl (lv_room (Nat.le_of_ble_eq_true rfl)) d_M_minimal_14 ⟨Nat.le_of_ble_eq_true rfl, Nat.le_of_ble_eq_true rfl⟩) (fun r4 S1 H2 locs p_3 hI => ?_)
  obtain ⟨er4, eS5⟩ := p_3
  rw [eS5] at hI
  have er4 : r4 = 1 := er4
  subst er4
  refine lv_if_ne (tgt := 24) hx hb d_M_minimal_17 (by decide) (fun _ => ?_) (fun h9 => absurd h9 (by decide))
  refine lv_iconst (v := nI 0) hx hb d_M_minimal_24 (by decide) ?_
  refine mp_put (C := R_M) (T := F_M) (N := 31) (v := .int (nI 0)) (ty := .int) hx hb hg i_M t_M t_M_ok n_M hown hK.va hI h_o rfl 3 (by decide) (hg _ q_807) (fun _ h9 => h9) rfl (by decide +kernel) (rfl) rfl (Nat.le_of_ble_eq_true rfl) d_M_minimal_25 (fun S6 H7 locs e_8 hI => ?_)
  have h_o_o := h_o
  have e_8 : S6 = va_up S o (some (2000, .inr (10, [.int (nI nl), mv1, mv2, .int (nI 0), .ref pa, mv5, mv6, mv7, mv8, mv9, mv10, mv11, .int (nI 1), mv13, .int (nI s9), .ref le, mv16, .ref dg, .ref lt9, mv19, mv20, .int (nI zc), .ref ze, .ref oq, mv24, mv25, mv26, mv27, mv28, mv29, mv30]))) := e_8
  have h_pa : S6 pa = some (2001, .inl ((g 0), 40000, .inl (fun j => nI (PO j).val))) := by rw [e_8]; exact mp_keep h_pa h_o (by decide)
  have h_le : S6 le = some (2008, .inl ((g 0), 17, .inl (fun j => nI (LF j)))) := by rw [e_8]; exact mp_keep h_le h_o (by decide)
  have h_dg : S6 dg = some (2010, .inl ((g 0), 3, .inl (fun j => nI (DG j)))) := by rw [e_8]; exact mp_keep h_dg h_o (by decide)
  have h_lt9 : S6 lt9 = some (2011, .inl ((g 0), 51, .inl (fun j => nI (LE j).val))) := by rw [e_8]; exact mp_keep h_lt9 h_o (by decide)
  have h_ze : S6 ze = some (2014, .inl ((g 0), 51, .inl (fun j => nI (ZM j).val))) := by rw [e_8]; exact mp_keep h_ze h_o (by decide)
  have h_oq : S6 oq = some (2015, .inl ((g 0), 17, .inl (fun j => nI (OF j)))) := by rw [e_8]; exact mp_keep h_oq h_o (by decide)
  have h_o : S6 o = some (2000, .inr (10, [.int (nI nl), mv1, mv2, .int (nI 0), .ref pa, mv5, mv6, mv7, mv8, mv9, mv10, mv11, .int (nI 1), mv13, .int (nI s9), .ref le, mv16, .ref dg, .ref lt9, mv19, mv20, .int (nI zc), .ref ze, .ref oq, mv24, mv25, mv26, mv27, mv28, mv29, mv30])) := by rw [e_8]; exact mp_us _ _ _
  have hfr : ∀ b t e9, S b = some (t, e9) → (t ≠ 2000) → S6 b = some (t, e9) := fun b t e9 h9 k0 => by rw [e_8]; exact mp_keep (hfr b t e9 h9 k0) h_o_o (by omega)
  refine lv_aload_n hx hb d_M_minimal_28 rfl (lv_at hl 0 rfl) ?_
  refine mp_get (C := R_M) (T := F_M) (N := 31) (v := .int (nI 0)) hx hb hg i_M hown hK.va hI h_o rfl 3 (by decide) (hg _ q_807) (fun _ h9 => h9) rfl d_M_minimal_29 ?_
  refine lv_if_eq (tgt := 37) hx hb d_M_minimal_32 (by decide) (fun _ => ?_) (fun h9 => absurd (by decide) h9)
  refine lv_iload_n hx hb d_M_minimal_37 rfl (lv_at hl 2 rfl) ?_
  refine lv_if_lt (tgt := 51) hx hb d_M_minimal_38 (by decide) (fun c1 => ?_) (fun c1 => ?_)
  · refine lv_iconst (v := nI 0) hx hb d_M_minimal_51 (by decide) ?_
    refine lv_goto (tgt := 66) hx hb d_M_minimal_52 (by decide) ?_
    refine mp_iret hx hb hr hlocks hI (Nat.le_of_ble_eq_true rfl) (Nat.le_of_ble_eq_true rfl) ?_ d_M_minimal_66
    exact ⟨rfl, h_o, hfr⟩
  · refine lv_iload_n hx hb d_M_minimal_41 rfl (lv_at hl 2 rfl) ?_
    refine lv_aload_n hx hb d_M_minimal_42 rfl (lv_at hl 0 rfl) ?_
    refine mp_get (C := R_M) (T := F_M) (N := 31) (v := .ref dg) hx hb hg i_M hown hK.va hI h_o rfl 17 (by decide) (hg _ q_821) (fun _ h9 => h9) rfl d_M_minimal_43 ?_
    refine lv_iload_n hx hb d_M_minimal_46 rfl (lv_at hl 1 rfl) ?_
    refine mp_iald hx hb hK.va hI 0 h_dg rfl (vp_in_nI (show k9 < 3 by omega) (by omega)) d_M_minimal_47 ?_
    refine lv_topi (fun v9 ev9 => ?_)
    obtain rfl : v9 = nI (DG k9) := ev9.trans (by rw [nI_clamp (by omega)])
    refine lv_icmp_le (tgt := 55) hx hb d_M_minimal_48 (by decide) (fun h9 => absurd h9 (fun h9 => absurd h9 (Int32.not_le.mpr (hx9.resolve_left c1)))) (fun _ => ?_)
    refine lv_iconst (v := nI 0) hx hb d_M_minimal_51 (by decide) ?_
    refine lv_goto (tgt := 66) hx hb d_M_minimal_52 (by decide) ?_
    refine mp_iret hx hb hr hlocks hI (Nat.le_of_ble_eq_true rfl) (Nat.le_of_ble_eq_true rfl) ?_ d_M_minimal_66
    exact ⟨rfl, h_o, hfr⟩
set_option maxHeartbeats 4000000 in
set_option maxRecDepth 100000 in
/-- a getter of the reference -/
theorem c_M_minK (l : Launch) (D : mp_G) (g : Nat → ClassId) (S : mp_M) (sz : Nat) (o pa le dg lt9 ze oq nl s9 zc : Nat) (mv1 mv2 mv5 mv6 mv7 mv8 mv9 mv10 mv11 mv13 mv16 mv19 mv20 mv24 mv25 mv26 mv27 mv28 mv29 mv30 : Value) (PO : Nat → fF) (LF DG : Nat → Nat) (LE ZM : Nat → fF) (OF : Nat → Nat) (th : Int32) (k9 e9 : Nat) (h_o : S o = some (2000, .inr (10, [.int (nI nl), mv1, mv2, .int th, .ref pa, mv5, mv6, mv7, mv8, mv9, mv10, mv11, .int (nI 1), mv13, .int (nI s9), .ref le, mv16, .ref dg, .ref lt9, mv19, mv20, .int (nI zc), .ref ze, .ref oq, mv24, mv25, mv26, mv27, mv28, mv29, mv30]))) (h_pa : S pa = some (2001, .inl ((g 0), 40000, .inl (fun j => nI (PO j).val)))) (h_le : S le = some (2008, .inl ((g 0), 17, .inl (fun j => nI (LF j))))) (h_dg : S dg = some (2010, .inl ((g 0), 3, .inl (fun j => nI (DG j))))) (h_lt9 : S lt9 = some (2011, .inl ((g 0), 51, .inl (fun j => nI (LE j).val)))) (h_ze : S ze = some (2014, .inl ((g 0), 51, .inl (fun j => nI (ZM j).val)))) (h_oq : S oq = some (2015, .inl ((g 0), 17, .inl (fun j => nI (OF j))))) (hnl : nl ≤ 3) (hs : s9 ≤ 16) (hzc : zc ≤ 16) (hk9 : k9 < nl) (he9 : e9 ≤ DG k9) (hD : DG k9 ≤ 16) : Met l y_M_minimal w_M_minimal ({ frames := 1, cells := 0, slots := 0, locals := 21 }) (va_Pc [.ref o, .int (nI k9), .int (nI e9)] (mp_B0 D classes (tys g) S sz)) (va_Qi (fun (r : Int32) (S1 : mp_M) => r = nI (LE (17 * k9 + e9)).val ∧ S1 o = some (2000, .inr (10, [.int (nI nl), mv1, mv2, .int (nI 0), .ref pa, mv5, mv6, mv7, mv8, mv9, mv10, mv11, .int (nI 1), mv13, .int (nI s9), .ref le, mv16, .ref dg, .ref lt9, mv19, mv20, .int (nI zc), .ref ze, .ref oq, mv24, mv25, mv26, mv27, mv28, mv29, mv30])) ∧ (∀ b t e9, S b = some (t, e9) → (t ≠ 2000) → S1 b = some (t, e9))) (mp_B1 D classes S sz) (mp_A S sz)) 0 0 (mp_A S sz) := by
  refine Met.ofW (cc := b_M_minimal) (maxL := 3) (ret := (some .int)) (by decide) rfl ?_
  intro p e s m args below meth c s₁ B hml hv
  obtain ⟨rfl, hsz, hH, hK⟩ := hv
  have hx := B.exec
  have hb := B.bytes
  have hr := B.returns
  have hts := atoms_spec (ws := w_M_minimal) B.pre
  have hg : ∀ w ∈ gw, w.before _ s = true := fun w h => hts w (List.mem_cons_of_mem _ h)
  have hown : s.vm.findClass R_M = some m.cls := findClass_of_methodNamed B.named
  have hlocks := B.notSynchronized
  subst hsz
  have hI := mp_I.start hH
  have hl := lv_entry ([.ref o, .int (nI k9), .int (nI e9)]) (n := 3) (Nat.le_of_ble_eq_true rfl)
  rw [lg_entry_eq]
  generalize (lg_sl ([.ref o, .int (nI k9), .int (nI e9)]) ++ List.replicate (3 - (lg_sl ([.ref o, .int (nI k9), .int (nI e9)])).length) Slot.unset).toArray = ls at hl ⊢
  have hl : lv_has ls 3 [(0, .ref o), (1, .int (nI k9)), (2, .int (nI e9))] := hl
  have hfr : ∀ b t e9, S b = some (t, e9) → (t ≠ 2000) → S b = some (t, e9) := fun _ _ _ h9 _ => h9
  refine lv_aload_n hx hb d_M_minimal_0 rfl (lv_at hl 0 rfl) ?_
  refine lv_aload_n hx hb d_M_minimal_1 rfl (lv_at hl 0 rfl) ?_
  refine mp_get (C := R_M) (T := F_M) (N := 31) (v := .int (nI 1)) hx hb hg i_M hown hK.va hI h_o rfl 12 (by decide) (hg _ q_816) (fun _ h9 => h9) rfl d_M_minimal_2 ?_
  refine lv_if_ne (tgt := 12) hx hb d_M_minimal_5 (by decide) (fun _ => ?_) (fun h9 => absurd h9 (by decide))
  refine lv_aload_n hx hb d_M_minimal_12 rfl (lv_at hl 0 rfl) ?_
  refine lv_iload_n hx hb d_M_minimal_13 rfl (lv_at hl 1 rfl) ?_
  refine mp_calli hI (va_runV (As := [.int (nI k9)]) (rest := [.ref o]) ⟨hx, hb, hml, hown, hg⟩ (c_M_isLetter l D g S _ o nl k9 mv1 mv2 (.int th) (.ref pa) mv5 mv6 mv7 mv8 mv9 mv10 mv11 (.int (nI 1)) mv13 (.int (nI s9)) (.ref le) mv16 (.ref dg) (.ref lt9) mv19 mv20 (.int (nI zc)) (.ref ze) (.ref oq) mv24 mv25 mv26 mv27 mv28 mv29 mv30 h_o hk9 hnl) ⟨(callB_of 1 hg (wd_goodG q_1086) rfl rfl rfl (hg _ q_5) (hg _ q_1083) (by decide +kernel) ⟨Nat.le_of_ble_eq_true rfl, Nat.le_of_ble_eq_true rfl⟩), hg _ q_1085, hg _ qs_49⟩ (mp_preV (C := R_M) (T := F_M) hI hK h_o rfl [.int (nI k9)]) rfl rfl hl.1 rfl (lv_room (Nat.le_of_ble_eq_true rfl)) d_M_minimal_14 ⟨Nat.le_of_ble_eq_true rfl, Nat.le_of_ble_eq_true rfl⟩) (fun r4 S1 H2 locs p_3 hI => ?_)
  obtain ⟨er4, eS5⟩ := p_3
  rw [eS5] at hI
  have er4 : r4 = 1 := er4
  subst er4
  refine lv_if_ne (tgt := 24) hx hb d_M_minimal_17 (by decide) (fun _ => ?_) (fun h9 => absurd h9 (by decide))
  refine lv_iconst (v := nI 0) hx hb d_M_minimal_24 (by decide) ?_
  refine mp_put (C := R_M) (T := F_M) (N := 31) (v := .int (nI 0)) (ty := .int) hx hb hg i_M t_M t_M_ok n_M hown hK.va hI h_o rfl 3 (by decide) (hg _ q_807) (fun _ h9 => h9) rfl (by decide +kernel) (rfl) rfl (Nat.le_of_ble_eq_true rfl) d_M_minimal_25 (fun S6 H7 locs e_8 hI => ?_)
  have h_o_o := h_o
  have e_8 : S6 = va_up S o (some (2000, .inr (10, [.int (nI nl), mv1, mv2, .int (nI 0), .ref pa, mv5, mv6, mv7, mv8, mv9, mv10, mv11, .int (nI 1), mv13, .int (nI s9), .ref le, mv16, .ref dg, .ref lt9, mv19, mv20, .int (nI zc), .ref ze, .ref oq, mv24, mv25, mv26, mv27, mv28, mv29, mv30]))) := e_8
  have h_pa : S6 pa = some (2001, .inl ((g 0), 40000, .inl (fun j => nI (PO j).val))) := by rw [e_8]; exact mp_keep h_pa h_o (by decide)
  have h_le : S6 le = some (2008, .inl ((g 0), 17, .inl (fun j => nI (LF j)))) := by rw [e_8]; exact mp_keep h_le h_o (by decide)
  have h_dg : S6 dg = some (2010, .inl ((g 0), 3, .inl (fun j => nI (DG j)))) := by rw [e_8]; exact mp_keep h_dg h_o (by decide)
  have h_lt9 : S6 lt9 = some (2011, .inl ((g 0), 51, .inl (fun j => nI (LE j).val))) := by rw [e_8]; exact mp_keep h_lt9 h_o (by decide)
  have h_ze : S6 ze = some (2014, .inl ((g 0), 51, .inl (fun j => nI (ZM j).val))) := by rw [e_8]; exact mp_keep h_ze h_o (by decide)
  have h_oq : S6 oq = some (2015, .inl ((g 0), 17, .inl (fun j => nI (OF j)))) := by rw [e_8]; exact mp_keep h_oq h_o (by decide)
  have h_o : S6 o = some (2000, .inr (10, [.int (nI nl), mv1, mv2, .int (nI 0), .ref pa, mv5, mv6, mv7, mv8, mv9, mv10, mv11, .int (nI 1), mv13, .int (nI s9), .ref le, mv16, .ref dg, .ref lt9, mv19, mv20, .int (nI zc), .ref ze, .ref oq, mv24, mv25, mv26, mv27, mv28, mv29, mv30])) := by rw [e_8]; exact mp_us _ _ _
  have hfr : ∀ b t e9, S b = some (t, e9) → (t ≠ 2000) → S6 b = some (t, e9) := fun b t e9 h9 k0 => by rw [e_8]; exact mp_keep (hfr b t e9 h9 k0) h_o_o (by omega)
  refine lv_aload_n hx hb d_M_minimal_28 rfl (lv_at hl 0 rfl) ?_
  refine mp_get (C := R_M) (T := F_M) (N := 31) (v := .int (nI 0)) hx hb hg i_M hown hK.va hI h_o rfl 3 (by decide) (hg _ q_807) (fun _ h9 => h9) rfl d_M_minimal_29 ?_
  refine lv_if_eq (tgt := 37) hx hb d_M_minimal_32 (by decide) (fun _ => ?_) (fun h9 => absurd (by decide) h9)
  refine lv_iload_n hx hb d_M_minimal_37 rfl (lv_at hl 2 rfl) ?_
  refine lv_if_lt (tgt := 51) hx hb d_M_minimal_38 (by decide) (fun h9 => absurd h9 (nI_pos (by omega))) (fun _ => ?_)
  refine lv_iload_n hx hb d_M_minimal_41 rfl (lv_at hl 2 rfl) ?_
  refine lv_aload_n hx hb d_M_minimal_42 rfl (lv_at hl 0 rfl) ?_
  refine mp_get (C := R_M) (T := F_M) (N := 31) (v := .ref dg) hx hb hg i_M hown hK.va hI h_o rfl 17 (by decide) (hg _ q_821) (fun _ h9 => h9) rfl d_M_minimal_43 ?_
  refine lv_iload_n hx hb d_M_minimal_46 rfl (lv_at hl 1 rfl) ?_
  refine mp_iald hx hb hK.va hI 0 h_dg rfl (vp_in_nI (show k9 < 3 by omega) (by omega)) d_M_minimal_47 ?_
  refine lv_topi (fun v9 ev9 => ?_)
  obtain rfl : v9 = nI (DG k9) := ev9.trans (by rw [nI_clamp (by omega)])
  refine lv_icmp_le (tgt := 55) hx hb d_M_minimal_48 (by decide) (fun _ => ?_) (fun h9 => absurd (by rw [nI_leI (by omega) (by omega)]; omega) h9)
  refine lv_aload_n hx hb d_M_minimal_55 rfl (lv_at hl 0 rfl) ?_
  refine mp_get (C := R_M) (T := F_M) (N := 31) (v := .ref lt9) hx hb hg i_M hown hK.va hI h_o rfl 18 (by decide) (hg _ q_822) (fun _ h9 => h9) rfl d_M_minimal_56 ?_
  refine lv_bipush (v := nI 17) hx hb d_M_minimal_59 (by decide) ?_
  refine lv_iload_n hx hb d_M_minimal_61 rfl (lv_at hl 1 rfl) ?_
  refine lv_imul hx hb d_M_minimal_62 ?_
  refine lv_topi (fun v10 ev10 => ?_)
  obtain rfl : v10 = nI (17 * k9) := ev10.trans (pk_mul _ _)
  refine lv_iload_n hx hb d_M_minimal_63 rfl (lv_at hl 2 rfl) ?_
  refine lv_iadd hx hb d_M_minimal_64 ?_
  refine lv_topi (fun v11 ev11 => ?_)
  obtain rfl : v11 = nI ((17 * k9) + e9) := ev11.trans (nI_add _ _)
  refine mp_iald hx hb hK.va hI 0 h_lt9 rfl (vp_in_nI (show (17 * k9) + e9 < 51 by omega) (by omega)) d_M_minimal_65 ?_
  refine lv_topi (fun v12 ev12 => ?_)
  obtain rfl : v12 = nI (LE ((17 * k9) + e9)).val := ev12.trans (by rw [nI_clamp (by omega)])
  refine mp_iret hx hb hr hlocks hI (Nat.le_of_ble_eq_true rfl) (Nat.le_of_ble_eq_true rfl) ?_ d_M_minimal_66
  exact ⟨rfl, h_o, hfr⟩
set_option maxHeartbeats 4000000 in
set_option maxRecDepth 100000 in
/-- a getter of the reference -/
theorem c_M_valP (l : Launch) (D : mp_G) (g : Nat → ClassId) (S : mp_M) (sz : Nat) (o pa le dg lt9 ze oq nl s9 zc : Nat) (mv1 mv2 mv5 mv6 mv7 mv8 mv9 mv10 mv11 mv13 mv16 mv19 mv20 mv24 mv25 mv26 mv27 mv28 mv29 mv30 : Value) (PO : Nat → fF) (LF DG : Nat → Nat) (LE ZM : Nat → fF) (OF : Nat → Nat) (th : Int32) (x y9 : Int32) (h_o : S o = some (2000, .inr (10, [.int (nI nl), mv1, mv2, .int th, .ref pa, mv5, mv6, mv7, mv8, mv9, mv10, mv11, .int (nI 1), mv13, .int (nI s9), .ref le, mv16, .ref dg, .ref lt9, mv19, mv20, .int (nI zc), .ref ze, .ref oq, mv24, mv25, mv26, mv27, mv28, mv29, mv30]))) (h_pa : S pa = some (2001, .inl ((g 0), 40000, .inl (fun j => nI (PO j).val)))) (h_le : S le = some (2008, .inl ((g 0), 17, .inl (fun j => nI (LF j))))) (h_dg : S dg = some (2010, .inl ((g 0), 3, .inl (fun j => nI (DG j))))) (h_lt9 : S lt9 = some (2011, .inl ((g 0), 51, .inl (fun j => nI (LE j).val)))) (h_ze : S ze = some (2014, .inl ((g 0), 51, .inl (fun j => nI (ZM j).val)))) (h_oq : S oq = some (2015, .inl ((g 0), 17, .inl (fun j => nI (OF j))))) (hnl : nl ≤ 3) (hs : s9 ≤ 16) (hzc : zc ≤ 16) (hx9 : x < 0 ∨ nI 40 ≤ x) : Met l y_M_value w_M_value ({ frames := 1, cells := 0, slots := 0, locals := 21 }) (va_Pc [.ref o, .int x, .int y9] (mp_B0 D classes (tys g) S sz)) (va_Qi (fun (r : Int32) (S1 : mp_M) => r = 0 ∧ S1 o = some (2000, .inr (10, [.int (nI nl), mv1, mv2, .int (nI 2), .ref pa, mv5, mv6, mv7, mv8, mv9, mv10, mv11, .int (nI 1), mv13, .int (nI s9), .ref le, mv16, .ref dg, .ref lt9, mv19, mv20, .int (nI zc), .ref ze, .ref oq, mv24, mv25, mv26, mv27, mv28, mv29, mv30])) ∧ (∀ b t e9, S b = some (t, e9) → (t ≠ 2000) → S1 b = some (t, e9))) (mp_B1 D classes S sz) (mp_A S sz)) 0 0 (mp_A S sz) := by
  refine Met.ofW (cc := b_M_value) (maxL := 6) (ret := (some .int)) (by decide) rfl ?_
  intro p e s m args below meth c s₁ B hml hv
  obtain ⟨rfl, hsz, hH, hK⟩ := hv
  have hx := B.exec
  have hb := B.bytes
  have hr := B.returns
  have hts := atoms_spec (ws := w_M_value) B.pre
  have hg : ∀ w ∈ gw, w.before _ s = true := fun w h => hts w (List.mem_cons_of_mem _ h)
  have hown : s.vm.findClass R_M = some m.cls := findClass_of_methodNamed B.named
  have hlocks := B.notSynchronized
  subst hsz
  have hI := mp_I.start hH
  have hl := lv_entry ([.ref o, .int x, .int y9]) (n := 6) (Nat.le_of_ble_eq_true rfl)
  rw [lg_entry_eq]
  generalize (lg_sl ([.ref o, .int x, .int y9]) ++ List.replicate (6 - (lg_sl ([.ref o, .int x, .int y9])).length) Slot.unset).toArray = ls at hl ⊢
  have hl : lv_has ls 6 [(0, .ref o), (1, .int x), (2, .int y9)] := hl
  have hfr : ∀ b t e9, S b = some (t, e9) → (t ≠ 2000) → S b = some (t, e9) := fun _ _ _ h9 _ => h9
  refine lv_aload_n hx hb d_M_value_0 rfl (lv_at hl 0 rfl) ?_
  refine lv_aload_n hx hb d_M_value_1 rfl (lv_at hl 0 rfl) ?_
  refine mp_get (C := R_M) (T := F_M) (N := 31) (v := .int (nI 1)) hx hb hg i_M hown hK.va hI h_o rfl 12 (by decide) (hg _ q_816) (fun _ h9 => h9) rfl d_M_value_2 ?_
  refine lv_if_ne (tgt := 12) hx hb d_M_value_5 (by decide) (fun _ => ?_) (fun h9 => absurd h9 (by decide))
  refine lv_iload_n hx hb d_M_value_12 rfl (lv_at hl 1 rfl) ?_
  refine mp_calli hI (va_runS (As := [.int x]) (rest := [.ref o]) ⟨hx, hb, hml, hown, hg⟩ (c_M_isPolyN l D g S _ x hx9) ⟨(callB_of 1 hg (wd_goodG q_913) rfl rfl rfl (hg _ q_5) (hg _ q_911) (by decide +kernel) ⟨Nat.le_of_ble_eq_true rfl, Nat.le_of_ble_eq_true rfl⟩), hg _ q_912⟩ (mp_pre hI hK [.int x]) rfl rfl hl.1 rfl (lv_room (Nat.le_of_ble_eq_true rfl)) d_M_value_13 ⟨Nat.le_of_ble_eq_true rfl, Nat.le_of_ble_eq_true rfl⟩) (fun r4 S1 H2 locs p_3 hI => ?_)
  obtain ⟨er4, eS5⟩ := p_3
  rw [eS5] at hI
  have er4 : r4 = 0 := er4
  subst er4
  refine lv_if_eq (tgt := 27) hx hb d_M_value_16 (by decide) (fun _ => ?_) (fun h9 => absurd (by decide) h9)
  refine lv_iconst (v := nI 2) hx hb d_M_value_27 (by decide) ?_
  refine lv_goto (tgt := 32) hx hb d_M_value_28 (by decide) ?_
  refine mp_put (C := R_M) (T := F_M) (N := 31) (v := .int (nI 2)) (ty := .int) hx hb hg i_M t_M t_M_ok n_M hown hK.va hI h_o rfl 3 (by decide) (hg _ q_807) (fun _ h9 => h9) rfl (by decide +kernel) (rfl) rfl (Nat.le_of_ble_eq_true rfl) d_M_value_32 (fun S6 H7 locs e_8 hI => ?_)
  have h_o_o := h_o
  have e_8 : S6 = va_up S o (some (2000, .inr (10, [.int (nI nl), mv1, mv2, .int (nI 2), .ref pa, mv5, mv6, mv7, mv8, mv9, mv10, mv11, .int (nI 1), mv13, .int (nI s9), .ref le, mv16, .ref dg, .ref lt9, mv19, mv20, .int (nI zc), .ref ze, .ref oq, mv24, mv25, mv26, mv27, mv28, mv29, mv30]))) := e_8
  have h_pa : S6 pa = some (2001, .inl ((g 0), 40000, .inl (fun j => nI (PO j).val))) := by rw [e_8]; exact mp_keep h_pa h_o (by decide)
  have h_le : S6 le = some (2008, .inl ((g 0), 17, .inl (fun j => nI (LF j)))) := by rw [e_8]; exact mp_keep h_le h_o (by decide)
  have h_dg : S6 dg = some (2010, .inl ((g 0), 3, .inl (fun j => nI (DG j)))) := by rw [e_8]; exact mp_keep h_dg h_o (by decide)
  have h_lt9 : S6 lt9 = some (2011, .inl ((g 0), 51, .inl (fun j => nI (LE j).val))) := by rw [e_8]; exact mp_keep h_lt9 h_o (by decide)
  have h_ze : S6 ze = some (2014, .inl ((g 0), 51, .inl (fun j => nI (ZM j).val))) := by rw [e_8]; exact mp_keep h_ze h_o (by decide)
  have h_oq : S6 oq = some (2015, .inl ((g 0), 17, .inl (fun j => nI (OF j)))) := by rw [e_8]; exact mp_keep h_oq h_o (by decide)
  have h_o : S6 o = some (2000, .inr (10, [.int (nI nl), mv1, mv2, .int (nI 2), .ref pa, mv5, mv6, mv7, mv8, mv9, mv10, mv11, .int (nI 1), mv13, .int (nI s9), .ref le, mv16, .ref dg, .ref lt9, mv19, mv20, .int (nI zc), .ref ze, .ref oq, mv24, mv25, mv26, mv27, mv28, mv29, mv30])) := by rw [e_8]; exact mp_us _ _ _
  have hfr : ∀ b t e9, S b = some (t, e9) → (t ≠ 2000) → S6 b = some (t, e9) := fun b t e9 h9 k0 => by rw [e_8]; exact mp_keep (hfr b t e9 h9 k0) h_o_o (by omega)
  refine lv_aload_n hx hb d_M_value_35 rfl (lv_at hl 0 rfl) ?_
  refine mp_get (C := R_M) (T := F_M) (N := 31) (v := .int (nI 2)) hx hb hg i_M hown hK.va hI h_o rfl 3 (by decide) (hg _ q_807) (fun _ h9 => h9) rfl d_M_value_36 ?_
  refine lv_if_eq (tgt := 44) hx hb d_M_value_39 (by decide) (fun h9 => absurd h9 (by decide)) (fun _ => ?_)
  refine lv_iconst (v := nI 0) hx hb d_M_value_42 (by decide) ?_
  refine mp_iret hx hb hr hlocks hI (Nat.le_of_ble_eq_true rfl) (Nat.le_of_ble_eq_true rfl) ?_ d_M_value_43
  exact ⟨rfl, h_o, hfr⟩
set_option maxHeartbeats 4000000 in
set_option maxRecDepth 100000 in
/-- a getter of the reference -/
theorem c_M_valZ (l : Launch) (D : mp_G) (g : Nat → ClassId) (S : mp_M) (sz : Nat) (o pa le dg lt9 ze oq nl s9 zc : Nat) (mv1 mv2 mv5 mv6 mv7 mv8 mv9 mv10 mv11 mv13 mv16 mv19 mv20 mv24 mv25 mv26 mv27 mv28 mv29 mv30 : Value) (PO : Nat → fF) (LF DG : Nat → Nat) (LE ZM : Nat → fF) (OF : Nat → Nat) (th : Int32) (k9 : Nat) (x : Int32) (h_o : S o = some (2000, .inr (10, [.int (nI nl), mv1, mv2, .int th, .ref pa, mv5, mv6, mv7, mv8, mv9, mv10, mv11, .int (nI 1), mv13, .int (nI s9), .ref le, mv16, .ref dg, .ref lt9, mv19, mv20, .int (nI zc), .ref ze, .ref oq, mv24, mv25, mv26, mv27, mv28, mv29, mv30]))) (h_pa : S pa = some (2001, .inl ((g 0), 40000, .inl (fun j => nI (PO j).val)))) (h_le : S le = some (2008, .inl ((g 0), 17, .inl (fun j => nI (LF j))))) (h_dg : S dg = some (2010, .inl ((g 0), 3, .inl (fun j => nI (DG j))))) (h_lt9 : S lt9 = some (2011, .inl ((g 0), 51, .inl (fun j => nI (LE j).val)))) (h_ze : S ze = some (2014, .inl ((g 0), 51, .inl (fun j => nI (ZM j).val)))) (h_oq : S oq = some (2015, .inl ((g 0), 17, .inl (fun j => nI (OF j))))) (hnl : nl ≤ 3) (hs : s9 ≤ 16) (hzc : zc ≤ 16) (hk9 : k9 < 40) (hx9 : x < 0 ∨ nI zc ≤ x) : Met l y_M_value w_M_value ({ frames := 1, cells := 0, slots := 0, locals := 21 }) (va_Pc [.ref o, .int (nI k9), .int x] (mp_B0 D classes (tys g) S sz)) (va_Qi (fun (r : Int32) (S1 : mp_M) => r = 0 ∧ S1 o = some (2000, .inr (10, [.int (nI nl), mv1, mv2, .int (nI 2), .ref pa, mv5, mv6, mv7, mv8, mv9, mv10, mv11, .int (nI 1), mv13, .int (nI s9), .ref le, mv16, .ref dg, .ref lt9, mv19, mv20, .int (nI zc), .ref ze, .ref oq, mv24, mv25, mv26, mv27, mv28, mv29, mv30])) ∧ (∀ b t e9, S b = some (t, e9) → (t ≠ 2000) → S1 b = some (t, e9))) (mp_B1 D classes S sz) (mp_A S sz)) 0 0 (mp_A S sz) := by
  refine Met.ofW (cc := b_M_value) (maxL := 6) (ret := (some .int)) (by decide) rfl ?_
  intro p e s m args below meth c s₁ B hml hv
  obtain ⟨rfl, hsz, hH, hK⟩ := hv
  have hx := B.exec
  have hb := B.bytes
  have hr := B.returns
  have hts := atoms_spec (ws := w_M_value) B.pre
  have hg : ∀ w ∈ gw, w.before _ s = true := fun w h => hts w (List.mem_cons_of_mem _ h)
  have hown : s.vm.findClass R_M = some m.cls := findClass_of_methodNamed B.named
  have hlocks := B.notSynchronized
  subst hsz
  have hI := mp_I.start hH
  have hl := lv_entry ([.ref o, .int (nI k9), .int x]) (n := 6) (Nat.le_of_ble_eq_true rfl)
  rw [lg_entry_eq]
  generalize (lg_sl ([.ref o, .int (nI k9), .int x]) ++ List.replicate (6 - (lg_sl ([.ref o, .int (nI k9), .int x])).length) Slot.unset).toArray = ls at hl ⊢
  have hl : lv_has ls 6 [(0, .ref o), (1, .int (nI k9)), (2, .int x)] := hl
  have hfr : ∀ b t e9, S b = some (t, e9) → (t ≠ 2000) → S b = some (t, e9) := fun _ _ _ h9 _ => h9
  refine lv_aload_n hx hb d_M_value_0 rfl (lv_at hl 0 rfl) ?_
  refine lv_aload_n hx hb d_M_value_1 rfl (lv_at hl 0 rfl) ?_
  refine mp_get (C := R_M) (T := F_M) (N := 31) (v := .int (nI 1)) hx hb hg i_M hown hK.va hI h_o rfl 12 (by decide) (hg _ q_816) (fun _ h9 => h9) rfl d_M_value_2 ?_
  refine lv_if_ne (tgt := 12) hx hb d_M_value_5 (by decide) (fun _ => ?_) (fun h9 => absurd h9 (by decide))
  refine lv_iload_n hx hb d_M_value_12 rfl (lv_at hl 1 rfl) ?_
  refine mp_calli hI (va_runS (As := [.int (nI k9)]) (rest := [.ref o]) ⟨hx, hb, hml, hown, hg⟩ (c_M_isPoly l D g S _ k9 hk9) ⟨(callB_of 1 hg (wd_goodG q_913) rfl rfl rfl (hg _ q_5) (hg _ q_911) (by decide +kernel) ⟨Nat.le_of_ble_eq_true rfl, Nat.le_of_ble_eq_true rfl⟩), hg _ q_912⟩ (mp_pre hI hK [.int (nI k9)]) rfl rfl hl.1 rfl (lv_room (Nat.le_of_ble_eq_true rfl)) d_M_value_13 ⟨Nat.le_of_ble_eq_true rfl, Nat.le_of_ble_eq_true rfl⟩) (fun r4 S1 H2 locs p_3 hI => ?_)
  obtain ⟨er4, eS5⟩ := p_3
  rw [eS5] at hI
  have er4 : r4 = 1 := er4
  subst er4
  refine lv_if_eq (tgt := 27) hx hb d_M_value_16 (by decide) (fun h9 => absurd h9 (by decide)) (fun _ => ?_)
  refine lv_aload_n hx hb d_M_value_19 rfl (lv_at hl 0 rfl) ?_
  refine lv_iload_n hx hb d_M_value_20 rfl (lv_at hl 2 rfl) ?_
  refine mp_calli hI (va_runV (As := [.int x]) (rest := [.ref o]) ⟨hx, hb, hml, hown, hg⟩ (c_M_isZeroN l D g S _ o zc (.int (nI nl)) mv1 mv2 (.int th) (.ref pa) mv5 mv6 mv7 mv8 mv9 mv10 mv11 (.int (nI 1)) mv13 (.int (nI s9)) (.ref le) mv16 (.ref dg) (.ref lt9) mv19 mv20 (.ref ze) (.ref oq) mv24 mv25 mv26 mv27 mv28 mv29 mv30 x h_o hx9) ⟨(callB_of 1 hg (wd_goodG q_1082) rfl rfl rfl (hg _ q_5) (hg _ q_1079) (by decide +kernel) ⟨Nat.le_of_ble_eq_true rfl, Nat.le_of_ble_eq_true rfl⟩), hg _ q_1081, hg _ qs_48⟩ (mp_preV (C := R_M) (T := F_M) hI hK h_o rfl [.int x]) rfl rfl hl.1 rfl (lv_room (Nat.le_of_ble_eq_true rfl)) d_M_value_21 ⟨Nat.le_of_ble_eq_true rfl, Nat.le_of_ble_eq_true rfl⟩) (fun r9 S6 H7 locs p_8 hI => ?_)
  obtain ⟨er9, eS10⟩ := p_8
  rw [eS10] at hI
  have er9 : r9 = 0 := er9
  subst er9
  refine lv_if_ne (tgt := 31) hx hb d_M_value_24 (by decide) (fun h9 => absurd h9 (by decide)) (fun _ => ?_)
  refine lv_iconst (v := nI 2) hx hb d_M_value_27 (by decide) ?_
  refine lv_goto (tgt := 32) hx hb d_M_value_28 (by decide) ?_
  refine mp_put (C := R_M) (T := F_M) (N := 31) (v := .int (nI 2)) (ty := .int) hx hb hg i_M t_M t_M_ok n_M hown hK.va hI h_o rfl 3 (by decide) (hg _ q_807) (fun _ h9 => h9) rfl (by decide +kernel) (rfl) rfl (Nat.le_of_ble_eq_true rfl) d_M_value_32 (fun S11 H12 locs e_13 hI => ?_)
  have h_o_o := h_o
  have e_13 : S11 = va_up S o (some (2000, .inr (10, [.int (nI nl), mv1, mv2, .int (nI 2), .ref pa, mv5, mv6, mv7, mv8, mv9, mv10, mv11, .int (nI 1), mv13, .int (nI s9), .ref le, mv16, .ref dg, .ref lt9, mv19, mv20, .int (nI zc), .ref ze, .ref oq, mv24, mv25, mv26, mv27, mv28, mv29, mv30]))) := e_13
  have h_pa : S11 pa = some (2001, .inl ((g 0), 40000, .inl (fun j => nI (PO j).val))) := by rw [e_13]; exact mp_keep h_pa h_o (by decide)
  have h_le : S11 le = some (2008, .inl ((g 0), 17, .inl (fun j => nI (LF j)))) := by rw [e_13]; exact mp_keep h_le h_o (by decide)
  have h_dg : S11 dg = some (2010, .inl ((g 0), 3, .inl (fun j => nI (DG j)))) := by rw [e_13]; exact mp_keep h_dg h_o (by decide)
  have h_lt9 : S11 lt9 = some (2011, .inl ((g 0), 51, .inl (fun j => nI (LE j).val))) := by rw [e_13]; exact mp_keep h_lt9 h_o (by decide)
  have h_ze : S11 ze = some (2014, .inl ((g 0), 51, .inl (fun j => nI (ZM j).val))) := by rw [e_13]; exact mp_keep h_ze h_o (by decide)
  have h_oq : S11 oq = some (2015, .inl ((g 0), 17, .inl (fun j => nI (OF j)))) := by rw [e_13]; exact mp_keep h_oq h_o (by decide)
  have h_o : S11 o = some (2000, .inr (10, [.int (nI nl), mv1, mv2, .int (nI 2), .ref pa, mv5, mv6, mv7, mv8, mv9, mv10, mv11, .int (nI 1), mv13, .int (nI s9), .ref le, mv16, .ref dg, .ref lt9, mv19, mv20, .int (nI zc), .ref ze, .ref oq, mv24, mv25, mv26, mv27, mv28, mv29, mv30])) := by rw [e_13]; exact mp_us _ _ _
  have hfr : ∀ b t e9, S b = some (t, e9) → (t ≠ 2000) → S11 b = some (t, e9) := fun b t e9 h9 k0 => by rw [e_13]; exact mp_keep (hfr b t e9 h9 k0) h_o_o (by omega)
  refine lv_aload_n hx hb d_M_value_35 rfl (lv_at hl 0 rfl) ?_
  refine mp_get (C := R_M) (T := F_M) (N := 31) (v := .int (nI 2)) hx hb hg i_M hown hK.va hI h_o rfl 3 (by decide) (hg _ q_807) (fun _ h9 => h9) rfl d_M_value_36 ?_
  refine lv_if_eq (tgt := 44) hx hb d_M_value_39 (by decide) (fun h9 => absurd h9 (by decide)) (fun _ => ?_)
  refine lv_iconst (v := nI 0) hx hb d_M_value_42 (by decide) ?_
  refine mp_iret hx hb hr hlocks hI (Nat.le_of_ble_eq_true rfl) (Nat.le_of_ble_eq_true rfl) ?_ d_M_value_43
  exact ⟨rfl, h_o, hfr⟩
set_option maxHeartbeats 4000000 in
set_option maxRecDepth 100000 in
theorem lp_M_val {p : Program} {l : Launch} {e : Env} {R : Room} {s : State} {m : MethodId} {args : Array Value} {below : List Frame} {meth : Method} {c : Code} {Q : State → Prop} {D : mp_G} {g : Nat → ClassId} {A : Nat → Prop} {cells slots : Nat} (hx : p.tables.exec = Jvm.exec) (hb : c.code = b_M_value) (hml : c.maxLocals = 6) (hg : ∀ w ∈ gw, w.before args s = true) (hown : s.vm.findClass R_M = some m.cls) (hK : mp_K D classes (tys g) s) (hRf : 3 ≤ R.frames) (hRl : 67 ≤ R.locals) (hRc : cells ≤ R.cells) (hRs : slots ≤ R.slots) {B : mp_M} {o pa le dg lt9 ze oq nl s9 zc : Nat} {mv1 mv2 mv5 mv6 mv7 mv8 mv9 mv10 mv11 mv13 mv16 mv19 mv20 mv24 mv25 mv26 mv27 mv28 mv29 mv30 : Value} {PO : Nat → fF} {LF DG : Nat → Nat} {LE ZM : Nat → fF} {OF : Nat → Nat} {k9 z9 : Nat} (hk9 : k9 < 40) (hz9 : z9 < 16) : ∀ (k : Nat) (i : Nat) (x9 : fF) (S : mp_M) (H : Heap) (locs : List Loc) (ls : Array Slot), i + k = 1000 → (x9 = vlI (fun q => PO (1000 * k9 + q)) (ZM (3 * z9)) (ZM (3 * z9 + 1)) (ZM (3 * z9 + 2)) i) → S o = some (2000, .inr (10, [.int (nI nl), mv1, mv2, .int (nI 0), .ref pa, mv5, mv6, mv7, mv8, mv9, mv10, mv11, .int (nI 1), mv13, .int (nI s9), .ref le, mv16, .ref dg, .ref lt9, mv19, mv20, .int (nI zc), .ref ze, .ref oq, mv24, mv25, mv26, mv27, mv28, mv29, mv30])) → S pa = some (2001, .inl ((g 0), 40000, .inl (fun j => nI (PO j).val))) → S le = some (2008, .inl ((g 0), 17, .inl (fun j => nI (LF j)))) → S dg = some (2010, .inl ((g 0), 3, .inl (fun j => nI (DG j)))) → S lt9 = some (2011, .inl ((g 0), 51, .inl (fun j => nI (LE j).val))) → S ze = some (2014, .inl ((g 0), 51, .inl (fun j => nI (ZM j).val))) → S oq = some (2015, .inl ((g 0), 17, .inl (fun j => nI (OF j)))) → (∀ b t e9, B b = some (t, e9) → (t ≠ 2000) → S b = some (t, e9)) → mp_I D classes A s.heap S H locs → lv_has ls 6 [(4, .int (nI i)), (3, .int (nI (x9).val)), (2, .int (nI z9)), (1, .int (nI k9)), (0, .ref o)] → (∀ (x9 : fF) (S : mp_M) (H : Heap) (locs : List Loc) (ls : Array Slot), (x9 = vlI (fun q => PO (1000 * k9 + q)) (ZM (3 * z9)) (ZM (3 * z9 + 1)) (ZM (3 * z9 + 2)) 1000) → S o = some (2000, .inr (10, [.int (nI nl), mv1, mv2, .int (nI 0), .ref pa, mv5, mv6, mv7, mv8, mv9, mv10, mv11, .int (nI 1), mv13, .int (nI s9), .ref le, mv16, .ref dg, .ref lt9, mv19, mv20, .int (nI zc), .ref ze, .ref oq, mv24, mv25, mv26, mv27, mv28, mv29, mv30])) → S pa = some (2001, .inl ((g 0), 40000, .inl (fun j => nI (PO j).val))) → S le = some (2008, .inl ((g 0), 17, .inl (fun j => nI (LF j)))) → S dg = some (2010, .inl ((g 0), 3, .inl (fun j => nI (DG j)))) → S lt9 = some (2011, .inl ((g 0), 51, .inl (fun j => nI (LE j).val))) → S ze = some (2014, .inl ((g 0), 51, .inl (fun j => nI (ZM j).val))) → S oq = some (2015, .inl ((g 0), 17, .inl (fun j => nI (OF j)))) → (∀ b t e9, B b = some (t, e9) → (t ≠ 2000) → S b = some (t, e9)) → mp_I D classes A s.heap S H locs → lv_has ls 6 [(4, .int (nI 1000)), (3, .int (nI (x9).val)), (2, .int (nI z9)), (1, .int (nI k9)), (0, .ref o)] → W p l e R s m args below meth c H locs cells slots Q (F0 m 126 ls [])) → W p l e R s m args below meth c H locs cells slots Q (F0 m 49 ls []) := by
  intro k
  induction k with
  | zero =>
    intro i x9 S H locs ls hi hx8 h_o h_pa h_le h_dg h_lt9 h_ze h_oq hfr hI hl kx
    refine lv_iload hx hb d_M_value_49 (lv_at hl 0 rfl) ?_
    refine lv_sipush (v := nI 1000) hx hb d_M_value_51 (by decide) ?_
    refine lv_icmp_ge (tgt := 126) hx hb d_M_value_54 (by decide) (fun _ => ?_) (fun h9 => absurd ((nI_leI (by omega) (by omega)).mpr (by omega)) h9)
    obtain rfl : i = 1000 := by omega
    exact kx x9 S H locs ls hx8 h_o h_pa h_le h_dg h_lt9 h_ze h_oq hfr hI (lv_sub hl [0, 1, 2, 3, 4] rfl)
  | succ k ih =>
    intro i x9 S H locs ls hi hx8 h_o h_pa h_le h_dg h_lt9 h_ze h_oq hfr hI hl kx
    refine lv_iload hx hb d_M_value_49 (lv_at hl 0 rfl) ?_
    refine lv_sipush (v := nI 1000) hx hb d_M_value_51 (by decide) ?_
    refine lv_icmp_ge (tgt := 126) hx hb d_M_value_54 (by decide) (fun h9 => absurd h9 (by rw [nI_leI (by omega) (by omega)]; omega)) (fun _ => ?_)
    refine lv_aload_n hx hb d_M_value_57 rfl (lv_at hl 4 rfl) ?_
    refine mp_get (C := R_M) (T := F_M) (N := 31) (v := .ref pa) hx hb hg i_M hown hK.va hI h_o rfl 4 (by decide) (hg _ q_808) (fun _ h9 => h9) rfl d_M_value_58 ?_
    refine lv_sipush (v := nI 1000) hx hb d_M_value_61 (by decide) ?_
    refine lv_iload_n hx hb d_M_value_64 rfl (lv_at hl 3 rfl) ?_
    refine lv_imul hx hb d_M_value_65 ?_
    refine lv_topi (fun v1 ev1 => ?_)
    obtain rfl : v1 = nI (1000 * k9) := ev1.trans (pk_mul _ _)
    refine lv_iload hx hb d_M_value_66 (lv_at hl 0 rfl) ?_
    refine lv_iadd hx hb d_M_value_68 ?_
    refine lv_topi (fun v2 ev2 => ?_)
    obtain rfl : v2 = nI ((1000 * k9) + i) := ev2.trans (nI_add _ _)
    refine mp_iald hx hb hK.va hI 0 h_pa rfl (vp_in_nI (show (1000 * k9) + i < 40000 by omega) (by omega)) d_M_value_69 ?_
    refine lv_topi (fun v3 ev3 => ?_)
    obtain rfl : v3 = nI (PO ((1000 * k9) + i)).val := ev3.trans (by rw [nI_clamp (by omega)])
    refine lv_istore (lv' := [(5, .int (nI (PO ((1000 * k9) + i)).val)), (4, .int (nI i)), (3, .int (nI (x9).val)), (2, .int (nI z9)), (1, .int (nI k9)), (0, .ref o)]) hx hb d_M_value_70 hl (by decide) rfl (fun ls hl => ?_)
    refine lv_iload hx hb d_M_value_72 (lv_at hl 0 rfl) ?_
    refine lv_if_eq (tgt := 120) hx hb d_M_value_74 (by decide) (fun c1 => ?_) (fun c1 => ?_)
    · rw [zI_eq (by omega)] at c1
      refine lv_iinc (v := nI (i + 1)) (lv' := [(4, .int (nI (i + 1))), (5, .int (nI (PO ((1000 * k9) + i)).val)), (3, .int (nI (x9).val)), (2, .int (nI z9)), (1, .int (nI k9)), (0, .ref o)]) hx hb d_M_value_120 hl (k := 1) rfl (nI_1 _) (by decide) rfl (fun ls hl => ?_)
      refine lv_goto (tgt := 49) hx hb d_M_value_123 (by decide) ?_
      exact ih (i + 1) x9 S H locs ls (by omega) (by rw [hx8]; exact (vl_z (c := fun q => PO (1000 * k9 + q)) (Fin.ext c1)).symm) h_o h_pa h_le h_dg h_lt9 h_ze h_oq hfr hI (lv_sub hl [0, 2, 3, 4, 5] rfl) kx
    · rw [zI_eq (by omega)] at c1
      refine lv_iload_n hx hb d_M_value_77 rfl (lv_at hl 2 rfl) ?_
      refine lv_iload hx hb d_M_value_78 (lv_at hl 0 rfl) ?_
      refine lv_iload hx hb d_M_value_80 (lv_at hl 1 rfl) ?_
      refine lv_aload_n hx hb d_M_value_82 rfl (lv_at hl 5 rfl) ?_
      refine mp_get (C := R_M) (T := F_M) (N := 31) (v := .ref ze) hx hb hg i_M hown hK.va hI h_o rfl 22 (by decide) (hg _ q_826) (fun _ h9 => h9) rfl d_M_value_83 ?_
      refine lv_iconst (v := nI 3) hx hb d_M_value_86 (by decide) ?_
      refine lv_iload_n hx hb d_M_value_87 rfl (lv_at hl 3 rfl) ?_
      refine lv_imul hx hb d_M_value_88 ?_
      refine lv_topi (fun v4 ev4 => ?_)
      obtain rfl : v4 = nI (3 * z9) := ev4.trans (pk_mul _ _)
      refine mp_iald hx hb hK.va hI 0 h_ze rfl (vp_in_nI (show 3 * z9 < 51 by omega) (by omega)) d_M_value_89 ?_
      refine lv_topi (fun v5 ev5 => ?_)
      obtain rfl : v5 = nI (ZM (3 * z9)).val := ev5.trans (by rw [nI_clamp (by omega)])
      refine lv_aload_n hx hb d_M_value_90 rfl (lv_at hl 5 rfl) ?_
      refine mp_get (C := R_M) (T := F_M) (N := 31) (v := .ref ze) hx hb hg i_M hown hK.va hI h_o rfl 22 (by decide) (hg _ q_826) (fun _ h9 => h9) rfl d_M_value_91 ?_
      refine lv_iconst (v := nI 3) hx hb d_M_value_94 (by decide) ?_
      refine lv_iload_n hx hb d_M_value_95 rfl (lv_at hl 3 rfl) ?_
      refine lv_imul hx hb d_M_value_96 ?_
      refine lv_topi (fun v6 ev6 => ?_)
      obtain rfl : v6 = nI (3 * z9) := ev6.trans (pk_mul _ _)
      refine lv_iconst (v := nI 1) hx hb d_M_value_97 (by decide) ?_
      refine lv_iadd hx hb d_M_value_98 ?_
      refine lv_topi (fun v7 ev7 => ?_)
      obtain rfl : v7 = nI ((3 * z9) + 1) := ev7.trans (nI_add _ _)
      refine mp_iald hx hb hK.va hI 0 h_ze rfl (vp_in_nI (show (3 * z9) + 1 < 51 by omega) (by omega)) d_M_value_99 ?_
      refine lv_topi (fun v8 ev8 => ?_)
      obtain rfl : v8 = nI (ZM ((3 * z9) + 1)).val := ev8.trans (by rw [nI_clamp (by omega)])
      refine lv_aload_n hx hb d_M_value_100 rfl (lv_at hl 5 rfl) ?_
      refine mp_get (C := R_M) (T := F_M) (N := 31) (v := .ref ze) hx hb hg i_M hown hK.va hI h_o rfl 22 (by decide) (hg _ q_826) (fun _ h9 => h9) rfl d_M_value_101 ?_
      refine lv_iconst (v := nI 3) hx hb d_M_value_104 (by decide) ?_
      refine lv_iload_n hx hb d_M_value_105 rfl (lv_at hl 3 rfl) ?_
      refine lv_imul hx hb d_M_value_106 ?_
      refine lv_topi (fun v9 ev9 => ?_)
      obtain rfl : v9 = nI (3 * z9) := ev9.trans (pk_mul _ _)
      refine lv_iconst (v := nI 2) hx hb d_M_value_107 (by decide) ?_
      refine lv_iadd hx hb d_M_value_108 ?_
      refine lv_topi (fun v10 ev10 => ?_)
      obtain rfl : v10 = nI ((3 * z9) + 2) := ev10.trans (nI_add _ _)
      refine mp_iald hx hb hK.va hI 0 h_ze rfl (vp_in_nI (show (3 * z9) + 2 < 51 by omega) (by omega)) d_M_value_109 ?_
      refine lv_topi (fun v11 ev11 => ?_)
      obtain rfl : v11 = nI (ZM ((3 * z9) + 2)).val := ev11.trans (by rw [nI_clamp (by omega)])
      refine mp_calli hI (va_runS (As := [.int (nI i), .int (nI (ZM (3 * z9)).val), .int (nI (ZM ((3 * z9) + 1)).val), .int (nI (ZM ((3 * z9) + 2)).val)]) (rest := [.int (nI (PO ((1000 * k9) + i)).val), .int (nI (x9).val)]) ⟨hx, hb, hml, hown, hg⟩ (c_M_worth l D g S _ i (ZM (3 * z9)) (ZM (3 * z9 + 1)) (ZM (3 * z9 + 2)) (by omega)) ⟨(callB_of 4 hg (wd_goodG q_1048) rfl rfl rfl (hg _ q_5) (hg _ q_1046) (by decide +kernel) ⟨Nat.le_trans (Nat.le_of_ble_eq_true rfl) hRf, Nat.le_trans (Nat.le_of_ble_eq_true rfl) hRl⟩), hg _ q_1047⟩ (mp_pre hI hK [.int (nI i), .int (nI (ZM (3 * z9)).val), .int (nI (ZM ((3 * z9) + 1)).val), .int (nI (ZM ((3 * z9) + 2)).val)]) rfl rfl hl.1 rfl (lv_room (Nat.le_of_ble_eq_true rfl)) d_M_value_110 ⟨by omega, by omega⟩) (fun r15 S12 H13 locs p_14 hI => ?_)
      obtain ⟨er15, fq⟩ := p_14
      subst er15
      have h_o : S12 o = some (2000, .inr (10, [.int (nI nl), mv1, mv2, .int (nI 0), .ref pa, mv5, mv6, mv7, mv8, mv9, mv10, mv11, .int (nI 1), mv13, .int (nI s9), .ref le, mv16, .ref dg, .ref lt9, mv19, mv20, .int (nI zc), .ref ze, .ref oq, mv24, mv25, mv26, mv27, mv28, mv29, mv30])) := fq o _ _ h_o
      have h_pa : S12 pa = some (2001, .inl ((g 0), 40000, .inl (fun j => nI (PO j).val))) := fq pa _ _ h_pa
      have h_le : S12 le = some (2008, .inl ((g 0), 17, .inl (fun j => nI (LF j)))) := fq le _ _ h_le
      have h_dg : S12 dg = some (2010, .inl ((g 0), 3, .inl (fun j => nI (DG j)))) := fq dg _ _ h_dg
      have h_lt9 : S12 lt9 = some (2011, .inl ((g 0), 51, .inl (fun j => nI (LE j).val))) := fq lt9 _ _ h_lt9
      have h_ze : S12 ze = some (2014, .inl ((g 0), 51, .inl (fun j => nI (ZM j).val))) := fq ze _ _ h_ze
      have h_oq : S12 oq = some (2015, .inl ((g 0), 17, .inl (fun j => nI (OF j)))) := fq oq _ _ h_oq
      have hfr : ∀ b t e9, B b = some (t, e9) → (t ≠ 2000) → S12 b = some (t, e9) := fun b t e9 h9 k0 => by have h8 := hfr b t e9 h9 k0; exact fq b _ _ h8
      refine mp_calli hI (va_runS (As := [.int (nI (PO ((1000 * k9) + i)).val), .int (nI (ev (ZM (3 * z9)) (ZM (3 * z9 + 1)) (ZM (3 * z9 + 2)) (Em i)).val)]) (rest := [.int (nI (x9).val)]) ⟨hx, hb, hml, hown, hg⟩ (c_M_times l D g S12 _ (PO (1000 * k9 + i)).val (ev (ZM (3 * z9)) (ZM (3 * z9 + 1)) (ZM (3 * z9 + 2)) (Em i)).val (by omega) (by omega)) ⟨(callB_of 2 hg (wd_goodG q_927) rfl rfl rfl (hg _ q_5) (hg _ q_925) (by decide +kernel) ⟨Nat.le_trans (Nat.le_of_ble_eq_true rfl) hRf, Nat.le_trans (Nat.le_of_ble_eq_true rfl) hRl⟩), hg _ q_926⟩ (mp_pre hI hK [.int (nI (PO ((1000 * k9) + i)).val), .int (nI (ev (ZM (3 * z9)) (ZM (3 * z9 + 1)) (ZM (3 * z9 + 2)) (Em i)).val)]) rfl rfl hl.1 rfl (lv_room (Nat.le_of_ble_eq_true rfl)) d_M_value_113 ⟨by omega, by omega⟩) (fun r19 S16 H17 locs p_18 hI => ?_)
      obtain ⟨er19, eS20⟩ := p_18
      rw [eS20] at hI
      have er19 : r19 = nI ((PO (1000 * k9 + i)).val * (ev (ZM (3 * z9)) (ZM (3 * z9 + 1)) (ZM (3 * z9 + 2)) (Em i)).val % 32003) := er19
      subst er19
      refine lv_topi (fun v21 ev21 => ?_)
      obtain rfl : v21 = nI ((PO (1000 * k9 + i)) * (ev (ZM (3 * z9)) (ZM (3 * z9 + 1)) (ZM (3 * z9 + 2)) (Em i))).val := ev21.trans (congrArg nI (fv_mul _ _))
      refine mp_calli hI (va_runS (As := [.int (nI (x9).val), .int (nI ((PO (1000 * k9 + i)) * (ev (ZM (3 * z9)) (ZM (3 * z9 + 1)) (ZM (3 * z9 + 2)) (Em i))).val)]) (rest := []) ⟨hx, hb, hml, hown, hg⟩ (c_M_plus l D g S12 _ (x9).val ((PO (1000 * k9 + i)) * (ev (ZM (3 * z9)) (ZM (3 * z9 + 1)) (ZM (3 * z9 + 2)) (Em i))).val (by omega) (by omega)) ⟨(callB_of 2 hg (wd_goodG q_1025) rfl rfl rfl (hg _ q_5) (hg _ q_1023) (by decide +kernel) ⟨Nat.le_trans (Nat.le_of_ble_eq_true rfl) hRf, Nat.le_trans (Nat.le_of_ble_eq_true rfl) hRl⟩), hg _ q_1024⟩ (mp_pre hI hK [.int (nI (x9).val), .int (nI ((PO (1000 * k9 + i)) * (ev (ZM (3 * z9)) (ZM (3 * z9 + 1)) (ZM (3 * z9 + 2)) (Em i))).val)]) rfl rfl hl.1 rfl (lv_room (Nat.le_of_ble_eq_true rfl)) d_M_value_116 ⟨by omega, by omega⟩) (fun r25 S22 H23 locs p_24 hI => ?_)
      obtain ⟨er25, eS26⟩ := p_24
      rw [eS26] at hI
      have er25 : r25 = nI (((x9).val + ((PO (1000 * k9 + i)) * (ev (ZM (3 * z9)) (ZM (3 * z9 + 1)) (ZM (3 * z9 + 2)) (Em i))).val) % 32003) := er25
      subst er25
      refine lv_topi (fun v27 ev27 => ?_)
      obtain rfl : v27 = nI (x9 + ((PO (1000 * k9 + i)) * (ev (ZM (3 * z9)) (ZM (3 * z9 + 1)) (ZM (3 * z9 + 2)) (Em i)))).val := ev27.trans (congrArg nI (fv_add _ _))
      refine lv_istore_n (lv' := [(3, .int (nI (x9 + ((PO (1000 * k9 + i)) * (ev (ZM (3 * z9)) (ZM (3 * z9 + 1)) (ZM (3 * z9 + 2)) (Em i)))).val)), (5, .int (nI (PO ((1000 * k9) + i)).val)), (4, .int (nI i)), (2, .int (nI z9)), (1, .int (nI k9)), (0, .ref o)]) hx hb d_M_value_119 rfl hl (by decide) rfl (fun ls hl => ?_)
      refine lv_iinc (v := nI (i + 1)) (lv' := [(4, .int (nI (i + 1))), (3, .int (nI (x9 + ((PO (1000 * k9 + i)) * (ev (ZM (3 * z9)) (ZM (3 * z9 + 1)) (ZM (3 * z9 + 2)) (Em i)))).val)), (5, .int (nI (PO ((1000 * k9) + i)).val)), (2, .int (nI z9)), (1, .int (nI k9)), (0, .ref o)]) hx hb d_M_value_120 hl (k := 2) rfl (nI_1 _) (by decide) rfl (fun ls hl => ?_)
      refine lv_goto (tgt := 49) hx hb d_M_value_123 (by decide) ?_
      exact ih (i + 1) (x9 + (PO (1000 * k9 + i)) * (ev (ZM (3 * z9)) (ZM (3 * z9 + 1)) (ZM (3 * z9 + 2)) (Em i))) S12 H23 locs ls (by omega) (by rw [hx8]; exact (vl_s _ _ _ _ _).symm) h_o h_pa h_le h_dg h_lt9 h_ze h_oq hfr hI (lv_sub hl [0, 1, 3, 4, 5] rfl) kx
set_option maxHeartbeats 4000000 in
set_option maxRecDepth 100000 in
/-- a getter of the reference -/
theorem c_M_valK (l : Launch) (D : mp_G) (g : Nat → ClassId) (S : mp_M) (sz : Nat) (o pa le dg lt9 ze oq nl s9 zc : Nat) (mv1 mv2 mv5 mv6 mv7 mv8 mv9 mv10 mv11 mv13 mv16 mv19 mv20 mv24 mv25 mv26 mv27 mv28 mv29 mv30 : Value) (PO : Nat → fF) (LF DG : Nat → Nat) (LE ZM : Nat → fF) (OF : Nat → Nat) (th : Int32) (k9 z9 : Nat) (h_o : S o = some (2000, .inr (10, [.int (nI nl), mv1, mv2, .int th, .ref pa, mv5, mv6, mv7, mv8, mv9, mv10, mv11, .int (nI 1), mv13, .int (nI s9), .ref le, mv16, .ref dg, .ref lt9, mv19, mv20, .int (nI zc), .ref ze, .ref oq, mv24, mv25, mv26, mv27, mv28, mv29, mv30]))) (h_pa : S pa = some (2001, .inl ((g 0), 40000, .inl (fun j => nI (PO j).val)))) (h_le : S le = some (2008, .inl ((g 0), 17, .inl (fun j => nI (LF j))))) (h_dg : S dg = some (2010, .inl ((g 0), 3, .inl (fun j => nI (DG j))))) (h_lt9 : S lt9 = some (2011, .inl ((g 0), 51, .inl (fun j => nI (LE j).val)))) (h_ze : S ze = some (2014, .inl ((g 0), 51, .inl (fun j => nI (ZM j).val)))) (h_oq : S oq = some (2015, .inl ((g 0), 17, .inl (fun j => nI (OF j))))) (hnl : nl ≤ 3) (hs : s9 ≤ 16) (hzc : zc ≤ 16) (hk9 : k9 < 40) (hz9 : z9 < zc) : Met l y_M_value w_M_value ({ frames := 3, cells := 0, slots := 0, locals := 67 }) (va_Pc [.ref o, .int (nI k9), .int (nI z9)] (mp_B0 D classes (tys g) S sz)) (va_Qi (fun (r : Int32) (S1 : mp_M) => r = nI (vlI (fun q => PO (1000 * k9 + q)) (ZM (3 * z9)) (ZM (3 * z9 + 1)) (ZM (3 * z9 + 2)) 1000).val ∧ S1 o = some (2000, .inr (10, [.int (nI nl), mv1, mv2, .int (nI 0), .ref pa, mv5, mv6, mv7, mv8, mv9, mv10, mv11, .int (nI 1), mv13, .int (nI s9), .ref le, mv16, .ref dg, .ref lt9, mv19, mv20, .int (nI zc), .ref ze, .ref oq, mv24, mv25, mv26, mv27, mv28, mv29, mv30])) ∧ (∀ b t e9, S b = some (t, e9) → (t ≠ 2000) → S1 b = some (t, e9))) (mp_B1 D classes S sz) (mp_A S sz)) 0 0 (mp_A S sz) := by
  refine Met.ofW (cc := b_M_value) (maxL := 6) (ret := (some .int)) (by decide) rfl ?_
  intro p e s m args below meth c s₁ B hml hv
  obtain ⟨rfl, hsz, hH, hK⟩ := hv
  have hx := B.exec
  have hb := B.bytes
  have hr := B.returns
  have hts := atoms_spec (ws := w_M_value) B.pre
  have hg : ∀ w ∈ gw, w.before _ s = true := fun w h => hts w (List.mem_cons_of_mem _ h)
  have hown : s.vm.findClass R_M = some m.cls := findClass_of_methodNamed B.named
  have hlocks := B.notSynchronized
  subst hsz
  have hI := mp_I.start hH
  have hl := lv_entry ([.ref o, .int (nI k9), .int (nI z9)]) (n := 6) (Nat.le_of_ble_eq_true rfl)
  rw [lg_entry_eq]
  generalize (lg_sl ([.ref o, .int (nI k9), .int (nI z9)]) ++ List.replicate (6 - (lg_sl ([.ref o, .int (nI k9), .int (nI z9)])).length) Slot.unset).toArray = ls at hl ⊢
  have hl : lv_has ls 6 [(0, .ref o), (1, .int (nI k9)), (2, .int (nI z9))] := hl
  have hfr : ∀ b t e9, S b = some (t, e9) → (t ≠ 2000) → S b = some (t, e9) := fun _ _ _ h9 _ => h9
  refine lv_aload_n hx hb d_M_value_0 rfl (lv_at hl 0 rfl) ?_
  refine lv_aload_n hx hb d_M_value_1 rfl (lv_at hl 0 rfl) ?_
  refine mp_get (C := R_M) (T := F_M) (N := 31) (v := .int (nI 1)) hx hb hg i_M hown hK.va hI h_o rfl 12 (by decide) (hg _ q_816) (fun _ h9 => h9) rfl d_M_value_2 ?_
  refine lv_if_ne (tgt := 12) hx hb d_M_value_5 (by decide) (fun _ => ?_) (fun h9 => absurd h9 (by decide))
  refine lv_iload_n hx hb d_M_value_12 rfl (lv_at hl 1 rfl) ?_
  refine mp_calli hI (va_runS (As := [.int (nI k9)]) (rest := [.ref o]) ⟨hx, hb, hml, hown, hg⟩ (c_M_isPoly l D g S _ k9 hk9) ⟨(callB_of 1 hg (wd_goodG q_913) rfl rfl rfl (hg _ q_5) (hg _ q_911) (by decide +kernel) ⟨Nat.le_of_ble_eq_true rfl, Nat.le_of_ble_eq_true rfl⟩), hg _ q_912⟩ (mp_pre hI hK [.int (nI k9)]) rfl rfl hl.1 rfl (lv_room (Nat.le_of_ble_eq_true rfl)) d_M_value_13 ⟨Nat.le_of_ble_eq_true rfl, Nat.le_of_ble_eq_true rfl⟩) (fun r4 S1 H2 locs p_3 hI => ?_)
  obtain ⟨er4, eS5⟩ := p_3
  rw [eS5] at hI
  have er4 : r4 = 1 := er4
  subst er4
  refine lv_if_eq (tgt := 27) hx hb d_M_value_16 (by decide) (fun h9 => absurd h9 (by decide)) (fun _ => ?_)
  refine lv_aload_n hx hb d_M_value_19 rfl (lv_at hl 0 rfl) ?_
  refine lv_iload_n hx hb d_M_value_20 rfl (lv_at hl 2 rfl) ?_
  refine mp_calli hI (va_runV (As := [.int (nI z9)]) (rest := [.ref o]) ⟨hx, hb, hml, hown, hg⟩ (c_M_isZero l D g S _ o zc z9 (.int (nI nl)) mv1 mv2 (.int th) (.ref pa) mv5 mv6 mv7 mv8 mv9 mv10 mv11 (.int (nI 1)) mv13 (.int (nI s9)) (.ref le) mv16 (.ref dg) (.ref lt9) mv19 mv20 (.ref ze) (.ref oq) mv24 mv25 mv26 mv27 mv28 mv29 mv30 h_o hz9 hzc) ⟨(callB_of 1 hg (wd_goodG q_1082) rfl rfl rfl (hg _ q_5) (hg _ q_1079) (by decide +kernel) ⟨Nat.le_of_ble_eq_true rfl, Nat.le_of_ble_eq_true rfl⟩), hg _ q_1081, hg _ qs_48⟩ (mp_preV (C := R_M) (T := F_M) hI hK h_o rfl [.int (nI z9)]) rfl rfl hl.1 rfl (lv_room (Nat.le_of_ble_eq_true rfl)) d_M_value_21 ⟨Nat.le_of_ble_eq_true rfl, Nat.le_of_ble_eq_true rfl⟩) (fun r9 S6 H7 locs p_8 hI => ?_)
  obtain ⟨er9, eS10⟩ := p_8
  rw [eS10] at hI
  have er9 : r9 = 1 := er9
  subst er9
  refine lv_if_ne (tgt := 31) hx hb d_M_value_24 (by decide) (fun _ => ?_) (fun h9 => absurd h9 (by decide))
  refine lv_iconst (v := nI 0) hx hb d_M_value_31 (by decide) ?_
  refine mp_put (C := R_M) (T := F_M) (N := 31) (v := .int (nI 0)) (ty := .int) hx hb hg i_M t_M t_M_ok n_M hown hK.va hI h_o rfl 3 (by decide) (hg _ q_807) (fun _ h9 => h9) rfl (by decide +kernel) (rfl) rfl (Nat.le_of_ble_eq_true rfl) d_M_value_32 (fun S11 H12 locs e_13 hI => ?_)
  have h_o_o := h_o
  have e_13 : S11 = va_up S o (some (2000, .inr (10, [.int (nI nl), mv1, mv2, .int (nI 0), .ref pa, mv5, mv6, mv7, mv8, mv9, mv10, mv11, .int (nI 1), mv13, .int (nI s9), .ref le, mv16, .ref dg, .ref lt9, mv19, mv20, .int (nI zc), .ref ze, .ref oq, mv24, mv25, mv26, mv27, mv28, mv29, mv30]))) := e_13
  have h_pa : S11 pa = some (2001, .inl ((g 0), 40000, .inl (fun j => nI (PO j).val))) := by rw [e_13]; exact mp_keep h_pa h_o (by decide)
  have h_le : S11 le = some (2008, .inl ((g 0), 17, .inl (fun j => nI (LF j)))) := by rw [e_13]; exact mp_keep h_le h_o (by decide)
  have h_dg : S11 dg = some (2010, .inl ((g 0), 3, .inl (fun j => nI (DG j)))) := by rw [e_13]; exact mp_keep h_dg h_o (by decide)
  have h_lt9 : S11 lt9 = some (2011, .inl ((g 0), 51, .inl (fun j => nI (LE j).val))) := by rw [e_13]; exact mp_keep h_lt9 h_o (by decide)
  have h_ze : S11 ze = some (2014, .inl ((g 0), 51, .inl (fun j => nI (ZM j).val))) := by rw [e_13]; exact mp_keep h_ze h_o (by decide)
  have h_oq : S11 oq = some (2015, .inl ((g 0), 17, .inl (fun j => nI (OF j)))) := by rw [e_13]; exact mp_keep h_oq h_o (by decide)
  have h_o : S11 o = some (2000, .inr (10, [.int (nI nl), mv1, mv2, .int (nI 0), .ref pa, mv5, mv6, mv7, mv8, mv9, mv10, mv11, .int (nI 1), mv13, .int (nI s9), .ref le, mv16, .ref dg, .ref lt9, mv19, mv20, .int (nI zc), .ref ze, .ref oq, mv24, mv25, mv26, mv27, mv28, mv29, mv30])) := by rw [e_13]; exact mp_us _ _ _
  have hfr : ∀ b t e9, S b = some (t, e9) → (t ≠ 2000) → S11 b = some (t, e9) := fun b t e9 h9 k0 => by rw [e_13]; exact mp_keep (hfr b t e9 h9 k0) h_o_o (by omega)
  refine lv_aload_n hx hb d_M_value_35 rfl (lv_at hl 0 rfl) ?_
  refine mp_get (C := R_M) (T := F_M) (N := 31) (v := .int (nI 0)) hx hb hg i_M hown hK.va hI h_o rfl 3 (by decide) (hg _ q_807) (fun _ h9 => h9) rfl d_M_value_36 ?_
  refine lv_if_eq (tgt := 44) hx hb d_M_value_39 (by decide) (fun _ => ?_) (fun h9 => absurd (by decide) h9)
  refine lv_iconst (v := nI 0) hx hb d_M_value_44 (by decide) ?_
  refine lv_istore_n (lv' := [(3, .int (nI 0)), (0, .ref o), (1, .int (nI k9)), (2, .int (nI z9))]) hx hb d_M_value_45 rfl hl (by decide) rfl (fun ls hl => ?_)
  refine lv_iconst (v := nI 0) hx hb d_M_value_46 (by decide) ?_
  refine lv_istore (lv' := [(4, .int (nI 0)), (3, .int (nI 0)), (0, .ref o), (1, .int (nI k9)), (2, .int (nI z9))]) hx hb d_M_value_47 hl (by decide) rfl (fun ls hl => ?_)
  refine lp_M_val (B := S) (o := o) (pa := pa) (le := le) (dg := dg) (lt9 := lt9) (ze := ze) (oq := oq) (nl := nl) (s9 := s9) (zc := zc) (mv1 := mv1) (mv2 := mv2) (mv5 := mv5) (mv6 := mv6) (mv7 := mv7) (mv8 := mv8) (mv9 := mv9) (mv10 := mv10) (mv11 := mv11) (mv13 := mv13) (mv16 := mv16) (mv19 := mv19) (mv20 := mv20) (mv24 := mv24) (mv25 := mv25) (mv26 := mv26) (mv27 := mv27) (mv28 := mv28) (mv29 := mv29) (mv30 := mv30) (PO := PO) (LF := LF) (DG := DG) (LE := LE) (ZM := ZM) (OF := OF) (k9 := k9) (z9 := z9) hx hb hml hg hown hK (Nat.le_of_ble_eq_true rfl) (Nat.le_of_ble_eq_true rfl) (Nat.le_of_ble_eq_true rfl) (Nat.le_of_ble_eq_true rfl) hk9 (by omega) 1000 0 0 S11 H12 _ ls (by omega) rfl h_o h_pa h_le h_dg h_lt9 h_ze h_oq hfr hI (lv_sub hl [0, 1, 4, 3, 2] rfl) (fun x9 S14 H15 locs ls hx8 h_o h_pa h_le h_dg h_lt9 h_ze h_oq hfr hI hl => ?_)
  subst hx8
  refine lv_iload_n hx hb d_M_value_126 rfl (lv_at hl 1 rfl) ?_
  refine mp_iret hx hb hr hlocks hI (Nat.le_of_ble_eq_true rfl) (Nat.le_of_ble_eq_true rfl) ?_ d_M_value_127
  exact ⟨rfl, h_o, hfr⟩
