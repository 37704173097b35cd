theorem d_B_at_0 : decode b_B_at 0 = .ok (.aload_n 0, 1) := by decide +kernel
theorem d_B_at_1 : decode b_B_at 1 = .ok (.invokevirtual 114, 3) := by decide +kernel
theorem d_B_known_0 : decode b_B_known 0 = .ok (.aload_n 0, 1) := by decide +kernel
theorem d_B_known_1 : decode b_B_known 1 = .ok (.getfield 91, 3) := by decide +kernel
theorem d_B_known_4 : decode b_B_known 4 = .ok (.ifCond .eq 17, 3) := by decide +kernel
theorem d_B_known_7 : decode b_B_known 7 = .ok (.aload_n 0, 1) := by decide +kernel
theorem d_B_known_8 : decode b_B_known 8 = .ok (.getfield 111, 3) := by decide +kernel
theorem d_B_known_11 : decode b_B_known 11 = .ok (.ifCond .lt 10, 3) := by decide +kernel
theorem d_B_known_14 : decode b_B_known 14 = .ok (.aload_n 0, 1) := by decide +kernel
theorem d_B_known_15 : decode b_B_known 15 = .ok (.getfield 95, 3) := by decide +kernel
theorem d_B_known_18 : decode b_B_known 18 = .ok (.ifnonnull 13, 3) := by decide +kernel
theorem d_B_known_21 : decode b_B_known 21 = .ok (.new 43, 3) := by decide +kernel
theorem d_B_known_24 : decode b_B_known 24 = .ok (.dup, 1) := by decide +kernel
theorem d_B_known_25 : decode b_B_known 25 = .ok (.ldc 177, 2) := by decide +kernel
theorem d_B_known_27 : decode b_B_known 27 = .ok (.invokespecial 47, 3) := by decide +kernel
theorem d_B_known_30 : decode b_B_known 30 = .ok (.athrow, 1) := by decide +kernel
theorem d_B_left_0 : decode b_B_left 0 = .ok (.aload_n 0, 1) := by decide +kernel
theorem d_B_left_1 : decode b_B_left 1 = .ok (.invokevirtual 114, 3) := by decide +kernel
theorem d_B_minimal_0 : decode b_B_minimal 0 = .ok (.aload_n 0, 1) := by decide +kernel
theorem d_B_minimal_1 : decode b_B_minimal 1 = .ok (.invokevirtual 114, 3) := by decide +kernel
theorem d_B_multiplicity_0 : decode b_B_multiplicity 0 = .ok (.aload_n 0, 1) := by decide +kernel
theorem d_B_multiplicity_1 : decode b_B_multiplicity 1 = .ok (.invokevirtual 114, 3) := by decide +kernel
theorem d_B_poly_0 : decode b_B_poly 0 = .ok (.aload_n 0, 1) := by decide +kernel
theorem d_B_poly_1 : decode b_B_poly 1 = .ok (.getfield 40, 3) := by decide +kernel
theorem d_B_poly_4 : decode b_B_poly 4 = .ok (.ifCond .lt 12, 3) := by decide +kernel
theorem d_B_poly_7 : decode b_B_poly 7 = .ok (.aload_n 0, 1) := by decide +kernel
theorem d_B_poly_8 : decode b_B_poly 8 = .ok (.getfield 40, 3) := by decide +kernel
theorem d_B_poly_11 : decode b_B_poly 11 = .ok (.bipush 40, 2) := by decide +kernel
theorem d_B_poly_13 : decode b_B_poly 13 = .ok (.if_icmp .lt 13, 3) := by decide +kernel
theorem d_B_poly_16 : decode b_B_poly 16 = .ok (.new 43, 3) := by decide +kernel
theorem d_B_poly_19 : decode b_B_poly 19 = .ok (.dup, 1) := by decide +kernel
theorem d_B_poly_20 : decode b_B_poly 20 = .ok (.ldc 45, 2) := by decide +kernel
theorem d_B_poly_22 : decode b_B_poly 22 = .ok (.invokespecial 47, 3) := by decide +kernel
theorem d_B_poly_25 : decode b_B_poly 25 = .ok (.athrow, 1) := by decide +kernel
theorem d_B_polynomialOf_0 : decode b_B_polynomialOf 0 = .ok (.iload_n 1, 1) := by decide +kernel
theorem d_B_polynomialOf_1 : decode b_B_polynomialOf 1 = .ok (.ifCond .lt 9, 3) := by decide +kernel
theorem d_B_polynomialOf_4 : decode b_B_polynomialOf 4 = .ok (.iload_n 1, 1) := by decide +kernel
theorem d_B_polynomialOf_5 : decode b_B_polynomialOf 5 = .ok (.bipush 40, 2) := by decide +kernel
theorem d_B_polynomialOf_7 : decode b_B_polynomialOf 7 = .ok (.if_icmp .lt 13, 3) := by decide +kernel
theorem d_B_polynomialOf_10 : decode b_B_polynomialOf 10 = .ok (.new 170, 3) := by decide +kernel
theorem d_B_polynomialOf_13 : decode b_B_polynomialOf 13 = .ok (.dup, 1) := by decide +kernel
theorem d_B_polynomialOf_14 : decode b_B_polynomialOf 14 = .ok (.ldc 172, 2) := by decide +kernel
theorem d_B_polynomialOf_16 : decode b_B_polynomialOf 16 = .ok (.invokespecial 174, 3) := by decide +kernel
theorem d_B_polynomialOf_19 : decode b_B_polynomialOf 19 = .ok (.athrow, 1) := by decide +kernel
theorem d_B_polynomialOf_20 : decode b_B_polynomialOf 20 = .ok (.aload_n 0, 1) := by decide +kernel
theorem d_B_polynomialOf_21 : decode b_B_polynomialOf 21 = .ok (.getfield 11, 3) := by decide +kernel
theorem d_B_polynomialOf_24 : decode b_B_polynomialOf 24 = .ok (.iload_n 1, 1) := by decide +kernel
theorem d_B_polynomialOf_25 : decode b_B_polynomialOf 25 = .ok (.aaload, 1) := by decide +kernel
theorem d_B_polynomialOf_26 : decode b_B_polynomialOf 26 = .ok (.areturn, 1) := by decide +kernel
theorem d_B_total_0 : decode b_B_total 0 = .ok (.aload_n 0, 1) := by decide +kernel
theorem d_B_total_1 : decode b_B_total 1 = .ok (.invokevirtual 114, 3) := by decide +kernel
theorem d_B_value_0 : decode b_B_value 0 = .ok (.aload_n 0, 1) := by decide +kernel
theorem d_B_value_1 : decode b_B_value 1 = .ok (.invokevirtual 114, 3) := by decide +kernel
theorem noh {c : Code} (h : c.exceptionTable.isEmpty = true) {k : Nat} : ∀ x ∈ c.exceptionTable.toList, covers x k = false := by
  intro x hx
  rw [Array.isEmpty_iff.mp h] at hx
  simp at hx
set_option maxHeartbeats 4000000 in
set_option maxRecDepth 100000 in
/-- only reads -/
theorem p_W_key (l : Launch) (D : mp_G) (g : Nat → ClassId) (S : mp_M) (sz : Nat) (a b d : Nat)  (ha : a < 32) (hb9 : b < 32) (hd : d < 32) : Met l y_W_key w_W_key ({ frames := 0, cells := 0, slots := 0, locals := 0 }) (va_Pc [.int (nI a), .int (nI b), .int (nI d)] (mp_B0 D classes (tys g) S sz)) (vp_Si (fun (r : Int32) => r = nI (kN a b d))) 0 0 (fun _ => False) := by
  refine Met.ofW (cc := b_W_key) (maxL := 3) (ret := (some .int)) (by decide) rfl ?_
  intro p e s m args below meth c s₁ B hml hv
  obtain ⟨rfl, hsz, hH, hK⟩ := hv
  have hx := B.exec
  have hb := B.bytes
  have hr := B.returns
  have hts := atoms_spec (ws := w_W_key) B.pre
  have hg : ∀ w ∈ gw, w.before _ s = true := fun w h => hts w (List.mem_cons_of_mem _ h)
  have hown : s.vm.findClass R_W = some m.cls := findClass_of_methodNamed B.named
  have hlocks := B.notSynchronized
  subst hsz
  have hI := mp_I.start hH
  have hl := lv_entry ([.int (nI a), .int (nI b), .int (nI d)]) (n := 3) (Nat.le_of_ble_eq_true rfl)
  rw [lg_entry_eq]
  generalize (lg_sl ([.int (nI a), .int (nI b), .int (nI d)]) ++ List.replicate (3 - (lg_sl ([.int (nI a), .int (nI b), .int (nI d)])).length) Slot.unset).toArray = ls at hl ⊢
  have hl : lv_has ls 3 [(0, .int (nI a)), (1, .int (nI b)), (2, .int (nI d))] := hl
  refine lv_iload_n hx hb d_W_key_0 rfl (lv_at hl 0 rfl) ?_
  refine lv_iload_n hx hb d_W_key_1 rfl (lv_at hl 1 rfl) ?_
  refine lv_iadd hx hb d_W_key_2 ?_
  refine lv_topi (fun v1 ev1 => ?_)
  obtain rfl : v1 = nI (a + b) := ev1.trans (nI_add _ _)
  refine lv_iload_n hx hb d_W_key_3 rfl (lv_at hl 2 rfl) ?_
  refine lv_iadd hx hb d_W_key_4 ?_
  refine lv_topi (fun v2 ev2 => ?_)
  obtain rfl : v2 = nI ((a + b) + d) := ev2.trans (nI_add _ _)
  refine lv_bipush (v := nI 10) hx hb d_W_key_5 (by decide) ?_
  refine lv_ishl hx hb d_W_key_7 ?_
  refine lv_iload_n hx hb d_W_key_8 rfl (lv_at hl 0 rfl) ?_
  refine lv_iconst (v := nI 5) hx hb d_W_key_9 (by decide) ?_
  refine lv_ishl hx hb d_W_key_10 ?_
  refine lv_ior hx hb d_W_key_11 ?_
  refine lv_iload_n hx hb d_W_key_12 rfl (lv_at hl 1 rfl) ?_
  refine lv_ior hx hb d_W_key_13 ?_
  exact pp_iret hx hb hr hlocks (kN_or ha hb9 hd) d_W_key_14
set_option maxHeartbeats 4000000 in
set_option maxRecDepth 100000 in
/-- only reads -/
theorem p_W_keyOfN (l : Launch) (D : mp_G) (g : Nat → ClassId) (S : mp_M) (sz : Nat) (x : Int32) (n : Nat)  (hx9 : x < 0) : Met l y_W_keyOf w_W_keyOf ({ frames := 1, cells := 0, slots := 0, locals := 22 }) (va_Pc [.int x, .int (nI n)] (mp_B0 D classes (tys g) S sz)) (vp_Si (fun (r : Int32) => r = -1)) 0 0 (fun _ => False) := by
  refine Met.ofW (cc := b_W_keyOf) (maxL := 6) (ret := (some .int)) (by decide) rfl ?_
  intro p e s m args below meth c s₁ B hml hv
  obtain ⟨rfl, hsz, hH, hK⟩ := hv
  have hx := B.exec
  have hb := B.bytes
  have hr := B.returns
  have hts := atoms_spec (ws := w_W_keyOf) B.pre
  have hg : ∀ w ∈ gw, w.before _ s = true := fun w h => hts w (List.mem_cons_of_mem _ h)
  have hown : s.vm.findClass R_W = some m.cls := findClass_of_methodNamed B.named
  have hlocks := B.notSynchronized
  subst hsz
  have hI := mp_I.start hH
  have hl := lv_entry ([.int x, .int (nI n)]) (n := 6) (Nat.le_of_ble_eq_true rfl)
  rw [lg_entry_eq]
  generalize (lg_sl ([.int x, .int (nI n)]) ++ List.replicate (6 - (lg_sl ([.int x, .int (nI n)])).length) Slot.unset).toArray = ls at hl ⊢
  have hl : lv_has ls 6 [(0, .int x), (1, .int (nI n))] := hl
  refine lv_iload_n hx hb d_W_keyOf_0 rfl (lv_at hl 0 rfl) ?_
  refine lv_if_lt (tgt := 12) hx hb d_W_keyOf_1 (by decide) (fun _ => ?_) (fun h9 => absurd (hx9) h9)
  refine lv_iconst (v := (-1)) hx hb d_W_keyOf_12 (by decide) ?_
  exact pp_iret hx hb hr hlocks (rfl) d_W_keyOf_13
set_option maxHeartbeats 4000000 in
set_option maxRecDepth 100000 in
/-- only reads -/
theorem p_W_keyOf (l : Launch) (D : mp_G) (g : Nat → ClassId) (S : mp_M) (sz : Nat) (v n : Nat)  (hv : v < 2 ^ 31) (hn : n < 4) (hn0 : 0 < n) : Met l y_W_keyOf w_W_keyOf ({ frames := 1, cells := 0, slots := 0, locals := 22 }) (va_Pc [.int (nI v), .int (nI n)] (mp_B0 D classes (tys g) S sz)) (vp_Si (fun (r : Int32) => (pwOk n v ∧ r = nI (kN (v % 16) (v / 16 % 16) (v / 256))) ∨ (¬ pwOk n v ∧ r = -1))) 0 0 (fun _ => False) := by
  refine Met.ofW (cc := b_W_keyOf) (maxL := 6) (ret := (some .int)) (by decide) rfl ?_
  intro p e s m args below meth c s₁ B hml hv
  obtain ⟨rfl, hsz, hH, hK⟩ := hv
  have hx := B.exec
  have hb := B.bytes
  have hr := B.returns
  have hts := atoms_spec (ws := w_W_keyOf) B.pre
  have hg : ∀ w ∈ gw, w.before _ s = true := fun w h => hts w (List.mem_cons_of_mem _ h)
  have hown : s.vm.findClass R_W = some m.cls := findClass_of_methodNamed B.named
  have hlocks := B.notSynchronized
  subst hsz
  have hI := mp_I.start hH
  have hl := lv_entry ([.int (nI v), .int (nI n)]) (n := 6) (Nat.le_of_ble_eq_true rfl)
  rw [lg_entry_eq]
  generalize (lg_sl ([.int (nI v), .int (nI n)]) ++ List.replicate (6 - (lg_sl ([.int (nI v), .int (nI n)])).length) Slot.unset).toArray = ls at hl ⊢
  have hl : lv_has ls 6 [(0, .int (nI v)), (1, .int (nI n))] := hl
  refine lv_iload_n hx hb d_W_keyOf_0 rfl (lv_at hl 0 rfl) ?_
  refine lv_if_lt (tgt := 12) hx hb d_W_keyOf_1 (by decide) (fun h9 => absurd h9 (nI_pos hv)) (fun _ => ?_)
  refine lv_iload_n hx hb d_W_keyOf_4 rfl (lv_at hl 0 rfl) ?_
  refine lv_iconst (v := nI 4) hx hb d_W_keyOf_5 (by decide) ?_
  refine lv_iload_n hx hb d_W_keyOf_6 rfl (lv_at hl 1 rfl) ?_
  refine lv_imul hx hb d_W_keyOf_7 ?_
  refine lv_topi (fun v1 ev1 => ?_)
  obtain rfl : v1 = nI (4 * n) := ev1.trans (pk_mul _ _)
  refine lv_ishr hx hb d_W_keyOf_8 ?_
  refine lv_topi (fun v2 ev2 => ?_)
  obtain rfl : v2 = nI (v / 2 ^ (4 * n)) := ev2.trans (pk_shrN hv _ _ (sh4n hn))
  have hdv : v / 2 ^ (4 * n) < 2 ^ 31 := Nat.lt_of_le_of_lt (Nat.div_le_self _ _) hv
  refine lv_if_eq (tgt := 14) hx hb d_W_keyOf_9 (by decide) (fun c1 => ?_) (fun c1 => ?_)
  · rw [zI_eq (by omega)] at c1
    refine lv_iload_n hx hb d_W_keyOf_14 rfl (lv_at hl 0 rfl) ?_
    refine lv_bipush (v := nI 15) hx hb d_W_keyOf_15 (by decide) ?_
    refine lv_iand hx hb d_W_keyOf_17 ?_
    refine lv_topi (fun v3 ev3 => ?_)
    obtain rfl : v3 = nI (v % 16) := ev3.trans (pk_andN (by omega) 4 s15m)
    refine lv_istore_n (lv' := [(2, .int (nI (v % 16))), (0, .int (nI v)), (1, .int (nI n))]) hx hb d_W_keyOf_18 rfl hl (by decide) rfl (fun ls hl => ?_)
    refine lv_iload_n hx hb d_W_keyOf_19 rfl (lv_at hl 1 rfl) ?_
    refine lv_iconst (v := nI 4) hx hb d_W_keyOf_20 (by decide) ?_
    refine lv_ishr hx hb d_W_keyOf_21 ?_
    refine lv_topi (fun v4 ev4 => ?_)
    obtain rfl : v4 = nI (v / 16) := ev4.trans (pk_shrN hv _ 4 sh4)
    refine lv_bipush (v := nI 15) hx hb d_W_keyOf_22 (by decide) ?_
    refine lv_iand hx hb d_W_keyOf_24 ?_
    refine lv_topi (fun v5 ev5 => ?_)
    obtain rfl : v5 = nI (v / 16 % 16) := ev5.trans (pk_andN (by omega) 4 s15m)
    refine lv_istore_n (lv' := [(3, .int (nI (v / 16 % 16))), (2, .int (nI (v % 16))), (0, .int (nI v)), (1, .int (nI n))]) hx hb d_W_keyOf_25 rfl hl (by decide) rfl (fun ls hl => ?_)
    refine lv_iload_n hx hb d_W_keyOf_26 rfl (lv_at hl 2 rfl) ?_
    refine lv_bipush (v := nI 8) hx hb d_W_keyOf_27 (by decide) ?_
    refine lv_ishr hx hb d_W_keyOf_29 ?_
    refine lv_topi (fun v6 ev6 => ?_)
    obtain rfl : v6 = nI (v / 256) := ev6.trans (pk_shrN hv _ 8 sh8)
    refine lv_istore (lv' := [(4, .int (nI (v / 256))), (3, .int (nI (v / 16 % 16))), (2, .int (nI (v % 16))), (0, .int (nI v)), (1, .int (nI n))]) hx hb d_W_keyOf_30 hl (by decide) rfl (fun ls hl => ?_)
    refine lv_iload_n hx hb d_W_keyOf_32 rfl (lv_at hl 2 rfl) ?_
    refine lv_bipush (v := nI 9) hx hb d_W_keyOf_33 (by decide) ?_
    refine lv_icmp_gt (tgt := 55) hx hb d_W_keyOf_35 (by decide) (fun c2 => ?_) (fun c2 => ?_)
    · rw [nI_ltI (by omega) (by omega)] at c2
      refine lv_iconst (v := nI 0) hx hb d_W_keyOf_55 (by decide) ?_
      refine lv_istore (lv' := [(5, .int (nI 0)), (4, .int (nI (v / 256))), (3, .int (nI (v / 16 % 16))), (2, .int (nI (v % 16))), (0, .int (nI v)), (1, .int (nI n))]) hx hb d_W_keyOf_56 hl (by decide) rfl (fun ls hl => ?_)
      refine lv_iload hx hb d_W_keyOf_58 (lv_at hl 0 rfl) ?_
      refine lv_if_eq (tgt := 73) hx hb d_W_keyOf_60 (by decide) (fun _ => ?_) (fun h9 => absurd (nI_0) h9)
      refine lv_iconst (v := (-1)) hx hb d_W_keyOf_73 (by decide) ?_
      exact pp_iret hx hb hr hlocks (Or.inr ⟨fun q => absurd c2 (by have := q.2; omega), rfl⟩) d_W_keyOf_74
    · rw [nI_ltI (by omega) (by omega)] at c2
      refine lv_iload_n hx hb d_W_keyOf_38 rfl (lv_at hl 1 rfl) ?_
      refine lv_bipush (v := nI 9) hx hb d_W_keyOf_39 (by decide) ?_
      refine lv_icmp_gt (tgt := 55) hx hb d_W_keyOf_41 (by decide) (fun c3 => ?_) (fun c3 => ?_)
      · rw [nI_ltI (by omega) (by omega)] at c3
        refine lv_iconst (v := nI 0) hx hb d_W_keyOf_55 (by decide) ?_
        refine lv_istore (lv' := [(5, .int (nI 0)), (4, .int (nI (v / 256))), (3, .int (nI (v / 16 % 16))), (2, .int (nI (v % 16))), (0, .int (nI v)), (1, .int (nI n))]) hx hb d_W_keyOf_56 hl (by decide) rfl (fun ls hl => ?_)
        refine lv_iload hx hb d_W_keyOf_58 (lv_at hl 0 rfl) ?_
        refine lv_if_eq (tgt := 73) hx hb d_W_keyOf_60 (by decide) (fun _ => ?_) (fun h9 => absurd (nI_0) h9)
        refine lv_iconst (v := (-1)) hx hb d_W_keyOf_73 (by decide) ?_
        exact pp_iret hx hb hr hlocks (Or.inr ⟨fun q => absurd c3 (by have := q.2; omega), rfl⟩) d_W_keyOf_74
      · rw [nI_ltI (by omega) (by omega)] at c3
        refine lv_iload hx hb d_W_keyOf_44 (lv_at hl 0 rfl) ?_
        refine lv_bipush (v := nI 9) hx hb d_W_keyOf_46 (by decide) ?_
        refine lv_icmp_gt (tgt := 55) hx hb d_W_keyOf_48 (by decide) (fun c4 => ?_) (fun c4 => ?_)
        · rw [nI_ltI (by omega) (by omega)] at c4
          refine lv_iconst (v := nI 0) hx hb d_W_keyOf_55 (by decide) ?_
          refine lv_istore (lv' := [(5, .int (nI 0)), (4, .int (nI (v / 256))), (3, .int (nI (v / 16 % 16))), (2, .int (nI (v % 16))), (0, .int (nI v)), (1, .int (nI n))]) hx hb d_W_keyOf_56 hl (by decide) rfl (fun ls hl => ?_)
          refine lv_iload hx hb d_W_keyOf_58 (lv_at hl 0 rfl) ?_
          refine lv_if_eq (tgt := 73) hx hb d_W_keyOf_60 (by decide) (fun _ => ?_) (fun h9 => absurd (nI_0) h9)
          refine lv_iconst (v := (-1)) hx hb d_W_keyOf_73 (by decide) ?_
          exact pp_iret hx hb hr hlocks (Or.inr ⟨fun q => absurd c4 (by have := q.2; omega), rfl⟩) d_W_keyOf_74
        · rw [nI_ltI (by omega) (by omega)] at c4
          refine lv_iconst (v := nI 1) hx hb d_W_keyOf_51 (by decide) ?_
          refine lv_goto (tgt := 56) hx hb d_W_keyOf_52 (by decide) ?_
          refine lv_istore (lv' := [(5, .int (nI 1)), (4, .int (nI (v / 256))), (3, .int (nI (v / 16 % 16))), (2, .int (nI (v % 16))), (0, .int (nI v)), (1, .int (nI n))]) hx hb d_W_keyOf_56 hl (by decide) rfl (fun ls hl => ?_)
          refine lv_iload hx hb d_W_keyOf_58 (lv_at hl 0 rfl) ?_
          refine lv_if_eq (tgt := 73) hx hb d_W_keyOf_60 (by decide) (fun h9 => absurd h9 (by decide)) (fun _ => ?_)
          refine lv_iload_n hx hb d_W_keyOf_63 rfl (lv_at hl 3 rfl) ?_
          refine lv_iload_n hx hb d_W_keyOf_64 rfl (lv_at hl 2 rfl) ?_
          refine lv_iload hx hb d_W_keyOf_65 (lv_at hl 1 rfl) ?_
          refine pp_calli (va_runS (As := [.int (nI (v % 16)), .int (nI (v / 16 % 16)), .int (nI (v / 256))]) (rest := []) ⟨hx, hb, hml, hown, hg⟩ (p_W_key l D g S _ (v % 16) (v / 16 % 16) (v / 256) (by omega) (by omega) (by omega)) ⟨(callB_of 3 hg (wd_goodG q_183) rfl rfl rfl (hg _ q_11) (hg _ q_329) (by decide +kernel) ⟨Nat.le_of_ble_eq_true rfl, Nat.le_of_ble_eq_true rfl⟩), hg _ q_182⟩ (mp_pre hI hK [.int (nI (v % 16)), .int (nI (v / 16 % 16)), .int (nI (v / 256))]) rfl rfl hl.1 rfl (lv_room (Nat.le_of_ble_eq_true rfl)) d_W_keyOf_67 ⟨Nat.le_of_ble_eq_true rfl, Nat.le_of_ble_eq_true rfl⟩) (fun r7 er7 => ?_)
          have er7 : r7 = nI (kN (v % 16) (v / 16 % 16) (v / 256)) := er7
          subst er7
          refine lv_goto (tgt := 74) hx hb d_W_keyOf_70 (by decide) ?_
          exact pp_iret hx hb hr hlocks (Or.inl ⟨⟨c1, by omega, by omega, by omega⟩, rfl⟩) d_W_keyOf_74
  · rw [zI_eq (by omega)] at c1
    refine lv_iconst (v := (-1)) hx hb d_W_keyOf_12 (by decide) ?_
    exact pp_iret hx hb hr hlocks (Or.inr ⟨fun q => c1 q.1, rfl⟩) d_W_keyOf_13
set_option maxHeartbeats 4000000 in
set_option maxRecDepth 100000 in
/-- only reads -/
theorem p_X_floorMod (l : Launch) (D : mp_G) (g : Nat → ClassId) (S : mp_M) (sz : Nat) (x : Int64)   : Met l y_X_floorMod w_X_floorMod ({ frames := 0, cells := 0, slots := 0, locals := 0 }) (va_Pc [.long x, .long (lN 32003)] (mp_B0 D classes (tys g) S sz)) (vp_Sl (fun (r : Int64) => r = lN (rsN x))) 0 0 (fun _ => False) := by
  refine va_MetF (cc := b_X_floorMod) (maxL := 6) (ret := (some .long)) (by decide +kernel) rfl ?_
  intro p e s m args below meth c s₁ B hml hv
  obtain ⟨rfl, hsz, hH, hK⟩ := hv
  have hx := B.exec
  have hb := B.bytes
  have hr := B.returns
  have hts := atoms_spec (ws := w_X_floorMod) B.pre
  have hg : ∀ w ∈ gw, w.before _ s = true := fun w h => hts w (List.mem_cons_of_mem _ h)
  have hown : s.vm.findClass R_X = some m.cls := findClass_of_methodNamed B.named
  have hlocks := B.notSynchronized
  subst hsz
  have hI := mp_I.start hH
  have hl := lv_entry ([.long x, .long (lN 32003)]) (n := 6) (Nat.le_of_ble_eq_true rfl)
  rw [lg_entry_eq]
  generalize (lg_sl ([.long x, .long (lN 32003)]) ++ List.replicate (6 - (lg_sl ([.long x, .long (lN 32003)])).length) Slot.unset).toArray = ls at hl ⊢
  have hl : lv_has ls 6 [(0, .long x), (2, .long (lN 32003))] := hl
  refine lv_lload_n hx hb d_X_floorMod_0 rfl (lv_at hl 0 rfl) ?_
  refine lv_lload_n hx hb d_X_floorMod_1 rfl (lv_at hl 1 rfl) ?_
  refine lv_lrem hx hb d_X_floorMod_2 (by decide) ?_
  refine lv_lstore (lv' := [(4, .long (x - x / lN 32003 * lN 32003)), (0, .long x), (2, .long (lN 32003))]) hx hb d_X_floorMod_3 hl (by decide) rfl (fun ls hl => ?_)
  refine lv_lload_n hx hb d_X_floorMod_5 rfl (lv_at hl 1 rfl) ?_
  refine lv_lload_n hx hb d_X_floorMod_6 rfl (lv_at hl 2 rfl) ?_
  refine lv_lxor hx hb d_X_floorMod_7 ?_
  refine lv_lconst (v := lN 0) hx hb d_X_floorMod_8 (by decide) ?_
  refine W.lcmp hx hb d_X_floorMod_9 ?_
  refine lv_if_ge (tgt := 25) hx hb d_X_floorMod_10 (by decide) (fun c1 => ?_) (fun c1 => ?_)
  · rw [lg_cmp_ge] at c1
    refine lv_lload hx hb d_X_floorMod_25 (lv_at hl 0 rfl) ?_
    exact pp_lret hx hb hr hlocks (fm_a (fun q => Int64.not_le.mpr ((xs_neg x).mpr q) c1)) d_X_floorMod_27
  · rw [lg_cmp_ge] at c1
    refine lv_lload hx hb d_X_floorMod_13 (lv_at hl 0 rfl) ?_
    refine lv_lconst (v := lN 0) hx hb d_X_floorMod_15 (by decide) ?_
    refine W.lcmp hx hb d_X_floorMod_16 ?_
    refine lv_if_eq (tgt := 25) hx hb d_X_floorMod_17 (by decide) (fun c2 => ?_) (fun c2 => ?_)
    · rw [lg_cmp_eq] at c2
      refine lv_lload hx hb d_X_floorMod_25 (lv_at hl 0 rfl) ?_
      exact pp_lret hx hb hr hlocks (fm_z c2) d_X_floorMod_27
    · rw [lg_cmp_eq] at c2
      refine lv_lload hx hb d_X_floorMod_20 (lv_at hl 0 rfl) ?_
      refine lv_lload_n hx hb d_X_floorMod_22 rfl (lv_at hl 2 rfl) ?_
      refine lv_ladd hx hb d_X_floorMod_23 ?_
      exact pp_lret hx hb hr hlocks (fm_b ((xs_neg x).mp (Int64.not_le.mp c1)) c2) d_X_floorMod_24
set_option maxHeartbeats 4000000 in
set_option maxRecDepth 100000 in
/-- only reads -/
theorem p_B_numberOf (l : Launch) (D : mp_G) (g : Nat → ClassId) (S : mp_M) (sz : Nat) (x : Int64)   : Met l y_B_numberOf w_B_numberOf ({ frames := 1, cells := 0, slots := 0, locals := 25 }) (va_Pc [.long x] (mp_B0 D classes (tys g) S sz)) (vp_Si (fun (r : Int32) => r = nI (rsN x))) 0 0 (fun _ => False) := by
  refine Met.ofW (cc := b_B_numberOf) (maxL := 2) (ret := (some .int)) (by decide) rfl ?_
  intro p e s m args below meth c s₁ B hml hv
  obtain ⟨rfl, hsz, hH, hK⟩ := hv
  have hx := B.exec
  have hb := B.bytes
  have hr := B.returns
  have hts := atoms_spec (ws := w_B_numberOf) B.pre
  have hg : ∀ w ∈ gw, w.before _ s = true := fun w h => hts w (List.mem_cons_of_mem _ h)
  have hown : s.vm.findClass R_B = some m.cls := findClass_of_methodNamed B.named
  have hlocks := B.notSynchronized
  subst hsz
  have hI := mp_I.start hH
  have hl := lv_entry ([.long x]) (n := 2) (Nat.le_of_ble_eq_true rfl)
  rw [lg_entry_eq]
  generalize (lg_sl ([.long x]) ++ List.replicate (2 - (lg_sl ([.long x])).length) Slot.unset).toArray = ls at hl ⊢
  have hl : lv_has ls 2 [(0, .long x)] := hl
  refine lv_lload_n hx hb d_B_numberOf_0 rfl (lv_at hl 0 rfl) ?_
  refine lv_ldc2 (v := lN 32003) hx hb hown (hg _ q_671) d_B_numberOf_1 ?_
  refine pp_calll (va_runS (As := [.long x, .long (lN 32003)]) (rest := []) ⟨hx, hb, hml, hown, hg⟩ (p_X_floorMod l D g S _ x) ⟨(callB_of 2 hg (wd_goodG q_674) rfl rfl rfl (hg _ q_4) (hg _ q_672) (by decide +kernel) ⟨Nat.le_of_ble_eq_true rfl, Nat.le_of_ble_eq_true rfl⟩), hg _ q_673⟩ (mp_pre hI hK [.long x, .long (lN 32003)]) rfl rfl hl.1 rfl (lv_room (Nat.le_of_ble_eq_true rfl)) d_B_numberOf_4 ⟨Nat.le_of_ble_eq_true rfl, Nat.le_of_ble_eq_true rfl⟩) (fun r1 er1 => ?_)
  have er1 : r1 = lN (rsN x) := er1
  subst er1
  refine lv_l2i (v := nI (rsN x)) hx hb d_B_numberOf_7 (lN_i _) ?_
  exact pp_iret hx hb hr hlocks (rfl) d_B_numberOf_8
set_option maxHeartbeats 4000000 in
set_option maxRecDepth 100000 in
/-- only reads -/
theorem p_B_polynomialOf (l : Launch) (D : mp_G) (g : Nat → ClassId) (S : mp_M) (sz : Nat) (o pa : Nat) (eo : Nat → Nat) (v0 v2 v3 v4 v5 v6 v7 v8 v9 : Value) (k : Nat) (h_o : S o = some (0, .inr (0, [v0, .ref pa, v2, v3, v4, v5, v6, v7, v8, v9]))) (h_pa : S pa = some (1, .inl ((g 2), 40, .inr (.inr (.inr (.inr (rfs eo 40))))))) (hk : k < 40) : Met l y_B_polynomialOf w_B_polynomialOf ({ frames := 0, cells := 0, slots := 0, locals := 0 }) (va_Pc [.ref o, .int (nI k)] (mp_B0 D classes (tys g) S sz)) (pp_Qr (fun (r : Nat) => r = eo k)) 0 0 (fun _ => False) := by
  refine Met.ofW (cc := b_B_polynomialOf) (maxL := 2) (ret := (some (.object "SolutionBoxes$Polynomial"))) (by decide) rfl ?_
  intro p e s m args below meth c s₁ B hml hv
  obtain ⟨rfl, hsz, hH, hK⟩ := hv
  have hx := B.exec
  have hb := B.bytes
  have hr := B.returns
  have hts := atoms_spec (ws := w_B_polynomialOf) B.pre
  have hg : ∀ w ∈ gw, w.before _ s = true := fun w h => hts w (List.mem_cons_of_mem _ h)
  have hown : s.vm.findClass R_B = some m.cls := findClass_of_methodNamed B.named
  have hlocks := B.notSynchronized
  subst hsz
  have hI := mp_I.start hH
  have hl := lv_entry ([.ref o, .int (nI k)]) (n := 2) (Nat.le_of_ble_eq_true rfl)
  rw [lg_entry_eq]
  generalize (lg_sl ([.ref o, .int (nI k)]) ++ List.replicate (2 - (lg_sl ([.ref o, .int (nI k)])).length) Slot.unset).toArray = ls at hl ⊢
  have hl : lv_has ls 2 [(0, .ref o), (1, .int (nI k))] := hl
  refine lv_iload_n hx hb d_B_polynomialOf_0 rfl (lv_at hl 1 rfl) ?_
  refine lv_if_lt (tgt := 10) hx hb d_B_polynomialOf_1 (by decide) (fun h9 => absurd h9 (nI_pos (by omega))) (fun _ => ?_)
  refine lv_iload_n hx hb d_B_polynomialOf_4 rfl (lv_at hl 1 rfl) ?_
  refine lv_bipush (v := nI 40) hx hb d_B_polynomialOf_5 (by decide) ?_
  refine lv_icmp_lt (tgt := 20) hx hb d_B_polynomialOf_7 (by decide) (fun _ => ?_) (fun h9 => absurd ((nI_ltI (by omega) (by omega)).mpr hk) h9)
  refine lv_aload_n hx hb d_B_polynomialOf_20 rfl (lv_at hl 0 rfl) ?_
  refine mp_get (C := R_B) (T := F_B) (N := 10) (v := .ref pa) hx hb hg i_B hown hK.va hI h_o rfl 1 (by decide) (hg _ q_83) (fun _ h9 => h9) rfl d_B_polynomialOf_21 ?_
  refine lv_iload_n hx hb d_B_polynomialOf_24 rfl (lv_at hl 1 rfl) ?_
  refine mp_aldq (b := eo k) hx hb hK.va hI 2 h_pa rfl (vp_in_nI hk (by decide)) (by rw [nI_clamp (by omega)]; exact rfs_at hk) d_B_polynomialOf_25 ?_
  exact pp_aret hx hb hr (Or.inl ⟨_, rfl⟩) hlocks rfl d_B_polynomialOf_26
set_option maxHeartbeats 4000000 in
set_option maxRecDepth 100000 in
/-- no such polynomial -/
theorem x_B_polynomialOf (l : Launch) (hl9 : l.stackTraces = false) (D : mp_G) (g : Nat → ClassId) (S : mp_M) (sz : Nat) (o pa : Nat) (v0 v2 v3 v4 v5 v6 v7 v8 v9 : Value) (x : Int32) (h_o : S o = some (0, .inr (0, [v0, .ref pa, v2, v3, v4, v5, v6, v7, v8, v9]))) (hx9 : x < 0 ∨ nI 40 ≤ x) : xp_Met l y_B_polynomialOf w_B_polynomialOf ({ frames := 6, cells := 1, slots := 6, locals := 90 }) (va_Pc [.ref o, .int x] (mp_B0 D classes (tys g) S sz)) "java/lang/IndexOutOfBoundsException" D classes S 1 6 := by
  refine xp_ofW (cc := b_B_polynomialOf) (maxL := 2) (ret := (some (.object "SolutionBoxes$Polynomial"))) (by decide) rfl ?_
  intro p e s m args below meth c s₁ B hml hv
  obtain ⟨rfl, hsz, hH, hK⟩ := hv
  have hx := B.exec
  have hb := B.bytes
  have hr := B.returns
  have hts := atoms_spec (ws := w_B_polynomialOf) B.pre
  have hg : ∀ w ∈ gw, w.before _ s = true := fun w h => hts w (List.mem_cons_of_mem _ h)
  have hown : s.vm.findClass R_B = some m.cls := findClass_of_methodNamed B.named
  have hlocks := B.notSynchronized
  have hne := B.noHandlers (hts _ List.mem_cons_self)
  subst hsz
  have hI := mp_I.start hH
  have hl := lv_entry ([.ref o, .int x]) (n := 2) (Nat.le_of_ble_eq_true rfl)
  rw [lg_entry_eq]
  generalize (lg_sl ([.ref o, .int x]) ++ List.replicate (2 - (lg_sl ([.ref o, .int x])).length) Slot.unset).toArray = ls at hl ⊢
  have hl : lv_has ls 2 [(0, .ref o), (1, .int x)] := hl
  refine lv_iload_n hx hb d_B_polynomialOf_0 rfl (lv_at hl 1 rfl) ?_
  refine lv_if_lt (tgt := 10) hx hb d_B_polynomialOf_1 (by decide) (fun c1 => ?_) (fun c1 => ?_)
  · obtain ⟨sa, hsa⟩ := xs_172 hK
    exact xp_throwS (names := ["java/lang/RuntimeException", "java/lang/Exception"]) hx hb hl9 hown (by decide +kernel) (by decide +kernel) (hg _ q_633) (hg _ q_10) hsa (xw_own hK hH xa_Ei) hH (hl.1.trans hml.symm) d_B_polynomialOf_10 d_B_polynomialOf_13 d_B_polynomialOf_14 d_B_polynomialOf_16 d_B_polynomialOf_19 (noh hne) (Nat.le_of_ble_eq_true rfl) (Nat.le_of_ble_eq_true rfl) (Nat.le_of_ble_eq_true rfl) (Nat.le_of_ble_eq_true rfl) hlocks
  · refine lv_iload_n hx hb d_B_polynomialOf_4 rfl (lv_at hl 1 rfl) ?_
    refine lv_bipush (v := nI 40) hx hb d_B_polynomialOf_5 (by decide) ?_
    refine lv_icmp_lt (tgt := 20) hx hb d_B_polynomialOf_7 (by decide) (fun c2 => ?_) (fun c2 => ?_)
    · exact absurd c2 (Int32.not_lt.mpr (hx9.resolve_left c1))
    · obtain ⟨sa, hsa⟩ := xs_172 hK
      exact xp_throwS (names := ["java/lang/RuntimeException", "java/lang/Exception"]) hx hb hl9 hown (by decide +kernel) (by decide +kernel) (hg _ q_633) (hg _ q_10) hsa (xw_own hK hH xa_Ei) hH (hl.1.trans hml.symm) d_B_polynomialOf_10 d_B_polynomialOf_13 d_B_polynomialOf_14 d_B_polynomialOf_16 d_B_polynomialOf_19 (noh hne) (Nat.le_of_ble_eq_true rfl) (Nat.le_of_ble_eq_true rfl) (Nat.le_of_ble_eq_true rfl) (Nat.le_of_ble_eq_true rfl) hlocks
set_option maxHeartbeats 4000000 in
set_option maxRecDepth 100000 in
/-- zeros are not known -/
theorem x_B_known (l : Launch) (hl9 : l.stackTraces = false) (D : mp_G) (g : Nat → ClassId) (S : mp_M) (sz : Nat) (o pa : Nat) (v0 v2 v3 v4 v5 v6 : Value) (an av : Int32) (sv : Option Nat) (h_o : S o = some (0, .inr (0, [v0, .ref pa, v2, v3, v4, v5, v6, .int an, .int av, (va_rf sv)]))) (hun : an = 0 ∨ av < 0 ∨ sv = none) : xp_Met l y_B_known w_B_known ({ frames := 6, cells := 1, slots := 6, locals := 90 }) (va_Pc [.ref o] (mp_B0 D classes (tys g) S sz)) "java/lang/IllegalStateException" D classes S 1 6 := by
  refine xp_ofW (cc := b_B_known) (maxL := 1) (ret := (some (.object "SolutionBoxes$Solver"))) (by decide) rfl ?_
  intro p e s m args below meth c s₁ B hml hv
  obtain ⟨rfl, hsz, hH, hK⟩ := hv
  have hx := B.exec
  have hb := B.bytes
  have hr := B.returns
  have hts := atoms_spec (ws := w_B_known) B.pre
  have hg : ∀ w ∈ gw, w.before _ s = true := fun w h => hts w (List.mem_cons_of_mem _ h)
  have hown : s.vm.findClass R_B = some m.cls := findClass_of_methodNamed B.named
  have hlocks := B.notSynchronized
  have hne := B.noHandlers (hts _ List.mem_cons_self)
  subst hsz
  have hI := mp_I.start hH
  have hl := lv_entry ([.ref o]) (n := 1) (Nat.le_of_ble_eq_true rfl)
  rw [lg_entry_eq]
  generalize (lg_sl ([.ref o]) ++ List.replicate (1 - (lg_sl ([.ref o])).length) Slot.unset).toArray = ls at hl ⊢
  have hl : lv_has ls 1 [(0, .ref o)] := hl
  refine lv_aload_n hx hb d_B_known_0 rfl (lv_at hl 0 rfl) ?_
  refine mp_get (C := R_B) (T := F_B) (N := 10) (v := .int an) hx hb hg i_B hown hK.va hI h_o rfl 7 (by decide) (hg _ q_89) (fun _ h9 => h9) rfl d_B_known_1 ?_
  refine lv_if_eq (tgt := 21) hx hb d_B_known_4 (by decide) (fun c1 => ?_) (fun c1 => ?_)
  · obtain ⟨sa, hsa⟩ := xs_177 hK
    exact xp_throwS (names := ["java/lang/RuntimeException", "java/lang/Exception"]) hx hb hl9 hown (by decide +kernel) (by decide +kernel) (hg _ q_550) (hg _ q_9) hsa (xw_own hK hH xa_Es) hH (hl.1.trans hml.symm) d_B_known_21 d_B_known_24 d_B_known_25 d_B_known_27 d_B_known_30 (noh hne) (Nat.le_of_ble_eq_true rfl) (Nat.le_of_ble_eq_true rfl) (Nat.le_of_ble_eq_true rfl) (Nat.le_of_ble_eq_true rfl) hlocks
  · refine lv_aload_n hx hb d_B_known_7 rfl (lv_at hl 0 rfl) ?_
    refine mp_get (C := R_B) (T := F_B) (N := 10) (v := .int av) hx hb hg i_B hown hK.va hI h_o rfl 8 (by decide) (hg _ q_90) (fun _ h9 => h9) rfl d_B_known_8 ?_
    refine lv_if_lt (tgt := 21) hx hb d_B_known_11 (by decide) (fun c2 => ?_) (fun c2 => ?_)
    · obtain ⟨sa, hsa⟩ := xs_177 hK
      exact xp_throwS (names := ["java/lang/RuntimeException", "java/lang/Exception"]) hx hb hl9 hown (by decide +kernel) (by decide +kernel) (hg _ q_550) (hg _ q_9) hsa (xw_own hK hH xa_Es) hH (hl.1.trans hml.symm) d_B_known_21 d_B_known_24 d_B_known_25 d_B_known_27 d_B_known_30 (noh hne) (Nat.le_of_ble_eq_true rfl) (Nat.le_of_ble_eq_true rfl) (Nat.le_of_ble_eq_true rfl) (Nat.le_of_ble_eq_true rfl) hlocks
    · obtain rfl : sv = none := (hun.resolve_left c1).resolve_left c2
      refine lv_aload_n hx hb d_B_known_14 rfl (lv_at hl 0 rfl) ?_
      refine mp_get (C := R_B) (T := F_B) (N := 10) (v := .null) hx hb hg i_B hown hK.va hI h_o rfl 9 (by decide) (hg _ q_91) (fun _ h9 => h9) rfl d_B_known_15 ?_
      refine lv_ifnonnullN hx hb d_B_known_18 ?_
      obtain ⟨sa, hsa⟩ := xs_177 hK
      exact xp_throwS (names := ["java/lang/RuntimeException", "java/lang/Exception"]) hx hb hl9 hown (by decide +kernel) (by decide +kernel) (hg _ q_550) (hg _ q_9) hsa (xw_own hK hH xa_Es) hH (hl.1.trans hml.symm) d_B_known_21 d_B_known_24 d_B_known_25 d_B_known_27 d_B_known_30 (noh hne) (Nat.le_of_ble_eq_true rfl) (Nat.le_of_ble_eq_true rfl) (Nat.le_of_ble_eq_true rfl) (Nat.le_of_ble_eq_true rfl) hlocks
set_option maxHeartbeats 4000000 in
set_option maxRecDepth 100000 in
/-- zeros are not known -/
theorem x_B_total (l : Launch) (hl9 : l.stackTraces = false) (D : mp_G) (g : Nat → ClassId) (S : mp_M) (sz : Nat) (o pa : Nat) (v0 v2 v3 v4 v5 v6 : Value) (an av : Int32) (sv : Option Nat)  (h_o : S o = some (0, .inr (0, [v0, .ref pa, v2, v3, v4, v5, v6, .int an, .int av, (va_rf sv)]))) (hun : an = 0 ∨ av < 0 ∨ sv = none) : xp_Met l y_B_total w_B_total ({ frames := 7, cells := 1, slots := 6, locals := 110 }) (va_Pc [.ref o] (mp_B0 D classes (tys g) S sz)) "java/lang/IllegalStateException" D classes S 1 6 := by
  refine xp_ofW (cc := b_B_total) (maxL := 1) (ret := (some .int)) (by decide) rfl ?_
  intro p e s m args below meth c s₁ B hml hv
  obtain ⟨rfl, hsz, hH, hK⟩ := hv
  have hx := B.exec
  have hb := B.bytes
  have hr := B.returns
  have hts := atoms_spec (ws := w_B_total) B.pre
  have hg : ∀ w ∈ gw, w.before _ s = true := fun w h => hts w (List.mem_cons_of_mem _ h)
  have hown : s.vm.findClass R_B = some m.cls := findClass_of_methodNamed B.named
  have hlocks := B.notSynchronized
  have hne := B.noHandlers (hts _ List.mem_cons_self)
  subst hsz
  have hI := mp_I.start hH
  have hl := lv_entry ([.ref o]) (n := 1) (Nat.le_of_ble_eq_true rfl)
  rw [lg_entry_eq]
  generalize (lg_sl ([.ref o]) ++ List.replicate (1 - (lg_sl ([.ref o])).length) Slot.unset).toArray = ls at hl ⊢
  have hl : lv_has ls 1 [(0, .ref o)] := hl
  refine lv_aload_n hx hb d_B_total_0 rfl (lv_at hl 0 rfl) ?_
  exact xp_out (mc := 1) (ms := 6) (noh hne) hlocks (xp_runV (As := []) (rest := []) ⟨hx, hb, hml, hown, hg⟩ (x_B_known l hl9 D g S _ o pa v0 v2 v3 v4 v5 v6 an av sv h_o hun) ⟨(callB_of 0 hg (wd_goodG q_742) rfl rfl rfl (hg _ q_1) (hg _ q_739) (by decide +kernel) ⟨Nat.le_of_ble_eq_true rfl, Nat.le_of_ble_eq_true rfl⟩), hg _ q_741, hg _ qs_23⟩ (mp_preV (C := R_B) (T := F_B) hI hK h_o rfl []) rfl hl.1 (lv_room (Nat.le_of_ble_eq_true rfl)) d_B_total_1 ⟨Nat.le_of_ble_eq_true rfl, Nat.le_of_ble_eq_true rfl⟩)
set_option maxHeartbeats 4000000 in
set_option maxRecDepth 100000 in
/-- zeros are not known -/
theorem x_B_left (l : Launch) (hl9 : l.stackTraces = false) (D : mp_G) (g : Nat → ClassId) (S : mp_M) (sz : Nat) (o pa : Nat) (v0 v2 v3 v4 v5 v6 : Value) (an av : Int32) (sv : Option Nat) (k : Int32) (h_o : S o = some (0, .inr (0, [v0, .ref pa, v2, v3, v4, v5, v6, .int an, .int av, (va_rf sv)]))) (hun : an = 0 ∨ av < 0 ∨ sv = none) : xp_Met l y_B_left w_B_left ({ frames := 7, cells := 1, slots := 6, locals := 110 }) (va_Pc [.ref o, .int k] (mp_B0 D classes (tys g) S sz)) "java/lang/IllegalStateException" D classes S 1 6 := by
  refine xp_ofW (cc := b_B_left) (maxL := 3) (ret := (some .int)) (by decide) rfl ?_
  intro p e s m args below meth c s₁ B hml hv
  obtain ⟨rfl, hsz, hH, hK⟩ := hv
  have hx := B.exec
  have hb := B.bytes
  have hr := B.returns
  have hts := atoms_spec (ws := w_B_left) B.pre
  have hg : ∀ w ∈ gw, w.before _ s = true := fun w h => hts w (List.mem_cons_of_mem _ h)
  have hown : s.vm.findClass R_B = some m.cls := findClass_of_methodNamed B.named
  have hlocks := B.notSynchronized
  have hne := B.noHandlers (hts _ List.mem_cons_self)
  subst hsz
  have hI := mp_I.start hH
  have hl := lv_entry ([.ref o, .int k]) (n := 3) (Nat.le_of_ble_eq_true rfl)
  rw [lg_entry_eq]
  generalize (lg_sl ([.ref o, .int k]) ++ List.replicate (3 - (lg_sl ([.ref o, .int k])).length) Slot.unset).toArray = ls at hl ⊢
  have hl : lv_has ls 3 [(0, .ref o), (1, .int k)] := hl
  refine lv_aload_n hx hb d_B_left_0 rfl (lv_at hl 0 rfl) ?_
  exact xp_out (mc := 1) (ms := 6) (noh hne) hlocks (xp_runV (As := []) (rest := []) ⟨hx, hb, hml, hown, hg⟩ (x_B_known l hl9 D g S _ o pa v0 v2 v3 v4 v5 v6 an av sv h_o hun) ⟨(callB_of 0 hg (wd_goodG q_742) rfl rfl rfl (hg _ q_1) (hg _ q_739) (by decide +kernel) ⟨Nat.le_of_ble_eq_true rfl, Nat.le_of_ble_eq_true rfl⟩), hg _ q_741, hg _ qs_23⟩ (mp_preV (C := R_B) (T := F_B) hI hK h_o rfl []) rfl hl.1 (lv_room (Nat.le_of_ble_eq_true rfl)) d_B_left_1 ⟨Nat.le_of_ble_eq_true rfl, Nat.le_of_ble_eq_true rfl⟩)
set_option maxHeartbeats 4000000 in
set_option maxRecDepth 100000 in
/-- zeros are not known -/
theorem x_B_at (l : Launch) (hl9 : l.stackTraces = false) (D : mp_G) (g : Nat → ClassId) (S : mp_M) (sz : Nat) (o pa : Nat) (v0 v2 v3 v4 v5 v6 : Value) (an av : Int32) (sv : Option Nat) (z k : Int32) (h_o : S o = some (0, .inr (0, [v0, .ref pa, v2, v3, v4, v5, v6, .int an, .int av, (va_rf sv)]))) (hun : an = 0 ∨ av < 0 ∨ sv = none) : xp_Met l y_B_at w_B_at ({ frames := 7, cells := 1, slots := 6, locals := 110 }) (va_Pc [.ref o, .int z, .int k] (mp_B0 D classes (tys g) S sz)) "java/lang/IllegalStateException" D classes S 1 6 := by
  refine xp_ofW (cc := b_B_at) (maxL := 4) (ret := (some .int)) (by decide) rfl ?_
  intro p e s m args below meth c s₁ B hml hv
  obtain ⟨rfl, hsz, hH, hK⟩ := hv
  have hx := B.exec
  have hb := B.bytes
  have hr := B.returns
  have hts := atoms_spec (ws := w_B_at) B.pre
  have hg : ∀ w ∈ gw, w.before _ s = true := fun w h => hts w (List.mem_cons_of_mem _ h)
  have hown : s.vm.findClass R_B = some m.cls := findClass_of_methodNamed B.named
  have hlocks := B.notSynchronized
  have hne := B.noHandlers (hts _ List.mem_cons_self)
  subst hsz
  have hI := mp_I.start hH
  have hl := lv_entry ([.ref o, .int z, .int k]) (n := 4) (Nat.le_of_ble_eq_true rfl)
  rw [lg_entry_eq]
  generalize (lg_sl ([.ref o, .int z, .int k]) ++ List.replicate (4 - (lg_sl ([.ref o, .int z, .int k])).length) Slot.unset).toArray = ls at hl ⊢
  have hl : lv_has ls 4 [(0, .ref o), (1, .int z), (2, .int k)] := hl
  refine lv_aload_n hx hb d_B_at_0 rfl (lv_at hl 0 rfl) ?_
  exact xp_out (mc := 1) (ms := 6) (noh hne) hlocks (xp_runV (As := []) (rest := []) ⟨hx, hb, hml, hown, hg⟩ (x_B_known l hl9 D g S _ o pa v0 v2 v3 v4 v5 v6 an av sv h_o hun) ⟨(callB_of 0 hg (wd_goodG q_742) rfl rfl rfl (hg _ q_1) (hg _ q_739) (by decide +kernel) ⟨Nat.le_of_ble_eq_true rfl, Nat.le_of_ble_eq_true rfl⟩), hg _ q_741, hg _ qs_23⟩ (mp_preV (C := R_B) (T := F_B) hI hK h_o rfl []) rfl hl.1 (lv_room (Nat.le_of_ble_eq_true rfl)) d_B_at_1 ⟨Nat.le_of_ble_eq_true rfl, Nat.le_of_ble_eq_true rfl⟩)
set_option maxHeartbeats 4000000 in
set_option maxRecDepth 100000 in
/-- zeros are not known -/
theorem x_B_multiplicity (l : Launch) (hl9 : l.stackTraces = false) (D : mp_G) (g : Nat → ClassId) (S : mp_M) (sz : Nat) (o pa : Nat) (v0 v2 v3 v4 v5 v6 : Value) (an av : Int32) (sv : Option Nat) (z : Int32) (h_o : S o = some (0, .inr (0, [v0, .ref pa, v2, v3, v4, v5, v6, .int an, .int av, (va_rf sv)]))) (hun : an = 0 ∨ av < 0 ∨ sv = none) : xp_Met l y_B_multiplicity w_B_multiplicity ({ frames := 7, cells := 1, slots := 6, locals := 110 }) (va_Pc [.ref o, .int z] (mp_B0 D classes (tys g) S sz)) "java/lang/IllegalStateException" D classes S 1 6 := by
  refine xp_ofW (cc := b_B_multiplicity) (maxL := 3) (ret := (some .int)) (by decide) rfl ?_
  intro p e s m args below meth c s₁ B hml hv
  obtain ⟨rfl, hsz, hH, hK⟩ := hv
  have hx := B.exec
  have hb := B.bytes
  have hr := B.returns
  have hts := atoms_spec (ws := w_B_multiplicity) B.pre
  have hg : ∀ w ∈ gw, w.before _ s = true := fun w h => hts w (List.mem_cons_of_mem _ h)
  have hown : s.vm.findClass R_B = some m.cls := findClass_of_methodNamed B.named
  have hlocks := B.notSynchronized
  have hne := B.noHandlers (hts _ List.mem_cons_self)
  subst hsz
  have hI := mp_I.start hH
  have hl := lv_entry ([.ref o, .int z]) (n := 3) (Nat.le_of_ble_eq_true rfl)
  rw [lg_entry_eq]
  generalize (lg_sl ([.ref o, .int z]) ++ List.replicate (3 - (lg_sl ([.ref o, .int z])).length) Slot.unset).toArray = ls at hl ⊢
  have hl : lv_has ls 3 [(0, .ref o), (1, .int z)] := hl
  refine lv_aload_n hx hb d_B_multiplicity_0 rfl (lv_at hl 0 rfl) ?_
  exact xp_out (mc := 1) (ms := 6) (noh hne) hlocks (xp_runV (As := []) (rest := []) ⟨hx, hb, hml, hown, hg⟩ (x_B_known l hl9 D g S _ o pa v0 v2 v3 v4 v5 v6 an av sv h_o hun) ⟨(callB_of 0 hg (wd_goodG q_742) rfl rfl rfl (hg _ q_1) (hg _ q_739) (by decide +kernel) ⟨Nat.le_of_ble_eq_true rfl, Nat.le_of_ble_eq_true rfl⟩), hg _ q_741, hg _ qs_23⟩ (mp_preV (C := R_B) (T := F_B) hI hK h_o rfl []) rfl hl.1 (lv_room (Nat.le_of_ble_eq_true rfl)) d_B_multiplicity_1 ⟨Nat.le_of_ble_eq_true rfl, Nat.le_of_ble_eq_true rfl⟩)
set_option maxHeartbeats 4000000 in
set_option maxRecDepth 100000 in
/-- zeros are not known -/
theorem x_B_minimal (l : Launch) (hl9 : l.stackTraces = false) (D : mp_G) (g : Nat → ClassId) (S : mp_M) (sz : Nat) (o pa : Nat) (v0 v2 v3 v4 v5 v6 : Value) (an av : Int32) (sv : Option Nat) (k z : Int32) (h_o : S o = some (0, .inr (0, [v0, .ref pa, v2, v3, v4, v5, v6, .int an, .int av, (va_rf sv)]))) (hun : an = 0 ∨ av < 0 ∨ sv = none) : xp_Met l y_B_minimal w_B_minimal ({ frames := 7, cells := 1, slots := 6, locals := 110 }) (va_Pc [.ref o, .int k, .int z] (mp_B0 D classes (tys g) S sz)) "java/lang/IllegalStateException" D classes S 1 6 := by
  refine xp_ofW (cc := b_B_minimal) (maxL := 4) (ret := (some .int)) (by decide) rfl ?_
  intro p e s m args below meth c s₁ B hml hv
  obtain ⟨rfl, hsz, hH, hK⟩ := hv
  have hx := B.exec
  have hb := B.bytes
  have hr := B.returns
  have hts := atoms_spec (ws := w_B_minimal) B.pre
  have hg : ∀ w ∈ gw, w.before _ s = true := fun w h => hts w (List.mem_cons_of_mem _ h)
  have hown : s.vm.findClass R_B = some m.cls := findClass_of_methodNamed B.named
  have hlocks := B.notSynchronized
  have hne := B.noHandlers (hts _ List.mem_cons_self)
  subst hsz
  have hI := mp_I.start hH
  have hl := lv_entry ([.ref o, .int k, .int z]) (n := 4) (Nat.le_of_ble_eq_true rfl)
  rw [lg_entry_eq]
  generalize (lg_sl ([.ref o, .int k, .int z]) ++ List.replicate (4 - (lg_sl ([.ref o, .int k, .int z])).length) Slot.unset).toArray = ls at hl ⊢
  have hl : lv_has ls 4 [(0, .ref o), (1, .int k), (2, .int z)] := hl
  refine lv_aload_n hx hb d_B_minimal_0 rfl (lv_at hl 0 rfl) ?_
  exact xp_out (mc := 1) (ms := 6) (noh hne) hlocks (xp_runV (As := []) (rest := []) ⟨hx, hb, hml, hown, hg⟩ (x_B_known l hl9 D g S _ o pa v0 v2 v3 v4 v5 v6 an av sv h_o hun) ⟨(callB_of 0 hg (wd_goodG q_742) rfl rfl rfl (hg _ q_1) (hg _ q_739) (by decide +kernel) ⟨Nat.le_of_ble_eq_true rfl, Nat.le_of_ble_eq_true rfl⟩), hg _ q_741, hg _ qs_23⟩ (mp_preV (C := R_B) (T := F_B) hI hK h_o rfl []) rfl hl.1 (lv_room (Nat.le_of_ble_eq_true rfl)) d_B_minimal_1 ⟨Nat.le_of_ble_eq_true rfl, Nat.le_of_ble_eq_true rfl⟩)
set_option maxHeartbeats 4000000 in
set_option maxRecDepth 100000 in
/-- zeros are not known -/
theorem x_B_value (l : Launch) (hl9 : l.stackTraces = false) (D : mp_G) (g : Nat → ClassId) (S : mp_M) (sz : Nat) (o pa : Nat) (v0 v2 v3 v4 v5 v6 : Value) (an av : Int32) (sv : Option Nat) (k z : Int32) (h_o : S o = some (0, .inr (0, [v0, .ref pa, v2, v3, v4, v5, v6, .int an, .int av, (va_rf sv)]))) (hun : an = 0 ∨ av < 0 ∨ sv = none) : xp_Met l y_B_value w_B_value ({ frames := 7, cells := 1, slots := 6, locals := 110 }) (va_Pc [.ref o, .int k, .int z] (mp_B0 D classes (tys g) S sz)) "java/lang/IllegalStateException" D classes S 1 6 := by
  refine xp_ofW (cc := b_B_value) (maxL := 7) (ret := (some .int)) (by decide) rfl ?_
  intro p e s m args below meth c s₁ B hml hv
  obtain ⟨rfl, hsz, hH, hK⟩ := hv
  have hx := B.exec
  have hb := B.bytes
  have hr := B.returns
  have hts := atoms_spec (ws := w_B_value) B.pre
  have hg : ∀ w ∈ gw, w.before _ s = true := fun w h => hts w (List.mem_cons_of_mem _ h)
  have hown : s.vm.findClass R_B = some m.cls := findClass_of_methodNamed B.named
  have hlocks := B.notSynchronized
  have hne := B.noHandlers (hts _ List.mem_cons_self)
  subst hsz
  have hI := mp_I.start hH
  have hl := lv_entry ([.ref o, .int k, .int z]) (n := 7) (Nat.le_of_ble_eq_true rfl)
  rw [lg_entry_eq]
  generalize (lg_sl ([.ref o, .int k, .int z]) ++ List.replicate (7 - (lg_sl ([.ref o, .int k, .int z])).length) Slot.unset).toArray = ls at hl ⊢
  have hl : lv_has ls 7 [(0, .ref o), (1, .int k), (2, .int z)] := hl
  refine lv_aload_n hx hb d_B_value_0 rfl (lv_at hl 0 rfl) ?_
  exact xp_out (mc := 1) (ms := 6) (noh hne) hlocks (xp_runV (As := []) (rest := []) ⟨hx, hb, hml, hown, hg⟩ (x_B_known l hl9 D g S _ o pa v0 v2 v3 v4 v5 v6 an av sv h_o hun) ⟨(callB_of 0 hg (wd_goodG q_742) rfl rfl rfl (hg _ q_1) (hg _ q_739) (by decide +kernel) ⟨Nat.le_of_ble_eq_true rfl, Nat.le_of_ble_eq_true rfl⟩), hg _ q_741, hg _ qs_23⟩ (mp_preV (C := R_B) (T := F_B) hI hK h_o rfl []) rfl hl.1 (lv_room (Nat.le_of_ble_eq_true rfl)) d_B_value_1 ⟨Nat.le_of_ble_eq_true rfl, Nat.le_of_ble_eq_true rfl⟩)
set_option maxHeartbeats 4000000 in
set_option maxRecDepth 100000 in
/-- 40 were given -/
theorem x_B_poly (l : Launch) (hl9 : l.stackTraces = false) (D : mp_G) (g : Nat → ClassId) (S : mp_M) (sz : Nat) (o pa : Nat) (v0 v2 v3 v5 v6 v7 v8 v9 : Value) (gv : Int32) (h_o : S o = some (0, .inr (0, [v0, .ref pa, v2, v3, .int gv, v5, v6, v7, v8, v9]))) (hgv : gv < 0 ∨ nI 40 ≤ gv) : xp_Met l y_B_poly w_B_poly ({ frames := 6, cells := 1, slots := 6, locals := 90 }) (va_Pc [.ref o] (mp_B0 D classes (tys g) S sz)) "java/lang/IllegalStateException" D classes S 1 6 := by
  refine xp_ofW (cc := b_B_poly) (maxL := 1) (ret := (some .int)) (by decide) rfl ?_
  intro p e s m args below meth c s₁ B hml hv
  obtain ⟨rfl, hsz, hH, hK⟩ := hv
  have hx := B.exec
  have hb := B.bytes
  have hr := B.returns
  have hts := atoms_spec (ws := w_B_poly) B.pre
  have hg : ∀ w ∈ gw, w.before _ s = true := fun w h => hts w (List.mem_cons_of_mem _ h)
  have hown : s.vm.findClass R_B = some m.cls := findClass_of_methodNamed B.named
  have hlocks := B.notSynchronized
  have hne := B.noHandlers (hts _ List.mem_cons_self)
  subst hsz
  have hI := mp_I.start hH
  have hl := lv_entry ([.ref o]) (n := 1) (Nat.le_of_ble_eq_true rfl)
  rw [lg_entry_eq]
  generalize (lg_sl ([.ref o]) ++ List.replicate (1 - (lg_sl ([.ref o])).length) Slot.unset).toArray = ls at hl ⊢
  have hl : lv_has ls 1 [(0, .ref o)] := hl
  refine lv_aload_n hx hb d_B_poly_0 rfl (lv_at hl 0 rfl) ?_
  refine mp_get (C := R_B) (T := F_B) (N := 10) (v := .int gv) hx hb hg i_B hown hK.va hI h_o rfl 4 (by decide) (hg _ q_86) (fun _ h9 => h9) rfl d_B_poly_1 ?_
  refine lv_if_lt (tgt := 16) hx hb d_B_poly_4 (by decide) (fun c1 => ?_) (fun c1 => ?_)
  · obtain ⟨sa, hsa⟩ := xs_45 hK
    exact xp_throwS (names := ["java/lang/RuntimeException", "java/lang/Exception"]) hx hb hl9 hown (by decide +kernel) (by decide +kernel) (hg _ q_550) (hg _ q_9) hsa (xw_own hK hH xa_Es) hH (hl.1.trans hml.symm) d_B_poly_16 d_B_poly_19 d_B_poly_20 d_B_poly_22 d_B_poly_25 (noh hne) (Nat.le_of_ble_eq_true rfl) (Nat.le_of_ble_eq_true rfl) (Nat.le_of_ble_eq_true rfl) (Nat.le_of_ble_eq_true rfl) hlocks
  · refine lv_aload_n hx hb d_B_poly_7 rfl (lv_at hl 0 rfl) ?_
    refine mp_get (C := R_B) (T := F_B) (N := 10) (v := .int gv) hx hb hg i_B hown hK.va hI h_o rfl 4 (by decide) (hg _ q_86) (fun _ h9 => h9) rfl d_B_poly_8 ?_
    refine lv_bipush (v := nI 40) hx hb d_B_poly_11 (by decide) ?_
    refine lv_icmp_lt (tgt := 26) hx hb d_B_poly_13 (by decide) (fun c2 => ?_) (fun c2 => ?_)
    · exact absurd c2 (Int32.not_lt.mpr (hgv.resolve_left c1))
    · obtain ⟨sa, hsa⟩ := xs_45 hK
      exact xp_throwS (names := ["java/lang/RuntimeException", "java/lang/Exception"]) hx hb hl9 hown (by decide +kernel) (by decide +kernel) (hg _ q_550) (hg _ q_9) hsa (xw_own hK hH xa_Es) hH (hl.1.trans hml.symm) d_B_poly_16 d_B_poly_19 d_B_poly_20 d_B_poly_22 d_B_poly_25 (noh hne) (Nat.le_of_ble_eq_true rfl) (Nat.le_of_ble_eq_true rfl) (Nat.le_of_ble_eq_true rfl) (Nat.le_of_ble_eq_true rfl) hlocks
