/-- the exponent of a letter, the degree, the order: of the reference's places -/
def eN (p l : Nat) : Nat := if l = 0 then p % 10 else if l = 1 then p / 10 % 10 else p / 100
def dN (p : Nat) : Nat := p % 10 + p / 10 % 10 + p / 100
theorem eN_0 (p : Nat) : eN p 0 = p % 10 := rfl
theorem eN_1 (p : Nat) : eN p 1 = p / 10 % 10 := rfl
theorem eN_2 (p : Nat) : eN p 2 = p / 100 := rfl
theorem eN_lt {p : Nat} (l : Nat) (h : p < 1000) : eN p l < 10 := by unfold eN; split; omega; split <;> omega
theorem dN_lt {p : Nat} (h : p < 1000) : dN p < 30 := by unfold dN; omega
def abN (p q : Nat) : Prop := dN q < dN p ∨ (dN p = dN q ∧ (eN q 0 < eN p 0 ∨ (eN p 0 = eN q 0 ∧ (eN q 1 < eN p 1 ∨ (eN p 1 = eN q 1 ∧ eN q 2 < eN p 2)))))
def clN (a b d : Nat) : Nat := a + 28 * b + 784 * d
theorem d_M_cell_0 : decode b_M_cell 0 = .ok (.iload_n 0, 1) := by decide +kernel
theorem d_M_cell_1 : decode b_M_cell 1 = .ok (.bipush 28, 2) := by decide +kernel
theorem d_M_cell_3 : decode b_M_cell 3 = .ok (.iload_n 1, 1) := by decide +kernel
theorem d_M_cell_4 : decode b_M_cell 4 = .ok (.imul, 1) := by decide +kernel
theorem d_M_cell_5 : decode b_M_cell 5 = .ok (.iadd, 1) := by decide +kernel
theorem d_M_cell_6 : decode b_M_cell 6 = .ok (.sipush 784, 3) := by decide +kernel
theorem d_M_cell_9 : decode b_M_cell 9 = .ok (.iload_n 2, 1) := by decide +kernel
theorem d_M_cell_10 : decode b_M_cell 10 = .ok (.imul, 1) := by decide +kernel
theorem d_M_cell_11 : decode b_M_cell 11 = .ok (.iadd, 1) := by decide +kernel
theorem d_M_cell_12 : decode b_M_cell 12 = .ok (.ireturn, 1) := by decide +kernel
theorem d_M_cellOf_0 : decode b_M_cellOf 0 = .ok (.iload_n 0, 1) := by decide +kernel
theorem d_M_cellOf_1 : decode b_M_cellOf 1 = .ok (.iconst 0, 1) := by decide +kernel
theorem d_M_cellOf_2 : decode b_M_cellOf 2 = .ok (.invokestatic 94, 3) := by decide +kernel
theorem d_M_cellOf_5 : decode b_M_cellOf 5 = .ok (.iload_n 0, 1) := by decide +kernel
theorem d_M_cellOf_6 : decode b_M_cellOf 6 = .ok (.iconst 1, 1) := by decide +kernel
theorem d_M_cellOf_7 : decode b_M_cellOf 7 = .ok (.invokestatic 94, 3) := by decide +kernel
theorem d_M_cellOf_10 : decode b_M_cellOf 10 = .ok (.iload_n 0, 1) := by decide +kernel
theorem d_M_cellOf_11 : decode b_M_cellOf 11 = .ok (.iconst 2, 1) := by decide +kernel
theorem d_M_cellOf_12 : decode b_M_cellOf 12 = .ok (.invokestatic 94, 3) := by decide +kernel
theorem d_M_cellOf_15 : decode b_M_cellOf 15 = .ok (.invokestatic 135, 3) := by decide +kernel
theorem d_M_cellOf_18 : decode b_M_cellOf 18 = .ok (.ireturn, 1) := by decide +kernel
theorem d_M_degree_0 : decode b_M_degree 0 = .ok (.iload_n 0, 1) := by decide +kernel
theorem d_M_degree_1 : decode b_M_degree 1 = .ok (.iconst 0, 1) := by decide +kernel
theorem d_M_degree_2 : decode b_M_degree 2 = .ok (.invokestatic 94, 3) := by decide +kernel
theorem d_M_degree_5 : decode b_M_degree 5 = .ok (.iload_n 0, 1) := by decide +kernel
theorem d_M_degree_6 : decode b_M_degree 6 = .ok (.iconst 1, 1) := by decide +kernel
theorem d_M_degree_7 : decode b_M_degree 7 = .ok (.invokestatic 94, 3) := by decide +kernel
theorem d_M_degree_10 : decode b_M_degree 10 = .ok (.iadd, 1) := by decide +kernel
theorem d_M_degree_11 : decode b_M_degree 11 = .ok (.iload_n 0, 1) := by decide +kernel
theorem d_M_degree_12 : decode b_M_degree 12 = .ok (.iconst 2, 1) := by decide +kernel
theorem d_M_degree_13 : decode b_M_degree 13 = .ok (.invokestatic 94, 3) := by decide +kernel
theorem d_M_degree_16 : decode b_M_degree 16 = .ok (.iadd, 1) := by decide +kernel
theorem d_M_degree_17 : decode b_M_degree 17 = .ok (.ireturn, 1) := by decide +kernel
theorem d_M_expo_0 : decode b_M_expo 0 = .ok (.iload_n 1, 1) := by decide +kernel
theorem d_M_expo_1 : decode b_M_expo 1 = .ok (.ifCond .ne 10, 3) := by decide +kernel
theorem d_M_expo_4 : decode b_M_expo 4 = .ok (.iload_n 0, 1) := by decide +kernel
theorem d_M_expo_5 : decode b_M_expo 5 = .ok (.bipush 10, 2) := by decide +kernel
theorem d_M_expo_7 : decode b_M_expo 7 = .ok (.irem, 1) := by decide +kernel
theorem d_M_expo_8 : decode b_M_expo 8 = .ok (.goto 22, 3) := by decide +kernel
theorem d_M_expo_11 : decode b_M_expo 11 = .ok (.iload_n 1, 1) := by decide +kernel
theorem d_M_expo_12 : decode b_M_expo 12 = .ok (.iconst 1, 1) := by decide +kernel
theorem d_M_expo_13 : decode b_M_expo 13 = .ok (.if_icmp .ne 13, 3) := by decide +kernel
theorem d_M_expo_16 : decode b_M_expo 16 = .ok (.iload_n 0, 1) := by decide +kernel
theorem d_M_expo_17 : decode b_M_expo 17 = .ok (.bipush 10, 2) := by decide +kernel
theorem d_M_expo_19 : decode b_M_expo 19 = .ok (.idiv, 1) := by decide +kernel
theorem d_M_expo_20 : decode b_M_expo 20 = .ok (.bipush 10, 2) := by decide +kernel
theorem d_M_expo_22 : decode b_M_expo 22 = .ok (.irem, 1) := by decide +kernel
theorem d_M_expo_23 : decode b_M_expo 23 = .ok (.goto 7, 3) := by decide +kernel
theorem d_M_expo_26 : decode b_M_expo 26 = .ok (.iload_n 0, 1) := by decide +kernel
theorem d_M_expo_27 : decode b_M_expo 27 = .ok (.bipush 100, 2) := by decide +kernel
theorem d_M_expo_29 : decode b_M_expo 29 = .ok (.idiv, 1) := by decide +kernel
theorem d_M_expo_30 : decode b_M_expo 30 = .ok (.ireturn, 1) := by decide +kernel
theorem d_M_greater_0 : decode b_M_greater 0 = .ok (.iload_n 0, 1) := by decide +kernel
theorem d_M_greater_1 : decode b_M_greater 1 = .ok (.iload_n 1, 1) := by decide +kernel
theorem d_M_greater_2 : decode b_M_greater 2 = .ok (.if_icmp .le 7, 3) := by decide +kernel
theorem d_M_greater_5 : decode b_M_greater 5 = .ok (.iload_n 0, 1) := by decide +kernel
theorem d_M_greater_6 : decode b_M_greater 6 = .ok (.goto 4, 3) := by decide +kernel
theorem d_M_greater_9 : decode b_M_greater 9 = .ok (.iload_n 1, 1) := by decide +kernel
theorem d_M_greater_10 : decode b_M_greater 10 = .ok (.ireturn, 1) := by decide +kernel
theorem d_M_isAbove_0 : decode b_M_isAbove 0 = .ok (.iload_n 0, 1) := by decide +kernel
theorem d_M_isAbove_1 : decode b_M_isAbove 1 = .ok (.invokestatic 97, 3) := by decide +kernel
theorem d_M_isAbove_4 : decode b_M_isAbove 4 = .ok (.iload_n 1, 1) := by decide +kernel
theorem d_M_isAbove_5 : decode b_M_isAbove 5 = .ok (.invokestatic 97, 3) := by decide +kernel
theorem d_M_isAbove_8 : decode b_M_isAbove 8 = .ok (.if_icmp .eq 20, 3) := by decide +kernel
theorem d_M_isAbove_11 : decode b_M_isAbove 11 = .ok (.iload_n 0, 1) := by decide +kernel
theorem d_M_isAbove_12 : decode b_M_isAbove 12 = .ok (.invokestatic 97, 3) := by decide +kernel
theorem d_M_isAbove_15 : decode b_M_isAbove 15 = .ok (.iload_n 1, 1) := by decide +kernel
theorem d_M_isAbove_16 : decode b_M_isAbove 16 = .ok (.invokestatic 97, 3) := by decide +kernel
theorem d_M_isAbove_19 : decode b_M_isAbove 19 = .ok (.if_icmp .le 7, 3) := by decide +kernel
theorem d_M_isAbove_22 : decode b_M_isAbove 22 = .ok (.iconst 1, 1) := by decide +kernel
theorem d_M_isAbove_23 : decode b_M_isAbove 23 = .ok (.goto 4, 3) := by decide +kernel
theorem d_M_isAbove_26 : decode b_M_isAbove 26 = .ok (.iconst 0, 1) := by decide +kernel
theorem d_M_isAbove_27 : decode b_M_isAbove 27 = .ok (.ireturn, 1) := by decide +kernel
theorem d_M_isAbove_28 : decode b_M_isAbove 28 = .ok (.iconst 0, 1) := by decide +kernel
theorem d_M_isAbove_29 : decode b_M_isAbove 29 = .ok (.istore_n 2, 1) := by decide +kernel
theorem d_M_isAbove_30 : decode b_M_isAbove 30 = .ok (.iload_n 2, 1) := by decide +kernel
theorem d_M_isAbove_31 : decode b_M_isAbove 31 = .ok (.iconst 3, 1) := by decide +kernel
theorem d_M_isAbove_32 : decode b_M_isAbove 32 = .ok (.if_icmp .ge 41, 3) := by decide +kernel
theorem d_M_isAbove_35 : decode b_M_isAbove 35 = .ok (.iload_n 0, 1) := by decide +kernel
theorem d_M_isAbove_36 : decode b_M_isAbove 36 = .ok (.iload_n 2, 1) := by decide +kernel
theorem d_M_isAbove_37 : decode b_M_isAbove 37 = .ok (.invokestatic 94, 3) := by decide +kernel
theorem d_M_isAbove_40 : decode b_M_isAbove 40 = .ok (.iload_n 1, 1) := by decide +kernel
theorem d_M_isAbove_41 : decode b_M_isAbove 41 = .ok (.iload_n 2, 1) := by decide +kernel
theorem d_M_isAbove_42 : decode b_M_isAbove 42 = .ok (.invokestatic 94, 3) := by decide +kernel
theorem d_M_isAbove_45 : decode b_M_isAbove 45 = .ok (.if_icmp .eq 22, 3) := by decide +kernel
theorem d_M_isAbove_48 : decode b_M_isAbove 48 = .ok (.iload_n 0, 1) := by decide +kernel
theorem d_M_isAbove_49 : decode b_M_isAbove 49 = .ok (.iload_n 2, 1) := by decide +kernel
theorem d_M_isAbove_50 : decode b_M_isAbove 50 = .ok (.invokestatic 94, 3) := by decide +kernel
theorem d_M_isAbove_53 : decode b_M_isAbove 53 = .ok (.iload_n 1, 1) := by decide +kernel
theorem d_M_isAbove_54 : decode b_M_isAbove 54 = .ok (.iload_n 2, 1) := by decide +kernel
theorem d_M_isAbove_55 : decode b_M_isAbove 55 = .ok (.invokestatic 94, 3) := by decide +kernel
theorem d_M_isAbove_58 : decode b_M_isAbove 58 = .ok (.if_icmp .le 7, 3) := by decide +kernel
theorem d_M_isAbove_61 : decode b_M_isAbove 61 = .ok (.iconst 1, 1) := by decide +kernel
theorem d_M_isAbove_62 : decode b_M_isAbove 62 = .ok (.goto 4, 3) := by decide +kernel
theorem d_M_isAbove_65 : decode b_M_isAbove 65 = .ok (.iconst 0, 1) := by decide +kernel
theorem d_M_isAbove_66 : decode b_M_isAbove 66 = .ok (.ireturn, 1) := by decide +kernel
theorem d_M_isAbove_67 : decode b_M_isAbove 67 = .ok (.iinc 2 1, 3) := by decide +kernel
theorem d_M_isAbove_70 : decode b_M_isAbove 70 = .ok (.goto (-40), 3) := by decide +kernel
theorem d_M_isAbove_73 : decode b_M_isAbove 73 = .ok (.iconst 0, 1) := by decide +kernel
theorem d_M_isAbove_74 : decode b_M_isAbove 74 = .ok (.ireturn, 1) := by decide +kernel
theorem d_M_isAlone_0 : decode b_M_isAlone 0 = .ok (.iload_n 0, 1) := by decide +kernel
theorem d_M_isAlone_1 : decode b_M_isAlone 1 = .ok (.ifCond .eq 19, 3) := by decide +kernel
theorem d_M_isAlone_4 : decode b_M_isAlone 4 = .ok (.iload_n 0, 1) := by decide +kernel
theorem d_M_isAlone_5 : decode b_M_isAlone 5 = .ok (.invokestatic 97, 3) := by decide +kernel
theorem d_M_isAlone_8 : decode b_M_isAlone 8 = .ok (.iload_n 0, 1) := by decide +kernel
theorem d_M_isAlone_9 : decode b_M_isAlone 9 = .ok (.iload_n 1, 1) := by decide +kernel
theorem d_M_isAlone_10 : decode b_M_isAlone 10 = .ok (.invokestatic 94, 3) := by decide +kernel
theorem d_M_isAlone_13 : decode b_M_isAlone 13 = .ok (.if_icmp .ne 7, 3) := by decide +kernel
theorem d_M_isAlone_16 : decode b_M_isAlone 16 = .ok (.iconst 1, 1) := by decide +kernel
theorem d_M_isAlone_17 : decode b_M_isAlone 17 = .ok (.goto 4, 3) := by decide +kernel
theorem d_M_isAlone_20 : decode b_M_isAlone 20 = .ok (.iconst 0, 1) := by decide +kernel
theorem d_M_isAlone_21 : decode b_M_isAlone 21 = .ok (.ireturn, 1) := by decide +kernel
theorem d_M_powerAt_0 : decode b_M_powerAt 0 = .ok (.iload_n 0, 1) := by decide +kernel
theorem d_M_powerAt_1 : decode b_M_powerAt 1 = .ok (.bipush 10, 2) := by decide +kernel
theorem d_M_powerAt_3 : decode b_M_powerAt 3 = .ok (.irem, 1) := by decide +kernel
theorem d_M_powerAt_4 : decode b_M_powerAt 4 = .ok (.bipush 16, 2) := by decide +kernel
theorem d_M_powerAt_6 : decode b_M_powerAt 6 = .ok (.iload_n 0, 1) := by decide +kernel
theorem d_M_powerAt_7 : decode b_M_powerAt 7 = .ok (.bipush 10, 2) := by decide +kernel
theorem d_M_powerAt_9 : decode b_M_powerAt 9 = .ok (.idiv, 1) := by decide +kernel
theorem d_M_powerAt_10 : decode b_M_powerAt 10 = .ok (.bipush 10, 2) := by decide +kernel
theorem d_M_powerAt_12 : decode b_M_powerAt 12 = .ok (.irem, 1) := by decide +kernel
theorem d_M_powerAt_13 : decode b_M_powerAt 13 = .ok (.imul, 1) := by decide +kernel
theorem d_M_powerAt_14 : decode b_M_powerAt 14 = .ok (.iadd, 1) := by decide +kernel
theorem d_M_powerAt_15 : decode b_M_powerAt 15 = .ok (.sipush 256, 3) := by decide +kernel
theorem d_M_powerAt_18 : decode b_M_powerAt 18 = .ok (.iload_n 0, 1) := by decide +kernel
theorem d_M_powerAt_19 : decode b_M_powerAt 19 = .ok (.bipush 100, 2) := by decide +kernel
theorem d_M_powerAt_21 : decode b_M_powerAt 21 = .ok (.idiv, 1) := by decide +kernel
theorem d_M_powerAt_22 : decode b_M_powerAt 22 = .ok (.imul, 1) := by decide +kernel
theorem d_M_powerAt_23 : decode b_M_powerAt 23 = .ok (.iadd, 1) := by decide +kernel
theorem d_M_powerAt_24 : decode b_M_powerAt 24 = .ok (.ireturn, 1) := by decide +kernel
set_option maxHeartbeats 4000000 in
set_option maxRecDepth 100000 in
/-- an exponent -/
theorem c_M_expo (l : Launch) (D : mp_G) (g : Nat → ClassId) (S : mp_M) (sz : Nat) (p9 j : Nat)  (hp : p9 < 1000) (hj : j < 3) : Met l y_M_expo w_M_expo ({ frames := 0, cells := 0, slots := 0, locals := 0 }) (va_Pc [.int (nI p9), .int (nI j)] (mp_B0 D classes (tys g) S sz)) (va_Qi (fun (r : Int32) (S1 : mp_M) => r = nI (eN p9 j) ∧ S1 = S) (mp_B1 D classes S sz) (mp_A S sz)) 0 0 (mp_A S sz) := by
  refine Met.ofW (cc := b_M_expo) (maxL := 2) (ret := (some .int)) (by decide) rfl ?_
  intro p e s m args below meth c s₁ B hml hv
  obtain ⟨rfl, hsz, hH, hK⟩ := hv
  have hx := B.exec
  have hb := B.bytes
  have hr := B.returns
  have hts := atoms_spec (ws := w_M_expo) B.pre
  have hg : ∀ w ∈ gw, w.before _ s = true := fun w h => hts w (List.mem_cons_of_mem _ h)
  have hown : s.vm.findClass R_M = some m.cls := findClass_of_methodNamed B.named
  have hlocks := B.notSynchronized
  subst hsz
  have hI := mp_I.start hH
  have hl := lv_entry ([.int (nI p9), .int (nI j)]) (n := 2) (Nat.le_of_ble_eq_true rfl)
  rw [lg_entry_eq]
  generalize (lg_sl ([.int (nI p9), .int (nI j)]) ++ List.replicate (2 - (lg_sl ([.int (nI p9), .int (nI j)])).length) Slot.unset).toArray = ls at hl ⊢
  have hl : lv_has ls 2 [(0, .int (nI p9)), (1, .int (nI j))] := hl
  rcases (show j = 0 ∨ j = 1 ∨ j = 2 by omega) with rfl | rfl | rfl
  · refine lv_iload_n hx hb d_M_expo_0 rfl (lv_at hl 1 rfl) ?_
    refine lv_if_ne (tgt := 11) hx hb d_M_expo_1 (by decide) (fun h9 => absurd h9 (by decide)) (fun _ => ?_)
    refine lv_iload_n hx hb d_M_expo_4 rfl (lv_at hl 0 rfl) ?_
    refine lv_bipush (v := nI 10) hx hb d_M_expo_5 (by decide) ?_
    refine lv_irem hx hb d_M_expo_7 (by decide) ?_
    refine lv_topi (fun v1 ev1 => ?_)
    obtain rfl : v1 = nI (p9 % 10) := ev1.trans (pk_rem (by omega) (by omega) (by omega))
    refine lv_goto (tgt := 30) hx hb d_M_expo_8 (by decide) ?_
    refine mp_iret hx hb hr hlocks hI (by decide) (by decide) ?_ d_M_expo_30
    exact ⟨rfl, rfl⟩
  · refine lv_iload_n hx hb d_M_expo_0 rfl (lv_at hl 1 rfl) ?_
    refine lv_if_ne (tgt := 11) hx hb d_M_expo_1 (by decide) (fun _ => ?_) (fun h9 => absurd h9 (by decide))
    refine lv_iload_n hx hb d_M_expo_11 rfl (lv_at hl 1 rfl) ?_
    refine lv_iconst (v := nI 1) hx hb d_M_expo_12 (by decide) ?_
    refine lv_icmp_ne (tgt := 26) hx hb d_M_expo_13 (by decide) (fun h9 => absurd h9 (by decide)) (fun _ => ?_)
    refine lv_iload_n hx hb d_M_expo_16 rfl (lv_at hl 0 rfl) ?_
    refine lv_bipush (v := nI 10) hx hb d_M_expo_17 (by decide) ?_
    refine lv_idiv hx hb d_M_expo_19 (by decide) ?_
    refine lv_topi (fun v2 ev2 => ?_)
    obtain rfl : v2 = nI (p9 / 10) := ev2.trans (pk_div (by omega) (by omega) (by omega))
    refine lv_bipush (v := nI 10) hx hb d_M_expo_20 (by decide) ?_
    refine lv_irem hx hb d_M_expo_22 (by decide) ?_
    refine lv_topi (fun v3 ev3 => ?_)
    obtain rfl : v3 = nI ((p9 / 10) % 10) := ev3.trans (pk_rem (by omega) (by omega) (by omega))
    refine lv_goto (tgt := 30) hx hb d_M_expo_23 (by decide) ?_
    refine mp_iret hx hb hr hlocks hI (by decide) (by decide) ?_ d_M_expo_30
    exact ⟨rfl, rfl⟩
  · refine lv_iload_n hx hb d_M_expo_0 rfl (lv_at hl 1 rfl) ?_
    refine lv_if_ne (tgt := 11) hx hb d_M_expo_1 (by decide) (fun _ => ?_) (fun h9 => absurd h9 (by decide))
    refine lv_iload_n hx hb d_M_expo_11 rfl (lv_at hl 1 rfl) ?_
    refine lv_iconst (v := nI 1) hx hb d_M_expo_12 (by decide) ?_
    refine lv_icmp_ne (tgt := 26) hx hb d_M_expo_13 (by decide) (fun _ => ?_) (fun h9 => absurd h9 (by decide))
    refine lv_iload_n hx hb d_M_expo_26 rfl (lv_at hl 0 rfl) ?_
    refine lv_bipush (v := nI 100) hx hb d_M_expo_27 (by decide) ?_
    refine lv_idiv hx hb d_M_expo_29 (by decide) ?_
    refine lv_topi (fun v4 ev4 => ?_)
    obtain rfl : v4 = nI (p9 / 100) := ev4.trans (pk_div (by omega) (by omega) (by omega))
    refine mp_iret hx hb hr hlocks hI (by decide) (by decide) ?_ d_M_expo_30
    exact ⟨rfl, rfl⟩
set_option maxHeartbeats 4000000 in
set_option maxRecDepth 100000 in
/-- the degree -/
theorem c_M_degree (l : Launch) (D : mp_G) (g : Nat → ClassId) (S : mp_M) (sz : Nat) (p9 : Nat)  (hp : p9 < 1000) : Met l y_M_degree w_M_degree ({ frames := 1, cells := 0, slots := 0, locals := 21 }) (va_Pc [.int (nI p9)] (mp_B0 D classes (tys g) S sz)) (va_Qi (fun (r : Int32) (S1 : mp_M) => r = nI (dN p9) ∧ S1 = S) (mp_B1 D classes S sz) (mp_A S sz)) 0 0 (mp_A S sz) := by
  refine Met.ofW (cc := b_M_degree) (maxL := 1) (ret := (some .int)) (by decide) rfl ?_
  intro p e s m args below meth c s₁ B hml hv
  obtain ⟨rfl, hsz, hH, hK⟩ := hv
  have hx := B.exec
  have hb := B.bytes
  have hr := B.returns
  have hts := atoms_spec (ws := w_M_degree) B.pre
  have hg : ∀ w ∈ gw, w.before _ s = true := fun w h => hts w (List.mem_cons_of_mem _ h)
  have hown : s.vm.findClass R_M = some m.cls := findClass_of_methodNamed B.named
  have hlocks := B.notSynchronized
  subst hsz
  have hI := mp_I.start hH
  have hl := lv_entry ([.int (nI p9)]) (n := 1) (Nat.le_of_ble_eq_true rfl)
  rw [lg_entry_eq]
  generalize (lg_sl ([.int (nI p9)]) ++ List.replicate (1 - (lg_sl ([.int (nI p9)])).length) Slot.unset).toArray = ls at hl ⊢
  have hl : lv_has ls 1 [(0, .int (nI p9))] := hl
  refine lv_iload_n hx hb d_M_degree_0 rfl (lv_at hl 0 rfl) ?_
  refine lv_iconst (v := nI 0) hx hb d_M_degree_1 (by decide) ?_
  refine mp_calli hI (va_runS (As := [.int (nI p9), .int (nI 0)]) (rest := []) ⟨hx, hb, hml, hown, hg⟩ (c_M_expo l D g S _ p9 0 hp (by decide)) ⟨(callB_of 2 hg (wd_goodG q_943) rfl rfl rfl (hg _ q_5) (hg _ q_941) (by decide +kernel) ⟨Nat.le_of_ble_eq_true rfl, Nat.le_of_ble_eq_true rfl⟩), hg _ q_942⟩ (mp_pre hI hK [.int (nI p9), .int (nI 0)]) rfl rfl hl.1 rfl (lv_room (Nat.le_of_ble_eq_true rfl)) d_M_degree_2 ⟨Nat.le_of_ble_eq_true rfl, Nat.le_of_ble_eq_true rfl⟩) (fun r4 S1 H2 locs p_3 hI => ?_)
  obtain ⟨er4, eS5⟩ := p_3
  rw [eS5] at hI
  have er4 : r4 = nI (eN p9 0) := er4
  subst er4
  refine lv_iload_n hx hb d_M_degree_5 rfl (lv_at hl 0 rfl) ?_
  refine lv_iconst (v := nI 1) hx hb d_M_degree_6 (by decide) ?_
  refine mp_calli hI (va_runS (As := [.int (nI p9), .int (nI 1)]) (rest := [.int (nI (eN p9 0))]) ⟨hx, hb, hml, hown, hg⟩ (c_M_expo l D g S _ p9 1 hp (by decide)) ⟨(callB_of 2 hg (wd_goodG q_943) rfl rfl rfl (hg _ q_5) (hg _ q_941) (by decide +kernel) ⟨Nat.le_of_ble_eq_true rfl, Nat.le_of_ble_eq_true rfl⟩), hg _ q_942⟩ (mp_pre hI hK [.int (nI p9), .int (nI 1)]) rfl rfl hl.1 rfl (lv_room (Nat.le_of_ble_eq_true rfl)) d_M_degree_7 ⟨Nat.le_of_ble_eq_true rfl, Nat.le_of_ble_eq_true rfl⟩) (fun r9 S6 H7 locs p_8 hI => ?_)
  obtain ⟨er9, eS10⟩ := p_8
  rw [eS10] at hI
  have er9 : r9 = nI (eN p9 1) := er9
  subst er9
  refine lv_iadd hx hb d_M_degree_10 ?_
  refine lv_topi (fun v11 ev11 => ?_)
  obtain rfl : v11 = nI ((eN p9 0) + (eN p9 1)) := ev11.trans (nI_add _ _)
  refine lv_iload_n hx hb d_M_degree_11 rfl (lv_at hl 0 rfl) ?_
  refine lv_iconst (v := nI 2) hx hb d_M_degree_12 (by decide) ?_
  refine mp_calli hI (va_runS (As := [.int (nI p9), .int (nI 2)]) (rest := [.int (nI ((eN p9 0) + (eN p9 1)))]) ⟨hx, hb, hml, hown, hg⟩ (c_M_expo l D g S _ p9 2 hp (by decide)) ⟨(callB_of 2 hg (wd_goodG q_943) rfl rfl rfl (hg _ q_5) (hg _ q_941) (by decide +kernel) ⟨Nat.le_of_ble_eq_true rfl, Nat.le_of_ble_eq_true rfl⟩), hg _ q_942⟩ (mp_pre hI hK [.int (nI p9), .int (nI 2)]) rfl rfl hl.1 rfl (lv_room (Nat.le_of_ble_eq_true rfl)) d_M_degree_13 ⟨Nat.le_of_ble_eq_true rfl, Nat.le_of_ble_eq_true rfl⟩) (fun r15 S12 H13 locs p_14 hI => ?_)
  obtain ⟨er15, eS16⟩ := p_14
  rw [eS16] at hI
  have er15 : r15 = nI (eN p9 2) := er15
  subst er15
  refine lv_iadd hx hb d_M_degree_16 ?_
  refine lv_topi (fun v17 ev17 => ?_)
  obtain rfl : v17 = nI (((eN p9 0) + (eN p9 1)) + (eN p9 2)) := ev17.trans (nI_add _ _)
  refine mp_iret hx hb hr hlocks hI (by decide) (by decide) ?_ d_M_degree_17
  exact ⟨rfl, rfl⟩
set_option maxHeartbeats 4000000 in
set_option maxRecDepth 100000 in
/-- the order -/
theorem c_M_isAbove (l : Launch) (D : mp_G) (g : Nat → ClassId) (S : mp_M) (sz : Nat) (p9 q9 : Nat)  (hp : p9 < 1000) (hq : q9 < 1000) : Met l y_M_isAbove w_M_isAbove ({ frames := 2, cells := 0, slots := 0, locals := 41 }) (va_Pc [.int (nI p9), .int (nI q9)] (mp_B0 D classes (tys g) S sz)) (va_Qi (fun (r : Int32) (S1 : mp_M) => ((abN p9 q9 ∧ r = 1) ∨ (¬ abN p9 q9 ∧ r = 0)) ∧ S1 = S) (mp_B1 D classes S sz) (mp_A S sz)) 0 0 (mp_A S sz) := by
  refine Met.ofW (cc := b_M_isAbove) (maxL := 3) (ret := (some .boolean)) (by decide) rfl ?_
  intro p e s m args below meth c s₁ B hml hv
  obtain ⟨rfl, hsz, hH, hK⟩ := hv
  have hx := B.exec
  have hb := B.bytes
  have hr := B.returns
  have hts := atoms_spec (ws := w_M_isAbove) B.pre
  have hg : ∀ w ∈ gw, w.before _ s = true := fun w h => hts w (List.mem_cons_of_mem _ h)
  have hown : s.vm.findClass R_M = some m.cls := findClass_of_methodNamed B.named
  have hlocks := B.notSynchronized
  subst hsz
  have hI := mp_I.start hH
  have hl := lv_entry ([.int (nI p9), .int (nI q9)]) (n := 3) (Nat.le_of_ble_eq_true rfl)
  rw [lg_entry_eq]
  generalize (lg_sl ([.int (nI p9), .int (nI q9)]) ++ List.replicate (3 - (lg_sl ([.int (nI p9), .int (nI q9)])).length) Slot.unset).toArray = ls at hl ⊢
  have hl : lv_has ls 3 [(0, .int (nI p9)), (1, .int (nI q9))] := hl
  have d1 := dN_lt hp
  have d2 := dN_lt hq
  have a0 := eN_lt 0 hp
  have b0 := eN_lt 0 hq
  have a1 := eN_lt 1 hp
  have b1 := eN_lt 1 hq
  have a2 := eN_lt 2 hp
  have b2 := eN_lt 2 hq
  refine lv_iload_n hx hb d_M_isAbove_0 rfl (lv_at hl 0 rfl) ?_
  refine mp_calli hI (va_runS (As := [.int (nI p9)]) (rest := []) ⟨hx, hb, hml, hown, hg⟩ (c_M_degree l D g S _ p9 hp) ⟨(callB_of 1 hg (wd_goodG q_940) rfl rfl rfl (hg _ q_5) (hg _ q_938) (by decide +kernel) ⟨Nat.le_of_ble_eq_true rfl, Nat.le_of_ble_eq_true rfl⟩), hg _ q_939⟩ (mp_pre hI hK [.int (nI p9)]) rfl rfl hl.1 rfl (lv_room (Nat.le_of_ble_eq_true rfl)) d_M_isAbove_1 ⟨Nat.le_of_ble_eq_true rfl, Nat.le_of_ble_eq_true rfl⟩) (fun r4 S1 H2 locs p_3 hI => ?_)
  obtain ⟨er4, eS5⟩ := p_3
  rw [eS5] at hI
  have er4 : r4 = nI (dN p9) := er4
  subst er4
  refine lv_iload_n hx hb d_M_isAbove_4 rfl (lv_at hl 1 rfl) ?_
  refine mp_calli hI (va_runS (As := [.int (nI q9)]) (rest := [.int (nI (dN p9))]) ⟨hx, hb, hml, hown, hg⟩ (c_M_degree l D g S _ q9 hq) ⟨(callB_of 1 hg (wd_goodG q_940) rfl rfl rfl (hg _ q_5) (hg _ q_938) (by decide +kernel) ⟨Nat.le_of_ble_eq_true rfl, Nat.le_of_ble_eq_true rfl⟩), hg _ q_939⟩ (mp_pre hI hK [.int (nI q9)]) rfl rfl hl.1 rfl (lv_room (Nat.le_of_ble_eq_true rfl)) d_M_isAbove_5 ⟨Nat.le_of_ble_eq_true rfl, Nat.le_of_ble_eq_true rfl⟩) (fun r9 S6 H7 locs p_8 hI => ?_)
  obtain ⟨er9, eS10⟩ := p_8
  rw [eS10] at hI
  have er9 : r9 = nI (dN q9) := er9
  subst er9
  refine lv_icmp_eq (tgt := 28) hx hb d_M_isAbove_8 (by decide) (fun c0 => ?_) (fun c0 => ?_)
  · rw [nI_eq (by omega) (by omega)] at c0
    refine lv_iconst (v := nI 0) hx hb d_M_isAbove_28 (by decide) ?_
    refine lv_istore_n (lv' := [(2, .int (nI 0)), (0, .int (nI p9)), (1, .int (nI q9))]) hx hb d_M_isAbove_29 rfl hl (by decide) rfl (fun ls hl => ?_)
    refine lv_iload_n hx hb d_M_isAbove_30 rfl (lv_at hl 0 rfl) ?_
    refine lv_iconst (v := nI 3) hx hb d_M_isAbove_31 (by decide) ?_
    refine lv_icmp_ge (tgt := 73) hx hb d_M_isAbove_32 (by decide) (fun h9 => absurd h9 (by decide)) (fun _ => ?_)
    refine lv_iload_n hx hb d_M_isAbove_35 rfl (lv_at hl 1 rfl) ?_
    refine lv_iload_n hx hb d_M_isAbove_36 rfl (lv_at hl 0 rfl) ?_
    refine mp_calli hI (va_runS (As := [.int (nI p9), .int (nI 0)]) (rest := []) ⟨hx, hb, hml, hown, hg⟩ (c_M_expo l D g S _ p9 0 hp (by decide)) ⟨(callB_of 2 hg (wd_goodG q_943) rfl rfl rfl (hg _ q_5) (hg _ q_941) (by decide +kernel) ⟨Nat.le_of_ble_eq_true rfl, Nat.le_of_ble_eq_true rfl⟩), hg _ q_942⟩ (mp_pre hI hK [.int (nI p9), .int (nI 0)]) rfl rfl hl.1 rfl (lv_room (Nat.le_of_ble_eq_true rfl)) d_M_isAbove_37 ⟨Nat.le_of_ble_eq_true rfl, Nat.le_of_ble_eq_true rfl⟩) (fun r24 S21 H22 locs p_23 hI => ?_)
    obtain ⟨er24, eS25⟩ := p_23
    rw [eS25] at hI
    have er24 : r24 = nI (eN p9 0) := er24
    subst er24
    refine lv_iload_n hx hb d_M_isAbove_40 rfl (lv_at hl 2 rfl) ?_
    refine lv_iload_n hx hb d_M_isAbove_41 rfl (lv_at hl 0 rfl) ?_
    refine mp_calli hI (va_runS (As := [.int (nI q9), .int (nI 0)]) (rest := [.int (nI (eN p9 0))]) ⟨hx, hb, hml, hown, hg⟩ (c_M_expo l D g S _ q9 0 hq (by decide)) ⟨(callB_of 2 hg (wd_goodG q_943) rfl rfl rfl (hg _ q_5) (hg _ q_941) (by decide +kernel) ⟨Nat.le_of_ble_eq_true rfl, Nat.le_of_ble_eq_true rfl⟩), hg _ q_942⟩ (mp_pre hI hK [.int (nI q9), .int (nI 0)]) rfl rfl hl.1 rfl (lv_room (Nat.le_of_ble_eq_true rfl)) d_M_isAbove_42 ⟨Nat.le_of_ble_eq_true rfl, Nat.le_of_ble_eq_true rfl⟩) (fun r29 S26 H27 locs p_28 hI => ?_)
    obtain ⟨er29, eS30⟩ := p_28
    rw [eS30] at hI
    have er29 : r29 = nI (eN q9 0) := er29
    subst er29
    refine lv_icmp_eq (tgt := 67) hx hb d_M_isAbove_45 (by decide) (fun k0 => ?_) (fun k0 => ?_)
    · rw [nI_eq (by omega) (by omega)] at k0
      refine lv_iinc (v := nI (0 + 1)) (lv' := [(2, .int (nI (0 + 1))), (0, .int (nI p9)), (1, .int (nI q9))]) hx hb d_M_isAbove_67 hl (k := 0) rfl (nI_1 _) (by decide) rfl (fun ls hl => ?_)
      refine lv_goto (tgt := 30) hx hb d_M_isAbove_70 (by decide) ?_
      refine lv_iload_n hx hb d_M_isAbove_30 rfl (lv_at hl 0 rfl) ?_
      refine lv_iconst (v := nI 3) hx hb d_M_isAbove_31 (by decide) ?_
      refine lv_icmp_ge (tgt := 73) hx hb d_M_isAbove_32 (by decide) (fun h9 => absurd h9 (by decide)) (fun _ => ?_)
      refine lv_iload_n hx hb d_M_isAbove_35 rfl (lv_at hl 1 rfl) ?_
      refine lv_iload_n hx hb d_M_isAbove_36 rfl (lv_at hl 0 rfl) ?_
      refine mp_calli hI (va_runS (As := [.int (nI p9), .int (nI (0 + 1))]) (rest := []) ⟨hx, hb, hml, hown, hg⟩ (c_M_expo l D g S _ p9 1 hp (by decide)) ⟨(callB_of 2 hg (wd_goodG q_943) rfl rfl rfl (hg _ q_5) (hg _ q_941) (by decide +kernel) ⟨Nat.le_of_ble_eq_true rfl, Nat.le_of_ble_eq_true rfl⟩), hg _ q_942⟩ (mp_pre hI hK [.int (nI p9), .int (nI (0 + 1))]) rfl rfl hl.1 rfl (lv_room (Nat.le_of_ble_eq_true rfl)) d_M_isAbove_37 ⟨Nat.le_of_ble_eq_true rfl, Nat.le_of_ble_eq_true rfl⟩) (fun r44 S41 H42 locs p_43 hI => ?_)
      obtain ⟨er44, eS45⟩ := p_43
      rw [eS45] at hI
      have er44 : r44 = nI (eN p9 1) := er44
      subst er44
      refine lv_iload_n hx hb d_M_isAbove_40 rfl (lv_at hl 2 rfl) ?_
      refine lv_iload_n hx hb d_M_isAbove_41 rfl (lv_at hl 0 rfl) ?_
      refine mp_calli hI (va_runS (As := [.int (nI q9), .int (nI (0 + 1))]) (rest := [.int (nI (eN p9 1))]) ⟨hx, hb, hml, hown, hg⟩ (c_M_expo l D g S _ q9 1 hq (by decide)) ⟨(callB_of 2 hg (wd_goodG q_943) rfl rfl rfl (hg _ q_5) (hg _ q_941) (by decide +kernel) ⟨Nat.le_of_ble_eq_true rfl, Nat.le_of_ble_eq_true rfl⟩), hg _ q_942⟩ (mp_pre hI hK [.int (nI q9), .int (nI (0 + 1))]) rfl rfl hl.1 rfl (lv_room (Nat.le_of_ble_eq_true rfl)) d_M_isAbove_42 ⟨Nat.le_of_ble_eq_true rfl, Nat.le_of_ble_eq_true rfl⟩) (fun r49 S46 H47 locs p_48 hI => ?_)
      obtain ⟨er49, eS50⟩ := p_48
      rw [eS50] at hI
      have er49 : r49 = nI (eN q9 1) := er49
      subst er49
      refine lv_icmp_eq (tgt := 67) hx hb d_M_isAbove_45 (by decide) (fun k1 => ?_) (fun k1 => ?_)
      · rw [nI_eq (by omega) (by omega)] at k1
        refine lv_iinc (v := nI ((0 + 1) + 1)) (lv' := [(2, .int (nI ((0 + 1) + 1))), (0, .int (nI p9)), (1, .int (nI q9))]) hx hb d_M_isAbove_67 hl (k := 0) rfl (nI_1 _) (by decide) rfl (fun ls hl => ?_)
        refine lv_goto (tgt := 30) hx hb d_M_isAbove_70 (by decide) ?_
        refine lv_iload_n hx hb d_M_isAbove_30 rfl (lv_at hl 0 rfl) ?_
        refine lv_iconst (v := nI 3) hx hb d_M_isAbove_31 (by decide) ?_
        refine lv_icmp_ge (tgt := 73) hx hb d_M_isAbove_32 (by decide) (fun h9 => absurd h9 (by decide)) (fun _ => ?_)
        refine lv_iload_n hx hb d_M_isAbove_35 rfl (lv_at hl 1 rfl) ?_
        refine lv_iload_n hx hb d_M_isAbove_36 rfl (lv_at hl 0 rfl) ?_
        refine mp_calli hI (va_runS (As := [.int (nI p9), .int (nI ((0 + 1) + 1))]) (rest := []) ⟨hx, hb, hml, hown, hg⟩ (c_M_expo l D g S _ p9 2 hp (by decide)) ⟨(callB_of 2 hg (wd_goodG q_943) rfl rfl rfl (hg _ q_5) (hg _ q_941) (by decide +kernel) ⟨Nat.le_of_ble_eq_true rfl, Nat.le_of_ble_eq_true rfl⟩), hg _ q_942⟩ (mp_pre hI hK [.int (nI p9), .int (nI ((0 + 1) + 1))]) rfl rfl hl.1 rfl (lv_room (Nat.le_of_ble_eq_true rfl)) d_M_isAbove_37 ⟨Nat.le_of_ble_eq_true rfl, Nat.le_of_ble_eq_true rfl⟩) (fun r64 S61 H62 locs p_63 hI => ?_)
        obtain ⟨er64, eS65⟩ := p_63
        rw [eS65] at hI
        have er64 : r64 = nI (eN p9 2) := er64
        subst er64
        refine lv_iload_n hx hb d_M_isAbove_40 rfl (lv_at hl 2 rfl) ?_
        refine lv_iload_n hx hb d_M_isAbove_41 rfl (lv_at hl 0 rfl) ?_
        refine mp_calli hI (va_runS (As := [.int (nI q9), .int (nI ((0 + 1) + 1))]) (rest := [.int (nI (eN p9 2))]) ⟨hx, hb, hml, hown, hg⟩ (c_M_expo l D g S _ q9 2 hq (by decide)) ⟨(callB_of 2 hg (wd_goodG q_943) rfl rfl rfl (hg _ q_5) (hg _ q_941) (by decide +kernel) ⟨Nat.le_of_ble_eq_true rfl, Nat.le_of_ble_eq_true rfl⟩), hg _ q_942⟩ (mp_pre hI hK [.int (nI q9), .int (nI ((0 + 1) + 1))]) rfl rfl hl.1 rfl (lv_room (Nat.le_of_ble_eq_true rfl)) d_M_isAbove_42 ⟨Nat.le_of_ble_eq_true rfl, Nat.le_of_ble_eq_true rfl⟩) (fun r69 S66 H67 locs p_68 hI => ?_)
        obtain ⟨er69, eS70⟩ := p_68
        rw [eS70] at hI
        have er69 : r69 = nI (eN q9 2) := er69
        subst er69
        refine lv_icmp_eq (tgt := 67) hx hb d_M_isAbove_45 (by decide) (fun k2 => ?_) (fun k2 => ?_)
        · rw [nI_eq (by omega) (by omega)] at k2
          refine lv_iinc (v := nI (((0 + 1) + 1) + 1)) (lv' := [(2, .int (nI (((0 + 1) + 1) + 1))), (0, .int (nI p9)), (1, .int (nI q9))]) hx hb d_M_isAbove_67 hl (k := 0) rfl (nI_1 _) (by decide) rfl (fun ls hl => ?_)
          refine lv_goto (tgt := 30) hx hb d_M_isAbove_70 (by decide) ?_
          refine lv_iload_n hx hb d_M_isAbove_30 rfl (lv_at hl 0 rfl) ?_
          refine lv_iconst (v := nI 3) hx hb d_M_isAbove_31 (by decide) ?_
          refine lv_icmp_ge (tgt := 73) hx hb d_M_isAbove_32 (by decide) (fun _ => ?_) (fun h9 => absurd (by decide) h9)
          refine lv_iconst (v := nI 0) hx hb d_M_isAbove_73 (by decide) ?_
          refine mp_zret hx hb hr hlocks hI (by decide) (by decide) ?_ (by decide) d_M_isAbove_74
          exact ⟨Or.inr ⟨fun q => by unfold abN at q; omega, rfl⟩, rfl⟩
        · rw [nI_eq (by omega) (by omega)] at k2
          refine lv_iload_n hx hb d_M_isAbove_48 rfl (lv_at hl 1 rfl) ?_
          refine lv_iload_n hx hb d_M_isAbove_49 rfl (lv_at hl 0 rfl) ?_
          refine mp_calli hI (va_runS (As := [.int (nI p9), .int (nI ((0 + 1) + 1))]) (rest := []) ⟨hx, hb, hml, hown, hg⟩ (c_M_expo l D g S _ p9 2 hp (by decide)) ⟨(callB_of 2 hg (wd_goodG q_943) rfl rfl rfl (hg _ q_5) (hg _ q_941) (by decide +kernel) ⟨Nat.le_of_ble_eq_true rfl, Nat.le_of_ble_eq_true rfl⟩), hg _ q_942⟩ (mp_pre hI hK [.int (nI p9), .int (nI ((0 + 1) + 1))]) rfl rfl hl.1 rfl (lv_room (Nat.le_of_ble_eq_true rfl)) d_M_isAbove_50 ⟨Nat.le_of_ble_eq_true rfl, Nat.le_of_ble_eq_true rfl⟩) (fun r74 S71 H72 locs p_73 hI => ?_)
          obtain ⟨er74, eS75⟩ := p_73
          rw [eS75] at hI
          have er74 : r74 = nI (eN p9 2) := er74
          subst er74
          refine lv_iload_n hx hb d_M_isAbove_53 rfl (lv_at hl 2 rfl) ?_
          refine lv_iload_n hx hb d_M_isAbove_54 rfl (lv_at hl 0 rfl) ?_
          refine mp_calli hI (va_runS (As := [.int (nI q9), .int (nI ((0 + 1) + 1))]) (rest := [.int (nI (eN p9 2))]) ⟨hx, hb, hml, hown, hg⟩ (c_M_expo l D g S _ q9 2 hq (by decide)) ⟨(callB_of 2 hg (wd_goodG q_943) rfl rfl rfl (hg _ q_5) (hg _ q_941) (by decide +kernel) ⟨Nat.le_of_ble_eq_true rfl, Nat.le_of_ble_eq_true rfl⟩), hg _ q_942⟩ (mp_pre hI hK [.int (nI q9), .int (nI ((0 + 1) + 1))]) rfl rfl hl.1 rfl (lv_room (Nat.le_of_ble_eq_true rfl)) d_M_isAbove_55 ⟨Nat.le_of_ble_eq_true rfl, Nat.le_of_ble_eq_true rfl⟩) (fun r79 S76 H77 locs p_78 hI => ?_)
          obtain ⟨er79, eS80⟩ := p_78
          rw [eS80] at hI
          have er79 : r79 = nI (eN q9 2) := er79
          subst er79
          refine lv_icmp_le (tgt := 65) hx hb d_M_isAbove_58 (by decide) (fun m2 => ?_) (fun m2 => ?_)
          · rw [nI_leI (by omega) (by omega)] at m2
            refine lv_iconst (v := nI 0) hx hb d_M_isAbove_65 (by decide) ?_
            refine mp_zret hx hb hr hlocks hI (by decide) (by decide) ?_ (by decide) d_M_isAbove_66
            exact ⟨Or.inr ⟨fun q => by unfold abN at q; omega, rfl⟩, rfl⟩
          · rw [nI_leI (by omega) (by omega)] at m2
            refine lv_iconst (v := nI 1) hx hb d_M_isAbove_61 (by decide) ?_
            refine lv_goto (tgt := 66) hx hb d_M_isAbove_62 (by decide) ?_
            refine mp_zret hx hb hr hlocks hI (by decide) (by decide) ?_ (by decide) d_M_isAbove_66
            exact ⟨Or.inl ⟨by unfold abN; omega, rfl⟩, rfl⟩
      · rw [nI_eq (by omega) (by omega)] at k1
        refine lv_iload_n hx hb d_M_isAbove_48 rfl (lv_at hl 1 rfl) ?_
        refine lv_iload_n hx hb d_M_isAbove_49 rfl (lv_at hl 0 rfl) ?_
        refine mp_calli hI (va_runS (As := [.int (nI p9), .int (nI (0 + 1))]) (rest := []) ⟨hx, hb, hml, hown, hg⟩ (c_M_expo l D g S _ p9 1 hp (by decide)) ⟨(callB_of 2 hg (wd_goodG q_943) rfl rfl rfl (hg _ q_5) (hg _ q_941) (by decide +kernel) ⟨Nat.le_of_ble_eq_true rfl, Nat.le_of_ble_eq_true rfl⟩), hg _ q_942⟩ (mp_pre hI hK [.int (nI p9), .int (nI (0 + 1))]) rfl rfl hl.1 rfl (lv_room (Nat.le_of_ble_eq_true rfl)) d_M_isAbove_50 ⟨Nat.le_of_ble_eq_true rfl, Nat.le_of_ble_eq_true rfl⟩) (fun r54 S51 H52 locs p_53 hI => ?_)
        obtain ⟨er54, eS55⟩ := p_53
        rw [eS55] at hI
        have er54 : r54 = nI (eN p9 1) := er54
        subst er54
        refine lv_iload_n hx hb d_M_isAbove_53 rfl (lv_at hl 2 rfl) ?_
        refine lv_iload_n hx hb d_M_isAbove_54 rfl (lv_at hl 0 rfl) ?_
        refine mp_calli hI (va_runS (As := [.int (nI q9), .int (nI (0 + 1))]) (rest := [.int (nI (eN p9 1))]) ⟨hx, hb, hml, hown, hg⟩ (c_M_expo l D g S _ q9 1 hq (by decide)) ⟨(callB_of 2 hg (wd_goodG q_943) rfl rfl rfl (hg _ q_5) (hg _ q_941) (by decide +kernel) ⟨Nat.le_of_ble_eq_true rfl, Nat.le_of_ble_eq_true rfl⟩), hg _ q_942⟩ (mp_pre hI hK [.int (nI q9), .int (nI (0 + 1))]) rfl rfl hl.1 rfl (lv_room (Nat.le_of_ble_eq_true rfl)) d_M_isAbove_55 ⟨Nat.le_of_ble_eq_true rfl, Nat.le_of_ble_eq_true rfl⟩) (fun r59 S56 H57 locs p_58 hI => ?_)
        obtain ⟨er59, eS60⟩ := p_58
        rw [eS60] at hI
        have er59 : r59 = nI (eN q9 1) := er59
        subst er59
        refine lv_icmp_le (tgt := 65) hx hb d_M_isAbove_58 (by decide) (fun m1 => ?_) (fun m1 => ?_)
        · rw [nI_leI (by omega) (by omega)] at m1
          refine lv_iconst (v := nI 0) hx hb d_M_isAbove_65 (by decide) ?_
          refine mp_zret hx hb hr hlocks hI (by decide) (by decide) ?_ (by decide) d_M_isAbove_66
          exact ⟨Or.inr ⟨fun q => by unfold abN at q; omega, rfl⟩, rfl⟩
        · rw [nI_leI (by omega) (by omega)] at m1
          refine lv_iconst (v := nI 1) hx hb d_M_isAbove_61 (by decide) ?_
          refine lv_goto (tgt := 66) hx hb d_M_isAbove_62 (by decide) ?_
          refine mp_zret hx hb hr hlocks hI (by decide) (by decide) ?_ (by decide) d_M_isAbove_66
          exact ⟨Or.inl ⟨by unfold abN; omega, rfl⟩, rfl⟩
    · rw [nI_eq (by omega) (by omega)] at k0
      refine lv_iload_n hx hb d_M_isAbove_48 rfl (lv_at hl 1 rfl) ?_
      refine lv_iload_n hx hb d_M_isAbove_49 rfl (lv_at hl 0 rfl) ?_
      refine mp_calli hI (va_runS (As := [.int (nI p9), .int (nI 0)]) (rest := []) ⟨hx, hb, hml, hown, hg⟩ (c_M_expo l D g S _ p9 0 hp (by decide)) ⟨(callB_of 2 hg (wd_goodG q_943) rfl rfl rfl (hg _ q_5) (hg _ q_941) (by decide +kernel) ⟨Nat.le_of_ble_eq_true rfl, Nat.le_of_ble_eq_true rfl⟩), hg _ q_942⟩ (mp_pre hI hK [.int (nI p9), .int (nI 0)]) rfl rfl hl.1 rfl (lv_room (Nat.le_of_ble_eq_true rfl)) d_M_isAbove_50 ⟨Nat.le_of_ble_eq_true rfl, Nat.le_of_ble_eq_true rfl⟩) (fun r34 S31 H32 locs p_33 hI => ?_)
      obtain ⟨er34, eS35⟩ := p_33
      rw [eS35] at hI
      have er34 : r34 = nI (eN p9 0) := er34
      subst er34
      refine lv_iload_n hx hb d_M_isAbove_53 rfl (lv_at hl 2 rfl) ?_
      refine lv_iload_n hx hb d_M_isAbove_54 rfl (lv_at hl 0 rfl) ?_
      refine mp_calli hI (va_runS (As := [.int (nI q9), .int (nI 0)]) (rest := [.int (nI (eN p9 0))]) ⟨hx, hb, hml, hown, hg⟩ (c_M_expo l D g S _ q9 0 hq (by decide)) ⟨(callB_of 2 hg (wd_goodG q_943) rfl rfl rfl (hg _ q_5) (hg _ q_941) (by decide +kernel) ⟨Nat.le_of_ble_eq_true rfl, Nat.le_of_ble_eq_true rfl⟩), hg _ q_942⟩ (mp_pre hI hK [.int (nI q9), .int (nI 0)]) rfl rfl hl.1 rfl (lv_room (Nat.le_of_ble_eq_true rfl)) d_M_isAbove_55 ⟨Nat.le_of_ble_eq_true rfl, Nat.le_of_ble_eq_true rfl⟩) (fun r39 S36 H37 locs p_38 hI => ?_)
      obtain ⟨er39, eS40⟩ := p_38
      rw [eS40] at hI
      have er39 : r39 = nI (eN q9 0) := er39
      subst er39
      refine lv_icmp_le (tgt := 65) hx hb d_M_isAbove_58 (by decide) (fun m0 => ?_) (fun m0 => ?_)
      · rw [nI_leI (by omega) (by omega)] at m0
        refine lv_iconst (v := nI 0) hx hb d_M_isAbove_65 (by decide) ?_
        refine mp_zret hx hb hr hlocks hI (by decide) (by decide) ?_ (by decide) d_M_isAbove_66
        exact ⟨Or.inr ⟨fun q => by unfold abN at q; omega, rfl⟩, rfl⟩
      · rw [nI_leI (by omega) (by omega)] at m0
        refine lv_iconst (v := nI 1) hx hb d_M_isAbove_61 (by decide) ?_
        refine lv_goto (tgt := 66) hx hb d_M_isAbove_62 (by decide) ?_
        refine mp_zret hx hb hr hlocks hI (by decide) (by decide) ?_ (by decide) d_M_isAbove_66
        exact ⟨Or.inl ⟨by unfold abN; omega, rfl⟩, rfl⟩
  · rw [nI_eq (by omega) (by omega)] at c0
    refine lv_iload_n hx hb d_M_isAbove_11 rfl (lv_at hl 0 rfl) ?_
    refine mp_calli hI (va_runS (As := [.int (nI p9)]) (rest := []) ⟨hx, hb, hml, hown, hg⟩ (c_M_degree l D g S _ p9 hp) ⟨(callB_of 1 hg (wd_goodG q_940) rfl rfl rfl (hg _ q_5) (hg _ q_938) (by decide +kernel) ⟨Nat.le_of_ble_eq_true rfl, Nat.le_of_ble_eq_true rfl⟩), hg _ q_939⟩ (mp_pre hI hK [.int (nI p9)]) rfl rfl hl.1 rfl (lv_room (Nat.le_of_ble_eq_true rfl)) d_M_isAbove_12 ⟨Nat.le_of_ble_eq_true rfl, Nat.le_of_ble_eq_true rfl⟩) (fun r14 S11 H12 locs p_13 hI => ?_)
    obtain ⟨er14, eS15⟩ := p_13
    rw [eS15] at hI
    have er14 : r14 = nI (dN p9) := er14
    subst er14
    refine lv_iload_n hx hb d_M_isAbove_15 rfl (lv_at hl 1 rfl) ?_
    refine mp_calli hI (va_runS (As := [.int (nI q9)]) (rest := [.int (nI (dN p9))]) ⟨hx, hb, hml, hown, hg⟩ (c_M_degree l D g S _ q9 hq) ⟨(callB_of 1 hg (wd_goodG q_940) rfl rfl rfl (hg _ q_5) (hg _ q_938) (by decide +kernel) ⟨Nat.le_of_ble_eq_true rfl, Nat.le_of_ble_eq_true rfl⟩), hg _ q_939⟩ (mp_pre hI hK [.int (nI q9)]) rfl rfl hl.1 rfl (lv_room (Nat.le_of_ble_eq_true rfl)) d_M_isAbove_16 ⟨Nat.le_of_ble_eq_true rfl, Nat.le_of_ble_eq_true rfl⟩) (fun r19 S16 H17 locs p_18 hI => ?_)
    obtain ⟨er19, eS20⟩ := p_18
    rw [eS20] at hI
    have er19 : r19 = nI (dN q9) := er19
    subst er19
    refine lv_icmp_le (tgt := 26) hx hb d_M_isAbove_19 (by decide) (fun c1 => ?_) (fun c1 => ?_)
    · rw [nI_leI (by omega) (by omega)] at c1
      refine lv_iconst (v := nI 0) hx hb d_M_isAbove_26 (by decide) ?_
      refine mp_zret hx hb hr hlocks hI (by decide) (by decide) ?_ (by decide) d_M_isAbove_27
      exact ⟨Or.inr ⟨fun q => by unfold abN at q; omega, rfl⟩, rfl⟩
    · rw [nI_leI (by omega) (by omega)] at c1
      refine lv_iconst (v := nI 1) hx hb d_M_isAbove_22 (by decide) ?_
      refine lv_goto (tgt := 27) hx hb d_M_isAbove_23 (by decide) ?_
      refine mp_zret hx hb hr hlocks hI (by decide) (by decide) ?_ (by decide) d_M_isAbove_27
      exact ⟨Or.inl ⟨Or.inl (by omega), rfl⟩, rfl⟩
set_option maxHeartbeats 4000000 in
set_option maxRecDepth 100000 in
/-- a power as it is written -/
theorem c_M_powerAt (l : Launch) (D : mp_G) (g : Nat → ClassId) (S : mp_M) (sz : Nat) (p9 : Nat)  (hp : p9 < 1000) : Met l y_M_powerAt w_M_powerAt ({ frames := 0, cells := 0, slots := 0, locals := 0 }) (va_Pc [.int (nI p9)] (mp_B0 D classes (tys g) S sz)) (va_Qi (fun (r : Int32) (S1 : mp_M) => r = nI (p9 % 10 + 16 * (p9 / 10 % 10) + 256 * (p9 / 100)) ∧ S1 = S) (mp_B1 D classes S sz) (mp_A S sz)) 0 0 (mp_A S sz) := by
  refine Met.ofW (cc := b_M_powerAt) (maxL := 1) (ret := (some .int)) (by decide) rfl ?_
  intro p e s m args below meth c s₁ B hml hv
  obtain ⟨rfl, hsz, hH, hK⟩ := hv
  have hx := B.exec
  have hb := B.bytes
  have hr := B.returns
  have hts := atoms_spec (ws := w_M_powerAt) B.pre
  have hg : ∀ w ∈ gw, w.before _ s = true := fun w h => hts w (List.mem_cons_of_mem _ h)
  have hown : s.vm.findClass R_M = some m.cls := findClass_of_methodNamed B.named
  have hlocks := B.notSynchronized
  subst hsz
  have hI := mp_I.start hH
  have hl := lv_entry ([.int (nI p9)]) (n := 1) (Nat.le_of_ble_eq_true rfl)
  rw [lg_entry_eq]
  generalize (lg_sl ([.int (nI p9)]) ++ List.replicate (1 - (lg_sl ([.int (nI p9)])).length) Slot.unset).toArray = ls at hl ⊢
  have hl : lv_has ls 1 [(0, .int (nI p9))] := hl
  refine lv_iload_n hx hb d_M_powerAt_0 rfl (lv_at hl 0 rfl) ?_
  refine lv_bipush (v := nI 10) hx hb d_M_powerAt_1 (by decide) ?_
  refine lv_irem hx hb d_M_powerAt_3 (by decide) ?_
  refine lv_topi (fun v1 ev1 => ?_)
  obtain rfl : v1 = nI (p9 % 10) := ev1.trans (pk_rem (by omega) (by omega) (by omega))
  refine lv_bipush (v := nI 16) hx hb d_M_powerAt_4 (by decide) ?_
  refine lv_iload_n hx hb d_M_powerAt_6 rfl (lv_at hl 0 rfl) ?_
  refine lv_bipush (v := nI 10) hx hb d_M_powerAt_7 (by decide) ?_
  refine lv_idiv hx hb d_M_powerAt_9 (by decide) ?_
  refine lv_topi (fun v2 ev2 => ?_)
  obtain rfl : v2 = nI (p9 / 10) := ev2.trans (pk_div (by omega) (by omega) (by omega))
  refine lv_bipush (v := nI 10) hx hb d_M_powerAt_10 (by decide) ?_
  refine lv_irem hx hb d_M_powerAt_12 (by decide) ?_
  refine lv_topi (fun v3 ev3 => ?_)
  obtain rfl : v3 = nI ((p9 / 10) % 10) := ev3.trans (pk_rem (by omega) (by omega) (by omega))
  refine lv_imul hx hb d_M_powerAt_13 ?_
  refine lv_topi (fun v4 ev4 => ?_)
  obtain rfl : v4 = nI (16 * ((p9 / 10) % 10)) := ev4.trans (pk_mul _ _)
  refine lv_iadd hx hb d_M_powerAt_14 ?_
  refine lv_topi (fun v5 ev5 => ?_)
  obtain rfl : v5 = nI ((p9 % 10) + (16 * ((p9 / 10) % 10))) := ev5.trans (nI_add _ _)
  refine lv_sipush (v := nI 256) hx hb d_M_powerAt_15 (by decide) ?_
  refine lv_iload_n hx hb d_M_powerAt_18 rfl (lv_at hl 0 rfl) ?_
  refine lv_bipush (v := nI 100) hx hb d_M_powerAt_19 (by decide) ?_
  refine lv_idiv hx hb d_M_powerAt_21 (by decide) ?_
  refine lv_topi (fun v6 ev6 => ?_)
  obtain rfl : v6 = nI (p9 / 100) := ev6.trans (pk_div (by omega) (by omega) (by omega))
  refine lv_imul hx hb d_M_powerAt_22 ?_
  refine lv_topi (fun v7 ev7 => ?_)
  obtain rfl : v7 = nI (256 * (p9 / 100)) := ev7.trans (pk_mul _ _)
  refine lv_iadd hx hb d_M_powerAt_23 ?_
  refine lv_topi (fun v8 ev8 => ?_)
  obtain rfl : v8 = nI (((p9 % 10) + (16 * ((p9 / 10) % 10))) + (256 * (p9 / 100))) := ev8.trans (nI_add _ _)
  refine mp_iret hx hb hr hlocks hI (by decide) (by decide) ?_ d_M_powerAt_24
  exact ⟨rfl, rfl⟩
set_option maxHeartbeats 4000000 in
set_option maxRecDepth 100000 in
/-- a cell of the cube -/
theorem c_M_cell (l : Launch) (D : mp_G) (g : Nat → ClassId) (S : mp_M) (sz : Nat) (a b d : Nat)   : Met l y_M_cell w_M_cell ({ frames := 0, cells := 0, slots := 0, locals := 0 }) (va_Pc [.int (nI a), .int (nI b), .int (nI d)] (mp_B0 D classes (tys g) S sz)) (va_Qi (fun (r : Int32) (S1 : mp_M) => r = nI (clN a b d) ∧ S1 = S) (mp_B1 D classes S sz) (mp_A S sz)) 0 0 (mp_A S sz) := by
  refine Met.ofW (cc := b_M_cell) (maxL := 3) (ret := (some .int)) (by decide) rfl ?_
  intro p e s m args below meth c s₁ B hml hv
  obtain ⟨rfl, hsz, hH, hK⟩ := hv
  have hx := B.exec
  have hb := B.bytes
  have hr := B.returns
  have hts := atoms_spec (ws := w_M_cell) B.pre
  have hg : ∀ w ∈ gw, w.before _ s = true := fun w h => hts w (List.mem_cons_of_mem _ h)
  have hown : s.vm.findClass R_M = some m.cls := findClass_of_methodNamed B.named
  have hlocks := B.notSynchronized
  subst hsz
  have hI := mp_I.start hH
  have hl := lv_entry ([.int (nI a), .int (nI b), .int (nI d)]) (n := 3) (Nat.le_of_ble_eq_true rfl)
  rw [lg_entry_eq]
  generalize (lg_sl ([.int (nI a), .int (nI b), .int (nI d)]) ++ List.replicate (3 - (lg_sl ([.int (nI a), .int (nI b), .int (nI d)])).length) Slot.unset).toArray = ls at hl ⊢
  have hl : lv_has ls 3 [(0, .int (nI a)), (1, .int (nI b)), (2, .int (nI d))] := hl
  refine lv_iload_n hx hb d_M_cell_0 rfl (lv_at hl 0 rfl) ?_
  refine lv_bipush (v := nI 28) hx hb d_M_cell_1 (by decide) ?_
  refine lv_iload_n hx hb d_M_cell_3 rfl (lv_at hl 1 rfl) ?_
  refine lv_imul hx hb d_M_cell_4 ?_
  refine lv_topi (fun v1 ev1 => ?_)
  obtain rfl : v1 = nI (28 * b) := ev1.trans (pk_mul _ _)
  refine lv_iadd hx hb d_M_cell_5 ?_
  refine lv_topi (fun v2 ev2 => ?_)
  obtain rfl : v2 = nI (a + (28 * b)) := ev2.trans (nI_add _ _)
  refine lv_sipush (v := nI 784) hx hb d_M_cell_6 (by decide) ?_
  refine lv_iload_n hx hb d_M_cell_9 rfl (lv_at hl 2 rfl) ?_
  refine lv_imul hx hb d_M_cell_10 ?_
  refine lv_topi (fun v3 ev3 => ?_)
  obtain rfl : v3 = nI (784 * d) := ev3.trans (pk_mul _ _)
  refine lv_iadd hx hb d_M_cell_11 ?_
  refine lv_topi (fun v4 ev4 => ?_)
  obtain rfl : v4 = nI ((a + (28 * b)) + (784 * d)) := ev4.trans (nI_add _ _)
  refine mp_iret hx hb hr hlocks hI (by decide) (by decide) ?_ d_M_cell_12
  exact ⟨rfl, rfl⟩
set_option maxHeartbeats 4000000 in
set_option maxRecDepth 100000 in
/-- the cell of a place -/
theorem c_M_cellOf (l : Launch) (D : mp_G) (g : Nat → ClassId) (S : mp_M) (sz : Nat) (p9 : Nat)  (hp : p9 < 1000) : Met l y_M_cellOf w_M_cellOf ({ frames := 1, cells := 0, slots := 0, locals := 22 }) (va_Pc [.int (nI p9)] (mp_B0 D classes (tys g) S sz)) (va_Qi (fun (r : Int32) (S1 : mp_M) => r = nI (clN (eN p9 0) (eN p9 1) (eN p9 2)) ∧ S1 = S) (mp_B1 D classes S sz) (mp_A S sz)) 0 0 (mp_A S sz) := by
  refine Met.ofW (cc := b_M_cellOf) (maxL := 1) (ret := (some .int)) (by decide) rfl ?_
  intro p e s m args below meth c s₁ B hml hv
  obtain ⟨rfl, hsz, hH, hK⟩ := hv
  have hx := B.exec
  have hb := B.bytes
  have hr := B.returns
  have hts := atoms_spec (ws := w_M_cellOf) B.pre
  have hg : ∀ w ∈ gw, w.before _ s = true := fun w h => hts w (List.mem_cons_of_mem _ h)
  have hown : s.vm.findClass R_M = some m.cls := findClass_of_methodNamed B.named
  have hlocks := B.notSynchronized
  subst hsz
  have hI := mp_I.start hH
  have hl := lv_entry ([.int (nI p9)]) (n := 1) (Nat.le_of_ble_eq_true rfl)
  rw [lg_entry_eq]
  generalize (lg_sl ([.int (nI p9)]) ++ List.replicate (1 - (lg_sl ([.int (nI p9)])).length) Slot.unset).toArray = ls at hl ⊢
  have hl : lv_has ls 1 [(0, .int (nI p9))] := hl
  refine lv_iload_n hx hb d_M_cellOf_0 rfl (lv_at hl 0 rfl) ?_
  refine lv_iconst (v := nI 0) hx hb d_M_cellOf_1 (by decide) ?_
  refine mp_calli hI (va_runS (As := [.int (nI p9), .int (nI 0)]) (rest := []) ⟨hx, hb, hml, hown, hg⟩ (c_M_expo l D g S _ p9 0 hp (by decide)) ⟨(callB_of 2 hg (wd_goodG q_943) rfl rfl rfl (hg _ q_5) (hg _ q_941) (by decide +kernel) ⟨Nat.le_of_ble_eq_true rfl, Nat.le_of_ble_eq_true rfl⟩), hg _ q_942⟩ (mp_pre hI hK [.int (nI p9), .int (nI 0)]) rfl rfl hl.1 rfl (lv_room (Nat.le_of_ble_eq_true rfl)) d_M_cellOf_2 ⟨Nat.le_of_ble_eq_true rfl, Nat.le_of_ble_eq_true rfl⟩) (fun r4 S1 H2 locs p_3 hI => ?_)
  obtain ⟨er4, eS5⟩ := p_3
  rw [eS5] at hI
  have er4 : r4 = nI (eN p9 0) := er4
  subst er4
  refine lv_iload_n hx hb d_M_cellOf_5 rfl (lv_at hl 0 rfl) ?_
  refine lv_iconst (v := nI 1) hx hb d_M_cellOf_6 (by decide) ?_
  refine mp_calli hI (va_runS (As := [.int (nI p9), .int (nI 1)]) (rest := [.int (nI (eN p9 0))]) ⟨hx, hb, hml, hown, hg⟩ (c_M_expo l D g S _ p9 1 hp (by decide)) ⟨(callB_of 2 hg (wd_goodG q_943) rfl rfl rfl (hg _ q_5) (hg _ q_941) (by decide +kernel) ⟨Nat.le_of_ble_eq_true rfl, Nat.le_of_ble_eq_true rfl⟩), hg _ q_942⟩ (mp_pre hI hK [.int (nI p9), .int (nI 1)]) rfl rfl hl.1 rfl (lv_room (Nat.le_of_ble_eq_true rfl)) d_M_cellOf_7 ⟨Nat.le_of_ble_eq_true rfl, Nat.le_of_ble_eq_true rfl⟩) (fun r9 S6 H7 locs p_8 hI => ?_)
  obtain ⟨er9, eS10⟩ := p_8
  rw [eS10] at hI
  have er9 : r9 = nI (eN p9 1) := er9
  subst er9
  refine lv_iload_n hx hb d_M_cellOf_10 rfl (lv_at hl 0 rfl) ?_
  refine lv_iconst (v := nI 2) hx hb d_M_cellOf_11 (by decide) ?_
  refine mp_calli hI (va_runS (As := [.int (nI p9), .int (nI 2)]) (rest := [.int (nI (eN p9 1)), .int (nI (eN p9 0))]) ⟨hx, hb, hml, hown, hg⟩ (c_M_expo l D g S _ p9 2 hp (by decide)) ⟨(callB_of 2 hg (wd_goodG q_943) rfl rfl rfl (hg _ q_5) (hg _ q_941) (by decide +kernel) ⟨Nat.le_of_ble_eq_true rfl, Nat.le_of_ble_eq_true rfl⟩), hg _ q_942⟩ (mp_pre hI hK [.int (nI p9), .int (nI 2)]) rfl rfl hl.1 rfl (lv_room (Nat.le_of_ble_eq_true rfl)) d_M_cellOf_12 ⟨Nat.le_of_ble_eq_true rfl, Nat.le_of_ble_eq_true rfl⟩) (fun r14 S11 H12 locs p_13 hI => ?_)
  obtain ⟨er14, eS15⟩ := p_13
  rw [eS15] at hI
  have er14 : r14 = nI (eN p9 2) := er14
  subst er14
  refine mp_calli hI (va_runS (As := [.int (nI (eN p9 0)), .int (nI (eN p9 1)), .int (nI (eN p9 2))]) (rest := []) ⟨hx, hb, hml, hown, hg⟩ (c_M_cell l D g S _ (eN p9 0) (eN p9 1) (eN p9 2)) ⟨(callB_of 3 hg (wd_goodG q_986) rfl rfl rfl (hg _ q_5) (hg _ q_984) (by decide +kernel) ⟨Nat.le_of_ble_eq_true rfl, Nat.le_of_ble_eq_true rfl⟩), hg _ q_985⟩ (mp_pre hI hK [.int (nI (eN p9 0)), .int (nI (eN p9 1)), .int (nI (eN p9 2))]) rfl rfl hl.1 rfl (lv_room (Nat.le_of_ble_eq_true rfl)) d_M_cellOf_15 ⟨Nat.le_of_ble_eq_true rfl, Nat.le_of_ble_eq_true rfl⟩) (fun r19 S16 H17 locs p_18 hI => ?_)
  obtain ⟨er19, eS20⟩ := p_18
  rw [eS20] at hI
  have er19 : r19 = nI (clN (eN p9 0) (eN p9 1) (eN p9 2)) := er19
  subst er19
  refine mp_iret hx hb hr hlocks hI (by decide) (by decide) ?_ d_M_cellOf_18
  exact ⟨rfl, rfl⟩
set_option maxHeartbeats 4000000 in
set_option maxRecDepth 100000 in
/-- the greater one -/
theorem c_M_greater (l : Launch) (D : mp_G) (g : Nat → ClassId) (S : mp_M) (sz : Nat) (a b : Nat)  (ha : a < 2 ^ 31) (hb9 : b < 2 ^ 31) : Met l y_M_greater w_M_greater ({ frames := 0, cells := 0, slots := 0, locals := 0 }) (va_Pc [.int (nI a), .int (nI b)] (mp_B0 D classes (tys g) S sz)) (va_Qi (fun (r : Int32) (S1 : mp_M) => r = nI (max a b) ∧ S1 = S) (mp_B1 D classes S sz) (mp_A S sz)) 0 0 (mp_A S sz) := by
  refine Met.ofW (cc := b_M_greater) (maxL := 2) (ret := (some .int)) (by decide) rfl ?_
  intro p e s m args below meth c s₁ B hml hv
  obtain ⟨rfl, hsz, hH, hK⟩ := hv
  have hx := B.exec
  have hb := B.bytes
  have hr := B.returns
  have hts := atoms_spec (ws := w_M_greater) B.pre
  have hg : ∀ w ∈ gw, w.before _ s = true := fun w h => hts w (List.mem_cons_of_mem _ h)
  have hown : s.vm.findClass R_M = some m.cls := findClass_of_methodNamed B.named
  have hlocks := B.notSynchronized
  subst hsz
  have hI := mp_I.start hH
  have hl := lv_entry ([.int (nI a), .int (nI b)]) (n := 2) (Nat.le_of_ble_eq_true rfl)
  rw [lg_entry_eq]
  generalize (lg_sl ([.int (nI a), .int (nI b)]) ++ List.replicate (2 - (lg_sl ([.int (nI a), .int (nI b)])).length) Slot.unset).toArray = ls at hl ⊢
  have hl : lv_has ls 2 [(0, .int (nI a)), (1, .int (nI b))] := hl
  refine lv_iload_n hx hb d_M_greater_0 rfl (lv_at hl 0 rfl) ?_
  refine lv_iload_n hx hb d_M_greater_1 rfl (lv_at hl 1 rfl) ?_
  refine lv_icmp_le (tgt := 9) hx hb d_M_greater_2 (by decide) (fun c1 => ?_) (fun c1 => ?_)
  · rw [nI_leI (by omega) (by omega)] at c1
    refine lv_iload_n hx hb d_M_greater_9 rfl (lv_at hl 1 rfl) ?_
    refine mp_iret hx hb hr hlocks hI (by decide) (by decide) ?_ d_M_greater_10
    exact ⟨congrArg nI (by omega), rfl⟩
  · rw [nI_leI (by omega) (by omega)] at c1
    refine lv_iload_n hx hb d_M_greater_5 rfl (lv_at hl 0 rfl) ?_
    refine lv_goto (tgt := 10) hx hb d_M_greater_6 (by decide) ?_
    refine mp_iret hx hb hr hlocks hI (by decide) (by decide) ?_ d_M_greater_10
    exact ⟨congrArg nI (by omega), rfl⟩
set_option maxHeartbeats 4000000 in
set_option maxRecDepth 100000 in
/-- a power of one letter -/
theorem c_M_isAlone (l : Launch) (D : mp_G) (g : Nat → ClassId) (S : mp_M) (sz : Nat) (p9 j : Nat)  (hp : p9 < 1000) (hj : j < 3) : Met l y_M_isAlone w_M_isAlone ({ frames := 2, cells := 0, slots := 0, locals := 41 }) (va_Pc [.int (nI p9), .int (nI j)] (mp_B0 D classes (tys g) S sz)) (va_Qi (fun (r : Int32) (S1 : mp_M) => (((p9 ≠ 0 ∧ dN p9 = eN p9 j) ∧ r = 1) ∨ (¬ (p9 ≠ 0 ∧ dN p9 = eN p9 j) ∧ r = 0)) ∧ S1 = S) (mp_B1 D classes S sz) (mp_A S sz)) 0 0 (mp_A S sz) := by
  refine Met.ofW (cc := b_M_isAlone) (maxL := 2) (ret := (some .boolean)) (by decide) rfl ?_
  intro p e s m args below meth c s₁ B hml hv
  obtain ⟨rfl, hsz, hH, hK⟩ := hv
  have hx := B.exec
  have hb := B.bytes
  have hr := B.returns
  have hts := atoms_spec (ws := w_M_isAlone) B.pre
  have hg : ∀ w ∈ gw, w.before _ s = true := fun w h => hts w (List.mem_cons_of_mem _ h)
  have hown : s.vm.findClass R_M = some m.cls := findClass_of_methodNamed B.named
  have hlocks := B.notSynchronized
  subst hsz
  have hI := mp_I.start hH
  have hl := lv_entry ([.int (nI p9), .int (nI j)]) (n := 2) (Nat.le_of_ble_eq_true rfl)
  rw [lg_entry_eq]
  generalize (lg_sl ([.int (nI p9), .int (nI j)]) ++ List.replicate (2 - (lg_sl ([.int (nI p9), .int (nI j)])).length) Slot.unset).toArray = ls at hl ⊢
  have hl : lv_has ls 2 [(0, .int (nI p9)), (1, .int (nI j))] := hl
  have d1 := dN_lt hp
  have a1 := eN_lt j hp
  refine lv_iload_n hx hb d_M_isAlone_0 rfl (lv_at hl 0 rfl) ?_
  refine lv_if_eq (tgt := 20) hx hb d_M_isAlone_1 (by decide) (fun c1 => ?_) (fun c1 => ?_)
  · rw [zI_eq (by omega)] at c1
    refine lv_iconst (v := nI 0) hx hb d_M_isAlone_20 (by decide) ?_
    refine mp_zret hx hb hr hlocks hI (by decide) (by decide) ?_ (by decide) d_M_isAlone_21
    exact ⟨Or.inr ⟨fun q => q.1 c1, rfl⟩, rfl⟩
  · rw [zI_eq (by omega)] at c1
    refine lv_iload_n hx hb d_M_isAlone_4 rfl (lv_at hl 0 rfl) ?_
    refine mp_calli hI (va_runS (As := [.int (nI p9)]) (rest := []) ⟨hx, hb, hml, hown, hg⟩ (c_M_degree l D g S _ p9 hp) ⟨(callB_of 1 hg (wd_goodG q_940) rfl rfl rfl (hg _ q_5) (hg _ q_938) (by decide +kernel) ⟨Nat.le_of_ble_eq_true rfl, Nat.le_of_ble_eq_true rfl⟩), hg _ q_939⟩ (mp_pre hI hK [.int (nI p9)]) rfl rfl hl.1 rfl (lv_room (Nat.le_of_ble_eq_true rfl)) d_M_isAlone_5 ⟨Nat.le_of_ble_eq_true rfl, Nat.le_of_ble_eq_true rfl⟩) (fun r4 S1 H2 locs p_3 hI => ?_)
    obtain ⟨er4, eS5⟩ := p_3
    rw [eS5] at hI
    have er4 : r4 = nI (dN p9) := er4
    subst er4
    refine lv_iload_n hx hb d_M_isAlone_8 rfl (lv_at hl 0 rfl) ?_
    refine lv_iload_n hx hb d_M_isAlone_9 rfl (lv_at hl 1 rfl) ?_
    refine mp_calli hI (va_runS (As := [.int (nI p9), .int (nI j)]) (rest := [.int (nI (dN p9))]) ⟨hx, hb, hml, hown, hg⟩ (c_M_expo l D g S _ p9 j hp hj) ⟨(callB_of 2 hg (wd_goodG q_943) rfl rfl rfl (hg _ q_5) (hg _ q_941) (by decide +kernel) ⟨Nat.le_of_ble_eq_true rfl, Nat.le_of_ble_eq_true rfl⟩), hg _ q_942⟩ (mp_pre hI hK [.int (nI p9), .int (nI j)]) rfl rfl hl.1 rfl (lv_room (Nat.le_of_ble_eq_true rfl)) d_M_isAlone_10 ⟨Nat.le_of_ble_eq_true rfl, Nat.le_of_ble_eq_true rfl⟩) (fun r9 S6 H7 locs p_8 hI => ?_)
    obtain ⟨er9, eS10⟩ := p_8
    rw [eS10] at hI
    have er9 : r9 = nI (eN p9 j) := er9
    subst er9
    refine lv_icmp_ne (tgt := 20) hx hb d_M_isAlone_13 (by decide) (fun c2 => ?_) (fun c2 => ?_)
    · rw [nI_eq (by omega) (by omega)] at c2
      refine lv_iconst (v := nI 0) hx hb d_M_isAlone_20 (by decide) ?_
      refine mp_zret hx hb hr hlocks hI (by decide) (by decide) ?_ (by decide) d_M_isAlone_21
      exact ⟨Or.inr ⟨fun q => c2 q.2, rfl⟩, rfl⟩
    · rw [nI_eq (by omega) (by omega)] at c2
      refine lv_iconst (v := nI 1) hx hb d_M_isAlone_16 (by decide) ?_
      refine lv_goto (tgt := 21) hx hb d_M_isAlone_17 (by decide) ?_
      refine mp_zret hx hb hr hlocks hI (by decide) (by decide) ?_ (by decide) d_M_isAlone_21
      exact ⟨Or.inl ⟨⟨c1, c2⟩, rfl⟩, rfl⟩
