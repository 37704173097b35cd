theorem pm_sq (q k P : Nat) : ((q * q % P) ^ k) % P = (q ^ (2 * k)) % P := by rw [← Nat.pow_mod, ← Nat.pow_two, ← Nat.pow_mul]
theorem pm_odd {r q k P : Nat} (h : k % 2 = 1) : ((r * q % P) * (q * q % P) ^ (k / 2)) % P = (r * q ^ k) % P := by
  rw [Nat.mul_mod, Nat.mod_mod, pm_sq, ← Nat.mul_mod, Nat.mul_assoc, ← Nat.pow_succ', show (2 * (k / 2)).succ = k by omega]
theorem pm_even {r q k P : Nat} (h : ¬ k % 2 = 1) : (r * (q * q % P) ^ (k / 2)) % P = (r * q ^ k) % P := by
  rw [Nat.mul_mod, pm_sq, ← Nat.mul_mod, show 2 * (k / 2) = k by omega]
theorem pm_lt {r q : Nat} (hr : r < 32003) (hq : q < 32003) : r * q < 2 ^ 31 := Nat.lt_of_le_of_lt (Nat.mul_le_mul (Nat.le_of_lt_succ hr) (Nat.le_of_lt_succ hq)) (by decide)
theorem s1m : (nI 1).toBitVec.toNat = 2 ^ 1 - 1 := by decide
theorem s15m : (nI 15).toBitVec.toNat = 2 ^ 4 - 1 := by decide
theorem sh1 : ((nI 1 &&& 31).toBitVec.smod 32).toNat = 1 := by decide
theorem sh4 : ((nI 4 &&& 31).toBitVec.smod 32).toNat = 4 := by decide
theorem sh8 : ((nI 8 &&& 31).toBitVec.smod 32).toNat = 8 := by decide
theorem sh4n {n : Nat} (h : n < 4) : ((nI (4 * n) &&& 31).toBitVec.smod 32).toNat = 4 * n := by
  rcases (show n = 0 ∨ n = 1 ∨ n = 2 ∨ n = 3 by omega) with rfl | rfl | rfl | rfl <;> decide
theorem tri_nI (a : Nat) : nI a * (nI a - nI 1) = nI (a * (a - 1)) := by
  cases a with
  | zero => decide
  | succ n => rw [pk_sub (by omega), pk_mul]
theorem tri_le (a s : Nat) (h : a ≤ s) : a * (a - 1) / 2 ≤ a * (s + 1) := Nat.le_trans (Nat.div_le_self _ _) (Nat.mul_le_mul (Nat.le_refl a) (by omega))
theorem cub_lt {s : Nat} (h : s < 96) : s * (s + 1) * (s + 2) < 2 ^ 31 := Nat.lt_of_le_of_lt (Nat.mul_le_mul (Nat.mul_le_mul (Nat.le_of_lt_succ h) (Nat.le_of_lt_succ (Nat.succ_lt_succ h))) (show s + 2 ≤ 97 by omega)) (by decide)
theorem tri_lt {a : Nat} (h : a < 96) : a * (a - 1) < 2 ^ 31 := Nat.lt_of_le_of_lt (Nat.mul_le_mul (Nat.le_of_lt_succ h) (show a - 1 ≤ 95 by omega)) (by decide)
/-- the power that a number writes, of n letters -/
def pwOk (n v : Nat) : Prop := v / 2 ^ (4 * n) = 0 ∧ v % 16 ≤ 9 ∧ v / 16 % 16 ≤ 9 ∧ v / 256 ≤ 9
theorem d_B_inverse_0 : decode b_B_inverse 0 = .ok (.iconst 1, 1) := by decide +kernel
theorem d_B_inverse_1 : decode b_B_inverse 1 = .ok (.istore_n 1, 1) := by decide +kernel
theorem d_B_inverse_2 : decode b_B_inverse 2 = .ok (.iload_n 0, 1) := by decide +kernel
theorem d_B_inverse_3 : decode b_B_inverse 3 = .ok (.istore_n 2, 1) := by decide +kernel
theorem d_B_inverse_4 : decode b_B_inverse 4 = .ok (.sipush 32001, 3) := by decide +kernel
theorem d_B_inverse_7 : decode b_B_inverse 7 = .ok (.istore_n 3, 1) := by decide +kernel
theorem d_B_inverse_8 : decode b_B_inverse 8 = .ok (.iload_n 3, 1) := by decide +kernel
theorem d_B_inverse_9 : decode b_B_inverse 9 = .ok (.ifCond .le 33, 3) := by decide +kernel
theorem d_B_inverse_12 : decode b_B_inverse 12 = .ok (.iload_n 3, 1) := by decide +kernel
theorem d_B_inverse_13 : decode b_B_inverse 13 = .ok (.iconst 1, 1) := by decide +kernel
theorem d_B_inverse_14 : decode b_B_inverse 14 = .ok (.iand, 1) := by decide +kernel
theorem d_B_inverse_15 : decode b_B_inverse 15 = .ok (.iconst 1, 1) := by decide +kernel
theorem d_B_inverse_16 : decode b_B_inverse 16 = .ok (.if_icmp .ne 11, 3) := by decide +kernel
theorem d_B_inverse_19 : decode b_B_inverse 19 = .ok (.iload_n 1, 1) := by decide +kernel
theorem d_B_inverse_20 : decode b_B_inverse 20 = .ok (.iload_n 2, 1) := by decide +kernel
theorem d_B_inverse_21 : decode b_B_inverse 21 = .ok (.imul, 1) := by decide +kernel
theorem d_B_inverse_22 : decode b_B_inverse 22 = .ok (.sipush 32003, 3) := by decide +kernel
theorem d_B_inverse_25 : decode b_B_inverse 25 = .ok (.irem, 1) := by decide +kernel
theorem d_B_inverse_26 : decode b_B_inverse 26 = .ok (.istore_n 1, 1) := by decide +kernel
theorem d_B_inverse_27 : decode b_B_inverse 27 = .ok (.iload_n 2, 1) := by decide +kernel
theorem d_B_inverse_28 : decode b_B_inverse 28 = .ok (.iload_n 2, 1) := by decide +kernel
theorem d_B_inverse_29 : decode b_B_inverse 29 = .ok (.imul, 1) := by decide +kernel
theorem d_B_inverse_30 : decode b_B_inverse 30 = .ok (.sipush 32003, 3) := by decide +kernel
theorem d_B_inverse_33 : decode b_B_inverse 33 = .ok (.irem, 1) := by decide +kernel
theorem d_B_inverse_34 : decode b_B_inverse 34 = .ok (.istore_n 2, 1) := by decide +kernel
theorem d_B_inverse_35 : decode b_B_inverse 35 = .ok (.iload_n 3, 1) := by decide +kernel
theorem d_B_inverse_36 : decode b_B_inverse 36 = .ok (.iconst 1, 1) := by decide +kernel
theorem d_B_inverse_37 : decode b_B_inverse 37 = .ok (.ishr, 1) := by decide +kernel
theorem d_B_inverse_38 : decode b_B_inverse 38 = .ok (.istore_n 3, 1) := by decide +kernel
theorem d_B_inverse_39 : decode b_B_inverse 39 = .ok (.goto (-31), 3) := by decide +kernel
theorem d_B_inverse_42 : decode b_B_inverse 42 = .ok (.iload_n 1, 1) := by decide +kernel
theorem d_B_inverse_43 : decode b_B_inverse 43 = .ok (.ireturn, 1) := by decide +kernel
theorem d_W_keyOf_0 : decode b_W_keyOf 0 = .ok (.iload_n 0, 1) := by decide +kernel
theorem d_W_keyOf_1 : decode b_W_keyOf 1 = .ok (.ifCond .lt 11, 3) := by decide +kernel
theorem d_W_keyOf_4 : decode b_W_keyOf 4 = .ok (.iload_n 0, 1) := by decide +kernel
theorem d_W_keyOf_5 : decode b_W_keyOf 5 = .ok (.iconst 4, 1) := by decide +kernel
theorem d_W_keyOf_6 : decode b_W_keyOf 6 = .ok (.iload_n 1, 1) := by decide +kernel
theorem d_W_keyOf_7 : decode b_W_keyOf 7 = .ok (.imul, 1) := by decide +kernel
theorem d_W_keyOf_8 : decode b_W_keyOf 8 = .ok (.ishr, 1) := by decide +kernel
theorem d_W_keyOf_9 : decode b_W_keyOf 9 = .ok (.ifCond .eq 5, 3) := by decide +kernel
theorem d_W_keyOf_12 : decode b_W_keyOf 12 = .ok (.iconst (-1), 1) := by decide +kernel
theorem d_W_keyOf_13 : decode b_W_keyOf 13 = .ok (.ireturn, 1) := by decide +kernel
theorem d_W_keyOf_14 : decode b_W_keyOf 14 = .ok (.iload_n 0, 1) := by decide +kernel
theorem d_W_keyOf_15 : decode b_W_keyOf 15 = .ok (.bipush 15, 2) := by decide +kernel
theorem d_W_keyOf_17 : decode b_W_keyOf 17 = .ok (.iand, 1) := by decide +kernel
theorem d_W_keyOf_18 : decode b_W_keyOf 18 = .ok (.istore_n 2, 1) := by decide +kernel
theorem d_W_keyOf_19 : decode b_W_keyOf 19 = .ok (.iload_n 0, 1) := by decide +kernel
theorem d_W_keyOf_20 : decode b_W_keyOf 20 = .ok (.iconst 4, 1) := by decide +kernel
theorem d_W_keyOf_21 : decode b_W_keyOf 21 = .ok (.ishr, 1) := by decide +kernel
theorem d_W_keyOf_22 : decode b_W_keyOf 22 = .ok (.bipush 15, 2) := by decide +kernel
theorem d_W_keyOf_24 : decode b_W_keyOf 24 = .ok (.iand, 1) := by decide +kernel
theorem d_W_keyOf_25 : decode b_W_keyOf 25 = .ok (.istore_n 3, 1) := by decide +kernel
theorem d_W_keyOf_26 : decode b_W_keyOf 26 = .ok (.iload_n 0, 1) := by decide +kernel
theorem d_W_keyOf_27 : decode b_W_keyOf 27 = .ok (.bipush 8, 2) := by decide +kernel
theorem d_W_keyOf_29 : decode b_W_keyOf 29 = .ok (.ishr, 1) := by decide +kernel
theorem d_W_keyOf_30 : decode b_W_keyOf 30 = .ok (.istore 4, 2) := by decide +kernel
theorem d_W_keyOf_32 : decode b_W_keyOf 32 = .ok (.iload_n 2, 1) := by decide +kernel
theorem d_W_keyOf_33 : decode b_W_keyOf 33 = .ok (.bipush 9, 2) := by decide +kernel
theorem d_W_keyOf_35 : decode b_W_keyOf 35 = .ok (.if_icmp .gt 20, 3) := by decide +kernel
theorem d_W_keyOf_38 : decode b_W_keyOf 38 = .ok (.iload_n 3, 1) := by decide +kernel
theorem d_W_keyOf_39 : decode b_W_keyOf 39 = .ok (.bipush 9, 2) := by decide +kernel
theorem d_W_keyOf_41 : decode b_W_keyOf 41 = .ok (.if_icmp .gt 14, 3) := by decide +kernel
theorem d_W_keyOf_44 : decode b_W_keyOf 44 = .ok (.iload 4, 2) := by decide +kernel
theorem d_W_keyOf_46 : decode b_W_keyOf 46 = .ok (.bipush 9, 2) := by decide +kernel
theorem d_W_keyOf_48 : decode b_W_keyOf 48 = .ok (.if_icmp .gt 7, 3) := by decide +kernel
theorem d_W_keyOf_51 : decode b_W_keyOf 51 = .ok (.iconst 1, 1) := by decide +kernel
theorem d_W_keyOf_52 : decode b_W_keyOf 52 = .ok (.goto 4, 3) := by decide +kernel
theorem d_W_keyOf_55 : decode b_W_keyOf 55 = .ok (.iconst 0, 1) := by decide +kernel
theorem d_W_keyOf_56 : decode b_W_keyOf 56 = .ok (.istore 5, 2) := by decide +kernel
theorem d_W_keyOf_58 : decode b_W_keyOf 58 = .ok (.iload 5, 2) := by decide +kernel
theorem d_W_keyOf_60 : decode b_W_keyOf 60 = .ok (.ifCond .eq 13, 3) := by decide +kernel
theorem d_W_keyOf_63 : decode b_W_keyOf 63 = .ok (.iload_n 2, 1) := by decide +kernel
theorem d_W_keyOf_64 : decode b_W_keyOf 64 = .ok (.iload_n 3, 1) := by decide +kernel
theorem d_W_keyOf_65 : decode b_W_keyOf 65 = .ok (.iload 4, 2) := by decide +kernel
theorem d_W_keyOf_67 : decode b_W_keyOf 67 = .ok (.invokestatic 11, 3) := by decide +kernel
theorem d_W_keyOf_70 : decode b_W_keyOf 70 = .ok (.goto 4, 3) := by decide +kernel
theorem d_W_keyOf_73 : decode b_W_keyOf 73 = .ok (.iconst (-1), 1) := by decide +kernel
theorem d_W_keyOf_74 : decode b_W_keyOf 74 = .ok (.ireturn, 1) := by decide +kernel
theorem d_W_place_0 : decode b_W_place 0 = .ok (.iload_n 0, 1) := by decide +kernel
theorem d_W_place_1 : decode b_W_place 1 = .ok (.bipush 10, 2) := by decide +kernel
theorem d_W_place_3 : decode b_W_place 3 = .ok (.ishr, 1) := by decide +kernel
theorem d_W_place_4 : decode b_W_place 4 = .ok (.istore_n 1, 1) := by decide +kernel
theorem d_W_place_5 : decode b_W_place 5 = .ok (.iload_n 0, 1) := by decide +kernel
theorem d_W_place_6 : decode b_W_place 6 = .ok (.iconst 5, 1) := by decide +kernel
theorem d_W_place_7 : decode b_W_place 7 = .ok (.ishr, 1) := by decide +kernel
theorem d_W_place_8 : decode b_W_place 8 = .ok (.bipush 31, 2) := by decide +kernel
theorem d_W_place_10 : decode b_W_place 10 = .ok (.iand, 1) := by decide +kernel
theorem d_W_place_11 : decode b_W_place 11 = .ok (.istore_n 2, 1) := by decide +kernel
theorem d_W_place_12 : decode b_W_place 12 = .ok (.iload_n 1, 1) := by decide +kernel
theorem d_W_place_13 : decode b_W_place 13 = .ok (.iload_n 1, 1) := by decide +kernel
theorem d_W_place_14 : decode b_W_place 14 = .ok (.iconst 1, 1) := by decide +kernel
theorem d_W_place_15 : decode b_W_place 15 = .ok (.iadd, 1) := by decide +kernel
theorem d_W_place_16 : decode b_W_place 16 = .ok (.imul, 1) := by decide +kernel
theorem d_W_place_17 : decode b_W_place 17 = .ok (.iload_n 1, 1) := by decide +kernel
theorem d_W_place_18 : decode b_W_place 18 = .ok (.iconst 2, 1) := by decide +kernel
theorem d_W_place_19 : decode b_W_place 19 = .ok (.iadd, 1) := by decide +kernel
theorem d_W_place_20 : decode b_W_place 20 = .ok (.imul, 1) := by decide +kernel
theorem d_W_place_21 : decode b_W_place 21 = .ok (.bipush 6, 2) := by decide +kernel
theorem d_W_place_23 : decode b_W_place 23 = .ok (.idiv, 1) := by decide +kernel
theorem d_W_place_24 : decode b_W_place 24 = .ok (.istore_n 3, 1) := by decide +kernel
theorem d_W_place_25 : decode b_W_place 25 = .ok (.iload_n 3, 1) := by decide +kernel
theorem d_W_place_26 : decode b_W_place 26 = .ok (.iload_n 2, 1) := by decide +kernel
theorem d_W_place_27 : decode b_W_place 27 = .ok (.iload_n 1, 1) := by decide +kernel
theorem d_W_place_28 : decode b_W_place 28 = .ok (.iconst 1, 1) := by decide +kernel
theorem d_W_place_29 : decode b_W_place 29 = .ok (.iadd, 1) := by decide +kernel
theorem d_W_place_30 : decode b_W_place 30 = .ok (.imul, 1) := by decide +kernel
theorem d_W_place_31 : decode b_W_place 31 = .ok (.iadd, 1) := by decide +kernel
theorem d_W_place_32 : decode b_W_place 32 = .ok (.iload_n 2, 1) := by decide +kernel
theorem d_W_place_33 : decode b_W_place 33 = .ok (.iload_n 2, 1) := by decide +kernel
theorem d_W_place_34 : decode b_W_place 34 = .ok (.iconst 1, 1) := by decide +kernel
theorem d_W_place_35 : decode b_W_place 35 = .ok (.isub, 1) := by decide +kernel
theorem d_W_place_36 : decode b_W_place 36 = .ok (.imul, 1) := by decide +kernel
theorem d_W_place_37 : decode b_W_place 37 = .ok (.iconst 2, 1) := by decide +kernel
theorem d_W_place_38 : decode b_W_place 38 = .ok (.idiv, 1) := by decide +kernel
theorem d_W_place_39 : decode b_W_place 39 = .ok (.isub, 1) := by decide +kernel
theorem d_W_place_40 : decode b_W_place 40 = .ok (.iload_n 0, 1) := by decide +kernel
theorem d_W_place_41 : decode b_W_place 41 = .ok (.bipush 31, 2) := by decide +kernel
theorem d_W_place_43 : decode b_W_place 43 = .ok (.iand, 1) := by decide +kernel
theorem d_W_place_44 : decode b_W_place 44 = .ok (.iadd, 1) := by decide +kernel
theorem d_W_place_45 : decode b_W_place 45 = .ok (.ireturn, 1) := by decide +kernel
set_option maxHeartbeats 4000000 in
set_option maxRecDepth 100000 in
/-- how many powers are below -/
theorem c_W_place (l : Launch) (D : mp_G) (g : Nat → ClassId) (S : mp_M) (sz : Nat) (a b d : Nat)  (ha : a < 32) (hb9 : b < 32) (hd : d < 32) : Met l y_W_place w_W_place ({ frames := 0, cells := 0, slots := 0, locals := 0 }) (va_Pc [.int (nI (kN a b d))] (mp_B0 D classes (tys g) S sz)) (va_Qi (fun (r : Int32) (S1 : mp_M) => r = nI (plN a b d) ∧ S1 = S) (mp_B1 D classes S sz) (mp_A S sz)) 0 0 (mp_A S sz) := by
  refine Met.ofW (cc := b_W_place) (maxL := 4) (ret := (some .int)) (by decide) rfl ?_
  intro p e s m args below meth c s₁ B hml hv
  obtain ⟨rfl, hsz, hH, hK⟩ := hv
  have hx := B.exec
  have hb := B.bytes
  have hr := B.returns
  have hts := atoms_spec (ws := w_W_place) B.pre
  have hg : ∀ w ∈ gw, w.before _ s = true := fun w h => hts w (List.mem_cons_of_mem _ h)
  have hown : s.vm.findClass R_W = some m.cls := findClass_of_methodNamed B.named
  have hlocks := B.notSynchronized
  subst hsz
  have hI := mp_I.start hH
  have hl := lv_entry ([.int (nI (kN a b d))]) (n := 4) (Nat.le_of_ble_eq_true rfl)
  rw [lg_entry_eq]
  generalize (lg_sl ([.int (nI (kN a b d))]) ++ List.replicate (4 - (lg_sl ([.int (nI (kN a b d))])).length) Slot.unset).toArray = ls at hl ⊢
  have hl : lv_has ls 4 [(0, .int (nI (kN a b d)))] := hl
  refine lv_iload_n hx hb d_W_place_0 rfl (lv_at hl 0 rfl) ?_
  refine lv_bipush (v := nI 10) hx hb d_W_place_1 (by decide) ?_
  refine lv_ishr hx hb d_W_place_3 ?_
  refine lv_topi (fun v1 ev1 => ?_)
  obtain rfl : v1 = nI (a + b + d) := ev1.trans (kN_deg ha hb9 hd)
  refine lv_istore_n (lv' := [(1, .int (nI (a + b + d))), (0, .int (nI (kN a b d)))]) hx hb d_W_place_4 rfl hl (by decide) rfl (fun ls hl => ?_)
  refine lv_iload_n hx hb d_W_place_5 rfl (lv_at hl 1 rfl) ?_
  refine lv_iconst (v := nI 5) hx hb d_W_place_6 (by decide) ?_
  refine lv_ishr hx hb d_W_place_7 ?_
  refine lv_bipush (v := nI 31) hx hb d_W_place_8 (by decide) ?_
  refine lv_iand hx hb d_W_place_10 ?_
  refine lv_topi (fun v2 ev2 => ?_)
  obtain rfl : v2 = nI a := ev2.trans (kN_fst ha hb9 hd)
  refine lv_istore_n (lv' := [(2, .int (nI a)), (1, .int (nI (a + b + d))), (0, .int (nI (kN a b d)))]) hx hb d_W_place_11 rfl hl (by decide) rfl (fun ls hl => ?_)
  refine lv_iload_n hx hb d_W_place_12 rfl (lv_at hl 1 rfl) ?_
  refine lv_iload_n hx hb d_W_place_13 rfl (lv_at hl 1 rfl) ?_
  refine lv_iconst (v := nI 1) hx hb d_W_place_14 (by decide) ?_
  refine lv_iadd hx hb d_W_place_15 ?_
  refine lv_topi (fun v3 ev3 => ?_)
  obtain rfl : v3 = nI ((a + b + d) + 1) := ev3.trans (nI_add _ _)
  refine lv_imul hx hb d_W_place_16 ?_
  refine lv_topi (fun v4 ev4 => ?_)
  obtain rfl : v4 = nI ((a + b + d) * ((a + b + d) + 1)) := ev4.trans (pk_mul _ _)
  refine lv_iload_n hx hb d_W_place_17 rfl (lv_at hl 1 rfl) ?_
  refine lv_iconst (v := nI 2) hx hb d_W_place_18 (by decide) ?_
  refine lv_iadd hx hb d_W_place_19 ?_
  refine lv_topi (fun v5 ev5 => ?_)
  obtain rfl : v5 = nI ((a + b + d) + 2) := ev5.trans (nI_add _ _)
  refine lv_imul hx hb d_W_place_20 ?_
  refine lv_topi (fun v6 ev6 => ?_)
  obtain rfl : v6 = nI (((a + b + d) * ((a + b + d) + 1)) * ((a + b + d) + 2)) := ev6.trans (pk_mul _ _)
  refine lv_bipush (v := nI 6) hx hb d_W_place_21 (by decide) ?_
  refine lv_idiv hx hb d_W_place_23 (by decide) ?_
  refine lv_topi (fun v7 ev7 => ?_)
  obtain rfl : v7 = nI ((((a + b + d) * ((a + b + d) + 1)) * ((a + b + d) + 2)) / 6) := ev7.trans (pk_div (cub_lt (by omega)) (by omega) (by omega))
  refine lv_istore_n (lv' := [(3, .int (nI ((((a + b + d) * ((a + b + d) + 1)) * ((a + b + d) + 2)) / 6))), (2, .int (nI a)), (1, .int (nI (a + b + d))), (0, .int (nI (kN a b d)))]) hx hb d_W_place_24 rfl hl (by decide) rfl (fun ls hl => ?_)
  refine lv_iload_n hx hb d_W_place_25 rfl (lv_at hl 0 rfl) ?_
  refine lv_iload_n hx hb d_W_place_26 rfl (lv_at hl 1 rfl) ?_
  refine lv_iload_n hx hb d_W_place_27 rfl (lv_at hl 2 rfl) ?_
  refine lv_iconst (v := nI 1) hx hb d_W_place_28 (by decide) ?_
  refine lv_iadd hx hb d_W_place_29 ?_
  refine lv_topi (fun v8 ev8 => ?_)
  obtain rfl : v8 = nI ((a + b + d) + 1) := ev8.trans (nI_add _ _)
  refine lv_imul hx hb d_W_place_30 ?_
  refine lv_topi (fun v9 ev9 => ?_)
  obtain rfl : v9 = nI (a * ((a + b + d) + 1)) := ev9.trans (pk_mul _ _)
  refine lv_iadd hx hb d_W_place_31 ?_
  refine lv_topi (fun v10 ev10 => ?_)
  obtain rfl : v10 = nI (((((a + b + d) * ((a + b + d) + 1)) * ((a + b + d) + 2)) / 6) + (a * ((a + b + d) + 1))) := ev10.trans (nI_add _ _)
  refine lv_iload_n hx hb d_W_place_32 rfl (lv_at hl 1 rfl) ?_
  refine lv_iload_n hx hb d_W_place_33 rfl (lv_at hl 1 rfl) ?_
  refine lv_iconst (v := nI 1) hx hb d_W_place_34 (by decide) ?_
  refine lv_isub hx hb d_W_place_35 ?_
  refine lv_imul hx hb d_W_place_36 ?_
  refine lv_topi (fun v11 ev11 => ?_)
  obtain rfl : v11 = nI (a * (a - 1)) := ev11.trans (tri_nI a)
  refine lv_iconst (v := nI 2) hx hb d_W_place_37 (by decide) ?_
  refine lv_idiv hx hb d_W_place_38 (by decide) ?_
  refine lv_topi (fun v12 ev12 => ?_)
  obtain rfl : v12 = nI ((a * (a - 1)) / 2) := ev12.trans (pk_div (tri_lt (by omega)) (by omega) (by omega))
  refine lv_isub hx hb d_W_place_39 ?_
  refine lv_topi (fun v13 ev13 => ?_)
  obtain rfl : v13 = nI ((((((a + b + d) * ((a + b + d) + 1)) * ((a + b + d) + 2)) / 6) + (a * ((a + b + d) + 1))) - ((a * (a - 1)) / 2)) := ev13.trans (pk_sub (Nat.le_trans (tri_le a (a + b + d) (by omega)) (Nat.le_add_left _ _)))
  refine lv_iload_n hx hb d_W_place_40 rfl (lv_at hl 3 rfl) ?_
  refine lv_bipush (v := nI 31) hx hb d_W_place_41 (by decide) ?_
  refine lv_iand hx hb d_W_place_43 ?_
  refine lv_topi (fun v14 ev14 => ?_)
  obtain rfl : v14 = nI b := ev14.trans (kN_snd ha hb9 hd)
  refine lv_iadd hx hb d_W_place_44 ?_
  refine lv_topi (fun v15 ev15 => ?_)
  obtain rfl : v15 = nI (((((((a + b + d) * ((a + b + d) + 1)) * ((a + b + d) + 2)) / 6) + (a * ((a + b + d) + 1))) - ((a * (a - 1)) / 2)) + b) := ev15.trans (nI_add _ _)
  exact mp_iret hx hb hr hlocks hI (by decide) (by decide) (⟨rfl, rfl⟩) d_W_place_45
set_option maxHeartbeats 4000000 in
set_option maxRecDepth 100000 in
/-- no power is negative -/
theorem c_W_keyOfN (l : Launch) (D : mp_G) (g : Nat → ClassId) (S : mp_M) (sz : Nat) (x : Int32) (n : Nat)  (hx9 : x < 0) : Met l y_W_keyOf w_W_keyOf ({ frames := 1, cells := 0, slots := 0, locals := 22 }) (va_Pc [.int x, .int (nI n)] (mp_B0 D classes (tys g) S sz)) (va_Qi (fun (r : Int32) (S1 : mp_M) => r = -1 ∧ S1 = S) (mp_B1 D classes S sz) (mp_A S sz)) 0 0 (mp_A S sz) := by
  refine Met.ofW (cc := b_W_keyOf) (maxL := 6) (ret := (some .int)) (by decide) rfl ?_
  intro p e s m args below meth c s₁ B hml hv
  obtain ⟨rfl, hsz, hH, hK⟩ := hv
  have hx := B.exec
  have hb := B.bytes
  have hr := B.returns
  have hts := atoms_spec (ws := w_W_keyOf) B.pre
  have hg : ∀ w ∈ gw, w.before _ s = true := fun w h => hts w (List.mem_cons_of_mem _ h)
  have hown : s.vm.findClass R_W = some m.cls := findClass_of_methodNamed B.named
  have hlocks := B.notSynchronized
  subst hsz
  have hI := mp_I.start hH
  have hl := lv_entry ([.int x, .int (nI n)]) (n := 6) (Nat.le_of_ble_eq_true rfl)
  rw [lg_entry_eq]
  generalize (lg_sl ([.int x, .int (nI n)]) ++ List.replicate (6 - (lg_sl ([.int x, .int (nI n)])).length) Slot.unset).toArray = ls at hl ⊢
  have hl : lv_has ls 6 [(0, .int x), (1, .int (nI n))] := hl
  refine lv_iload_n hx hb d_W_keyOf_0 rfl (lv_at hl 0 rfl) ?_
  refine lv_if_lt (tgt := 12) hx hb d_W_keyOf_1 (by decide) (fun _ => ?_) (fun h9 => absurd (hx9) h9)
  refine lv_iconst (v := (-1)) hx hb d_W_keyOf_12 (by decide) ?_
  exact mp_iret hx hb hr hlocks hI (by decide) (by decide) (⟨rfl, rfl⟩) d_W_keyOf_13
set_option maxHeartbeats 4000000 in
set_option maxRecDepth 100000 in
/-- the key of a power as it is written -/
theorem c_W_keyOf (l : Launch) (D : mp_G) (g : Nat → ClassId) (S : mp_M) (sz : Nat) (v n : Nat)  (hv : v < 2 ^ 31) (hn : n < 4) (hn0 : 0 < n) : Met l y_W_keyOf w_W_keyOf ({ frames := 1, cells := 0, slots := 0, locals := 22 }) (va_Pc [.int (nI v), .int (nI n)] (mp_B0 D classes (tys g) S sz)) (va_Qi (fun (r : Int32) (S1 : mp_M) => ((pwOk n v ∧ r = nI (kN (v % 16) (v / 16 % 16) (v / 256))) ∨ (¬ pwOk n v ∧ r = -1)) ∧ S1 = S) (mp_B1 D classes S sz) (mp_A S sz)) 0 0 (mp_A S sz) := by
  refine Met.ofW (cc := b_W_keyOf) (maxL := 6) (ret := (some .int)) (by decide) rfl ?_
  intro p e s m args below meth c s₁ B hml hv
  obtain ⟨rfl, hsz, hH, hK⟩ := hv
  have hx := B.exec
  have hb := B.bytes
  have hr := B.returns
  have hts := atoms_spec (ws := w_W_keyOf) B.pre
  have hg : ∀ w ∈ gw, w.before _ s = true := fun w h => hts w (List.mem_cons_of_mem _ h)
  have hown : s.vm.findClass R_W = some m.cls := findClass_of_methodNamed B.named
  have hlocks := B.notSynchronized
  subst hsz
  have hI := mp_I.start hH
  have hl := lv_entry ([.int (nI v), .int (nI n)]) (n := 6) (Nat.le_of_ble_eq_true rfl)
  rw [lg_entry_eq]
  generalize (lg_sl ([.int (nI v), .int (nI n)]) ++ List.replicate (6 - (lg_sl ([.int (nI v), .int (nI n)])).length) Slot.unset).toArray = ls at hl ⊢
  have hl : lv_has ls 6 [(0, .int (nI v)), (1, .int (nI n))] := hl
  refine lv_iload_n hx hb d_W_keyOf_0 rfl (lv_at hl 0 rfl) ?_
  refine lv_if_lt (tgt := 12) hx hb d_W_keyOf_1 (by decide) (fun h9 => absurd h9 (nI_pos hv)) (fun _ => ?_)
  refine lv_iload_n hx hb d_W_keyOf_4 rfl (lv_at hl 0 rfl) ?_
  refine lv_iconst (v := nI 4) hx hb d_W_keyOf_5 (by decide) ?_
  refine lv_iload_n hx hb d_W_keyOf_6 rfl (lv_at hl 1 rfl) ?_
  refine lv_imul hx hb d_W_keyOf_7 ?_
  refine lv_topi (fun v1 ev1 => ?_)
  obtain rfl : v1 = nI (4 * n) := ev1.trans (pk_mul _ _)
  refine lv_ishr hx hb d_W_keyOf_8 ?_
  refine lv_topi (fun v2 ev2 => ?_)
  obtain rfl : v2 = nI (v / 2 ^ (4 * n)) := ev2.trans (pk_shrN hv _ _ (sh4n hn))
  have hdv : v / 2 ^ (4 * n) < 2 ^ 31 := Nat.lt_of_le_of_lt (Nat.div_le_self _ _) hv
  refine lv_if_eq (tgt := 14) hx hb d_W_keyOf_9 (by decide) (fun c1 => ?_) (fun c1 => ?_)
  · rw [zI_eq (by omega)] at c1
    refine lv_iload_n hx hb d_W_keyOf_14 rfl (lv_at hl 0 rfl) ?_
    refine lv_bipush (v := nI 15) hx hb d_W_keyOf_15 (by decide) ?_
    refine lv_iand hx hb d_W_keyOf_17 ?_
    refine lv_topi (fun v3 ev3 => ?_)
    obtain rfl : v3 = nI (v % 16) := ev3.trans (pk_andN (by omega) 4 s15m)
    refine lv_istore_n (lv' := [(2, .int (nI (v % 16))), (0, .int (nI v)), (1, .int (nI n))]) hx hb d_W_keyOf_18 rfl hl (by decide) rfl (fun ls hl => ?_)
    refine lv_iload_n hx hb d_W_keyOf_19 rfl (lv_at hl 1 rfl) ?_
    refine lv_iconst (v := nI 4) hx hb d_W_keyOf_20 (by decide) ?_
    refine lv_ishr hx hb d_W_keyOf_21 ?_
    refine lv_topi (fun v4 ev4 => ?_)
    obtain rfl : v4 = nI (v / 16) := ev4.trans (pk_shrN hv _ 4 sh4)
    refine lv_bipush (v := nI 15) hx hb d_W_keyOf_22 (by decide) ?_
    refine lv_iand hx hb d_W_keyOf_24 ?_
    refine lv_topi (fun v5 ev5 => ?_)
    obtain rfl : v5 = nI (v / 16 % 16) := ev5.trans (pk_andN (by omega) 4 s15m)
    refine lv_istore_n (lv' := [(3, .int (nI (v / 16 % 16))), (2, .int (nI (v % 16))), (0, .int (nI v)), (1, .int (nI n))]) hx hb d_W_keyOf_25 rfl hl (by decide) rfl (fun ls hl => ?_)
    refine lv_iload_n hx hb d_W_keyOf_26 rfl (lv_at hl 2 rfl) ?_
    refine lv_bipush (v := nI 8) hx hb d_W_keyOf_27 (by decide) ?_
    refine lv_ishr hx hb d_W_keyOf_29 ?_
    refine lv_topi (fun v6 ev6 => ?_)
    obtain rfl : v6 = nI (v / 256) := ev6.trans (pk_shrN hv _ 8 sh8)
    refine lv_istore (lv' := [(4, .int (nI (v / 256))), (3, .int (nI (v / 16 % 16))), (2, .int (nI (v % 16))), (0, .int (nI v)), (1, .int (nI n))]) hx hb d_W_keyOf_30 hl (by decide) rfl (fun ls hl => ?_)
    refine lv_iload_n hx hb d_W_keyOf_32 rfl (lv_at hl 2 rfl) ?_
    refine lv_bipush (v := nI 9) hx hb d_W_keyOf_33 (by decide) ?_
    refine lv_icmp_gt (tgt := 55) hx hb d_W_keyOf_35 (by decide) (fun c2 => ?_) (fun c2 => ?_)
    · rw [nI_ltI (by omega) (by omega)] at c2
      refine lv_iconst (v := nI 0) hx hb d_W_keyOf_55 (by decide) ?_
      refine lv_istore (lv' := [(5, .int (nI 0)), (4, .int (nI (v / 256))), (3, .int (nI (v / 16 % 16))), (2, .int (nI (v % 16))), (0, .int (nI v)), (1, .int (nI n))]) hx hb d_W_keyOf_56 hl (by decide) rfl (fun ls hl => ?_)
      refine lv_iload hx hb d_W_keyOf_58 (lv_at hl 0 rfl) ?_
      refine lv_if_eq (tgt := 73) hx hb d_W_keyOf_60 (by decide) (fun _ => ?_) (fun h9 => absurd (nI_0) h9)
      refine lv_iconst (v := (-1)) hx hb d_W_keyOf_73 (by decide) ?_
      exact mp_iret hx hb hr hlocks hI (by decide) (by decide) (⟨Or.inr ⟨fun q => absurd c2 (by have := q.2; omega), rfl⟩, rfl⟩) d_W_keyOf_74
    · rw [nI_ltI (by omega) (by omega)] at c2
      refine lv_iload_n hx hb d_W_keyOf_38 rfl (lv_at hl 1 rfl) ?_
      refine lv_bipush (v := nI 9) hx hb d_W_keyOf_39 (by decide) ?_
      refine lv_icmp_gt (tgt := 55) hx hb d_W_keyOf_41 (by decide) (fun c3 => ?_) (fun c3 => ?_)
      · rw [nI_ltI (by omega) (by omega)] at c3
        refine lv_iconst (v := nI 0) hx hb d_W_keyOf_55 (by decide) ?_
        refine lv_istore (lv' := [(5, .int (nI 0)), (4, .int (nI (v / 256))), (3, .int (nI (v / 16 % 16))), (2, .int (nI (v % 16))), (0, .int (nI v)), (1, .int (nI n))]) hx hb d_W_keyOf_56 hl (by decide) rfl (fun ls hl => ?_)
        refine lv_iload hx hb d_W_keyOf_58 (lv_at hl 0 rfl) ?_
        refine lv_if_eq (tgt := 73) hx hb d_W_keyOf_60 (by decide) (fun _ => ?_) (fun h9 => absurd (nI_0) h9)
        refine lv_iconst (v := (-1)) hx hb d_W_keyOf_73 (by decide) ?_
        exact mp_iret hx hb hr hlocks hI (by decide) (by decide) (⟨Or.inr ⟨fun q => absurd c3 (by have := q.2; omega), rfl⟩, rfl⟩) d_W_keyOf_74
      · rw [nI_ltI (by omega) (by omega)] at c3
        refine lv_iload hx hb d_W_keyOf_44 (lv_at hl 0 rfl) ?_
        refine lv_bipush (v := nI 9) hx hb d_W_keyOf_46 (by decide) ?_
        refine lv_icmp_gt (tgt := 55) hx hb d_W_keyOf_48 (by decide) (fun c4 => ?_) (fun c4 => ?_)
        · rw [nI_ltI (by omega) (by omega)] at c4
          refine lv_iconst (v := nI 0) hx hb d_W_keyOf_55 (by decide) ?_
          refine lv_istore (lv' := [(5, .int (nI 0)), (4, .int (nI (v / 256))), (3, .int (nI (v / 16 % 16))), (2, .int (nI (v % 16))), (0, .int (nI v)), (1, .int (nI n))]) hx hb d_W_keyOf_56 hl (by decide) rfl (fun ls hl => ?_)
          refine lv_iload hx hb d_W_keyOf_58 (lv_at hl 0 rfl) ?_
          refine lv_if_eq (tgt := 73) hx hb d_W_keyOf_60 (by decide) (fun _ => ?_) (fun h9 => absurd (nI_0) h9)
          refine lv_iconst (v := (-1)) hx hb d_W_keyOf_73 (by decide) ?_
          exact mp_iret hx hb hr hlocks hI (by decide) (by decide) (⟨Or.inr ⟨fun q => absurd c4 (by have := q.2; omega), rfl⟩, rfl⟩) d_W_keyOf_74
        · rw [nI_ltI (by omega) (by omega)] at c4
          refine lv_iconst (v := nI 1) hx hb d_W_keyOf_51 (by decide) ?_
          refine lv_goto (tgt := 56) hx hb d_W_keyOf_52 (by decide) ?_
          refine lv_istore (lv' := [(5, .int (nI 1)), (4, .int (nI (v / 256))), (3, .int (nI (v / 16 % 16))), (2, .int (nI (v % 16))), (0, .int (nI v)), (1, .int (nI n))]) hx hb d_W_keyOf_56 hl (by decide) rfl (fun ls hl => ?_)
          refine lv_iload hx hb d_W_keyOf_58 (lv_at hl 0 rfl) ?_
          refine lv_if_eq (tgt := 73) hx hb d_W_keyOf_60 (by decide) (fun h9 => absurd h9 (by decide)) (fun _ => ?_)
          refine lv_iload_n hx hb d_W_keyOf_63 rfl (lv_at hl 3 rfl) ?_
          refine lv_iload_n hx hb d_W_keyOf_64 rfl (lv_at hl 2 rfl) ?_
          refine lv_iload hx hb d_W_keyOf_65 (lv_at hl 1 rfl) ?_
          refine mp_calli hI (va_runS (As := [.int (nI (v % 16)), .int (nI (v / 16 % 16)), .int (nI (v / 256))]) (rest := []) ⟨hx, hb, hml, hown, hg⟩ (c_W_key l D g S _ (v % 16) (v / 16 % 16) (v / 256) (by omega) (by omega) (by omega)) ⟨(callB_of 3 hg (wd_goodG q_183) rfl rfl rfl (hg _ q_11) (hg _ q_329) (by decide +kernel) ⟨Nat.le_of_ble_eq_true rfl, Nat.le_of_ble_eq_true rfl⟩), hg _ q_182⟩ (mp_pre hI hK [.int (nI (v % 16)), .int (nI (v / 16 % 16)), .int (nI (v / 256))]) rfl rfl hl.1 rfl (lv_room (Nat.le_of_ble_eq_true rfl)) d_W_keyOf_67 ⟨Nat.le_of_ble_eq_true rfl, Nat.le_of_ble_eq_true rfl⟩) (fun r10 S7 H8 locs p_9 hI => ?_)
          obtain ⟨er10, eS11⟩ := p_9
          rw [eS11] at hI
          have er10 : r10 = nI (kN (v % 16) (v / 16 % 16) (v / 256)) := er10
          subst er10
          refine lv_goto (tgt := 74) hx hb d_W_keyOf_70 (by decide) ?_
          exact mp_iret hx hb hr hlocks hI (by decide) (by decide) (⟨Or.inl ⟨⟨c1, by omega, by omega, by omega⟩, rfl⟩, rfl⟩) d_W_keyOf_74
  · rw [zI_eq (by omega)] at c1
    refine lv_iconst (v := (-1)) hx hb d_W_keyOf_12 (by decide) ?_
    exact mp_iret hx hb hr hlocks hI (by decide) (by decide) (⟨Or.inr ⟨fun q => c1 q.1, rfl⟩, rfl⟩) d_W_keyOf_13
set_option maxHeartbeats 4000000 in
theorem lp_B_inverse {p : Program} {l : Launch} {e : Env} {R : Room} {s : State} {m : MethodId} {args : Array Value} {below : List Frame} {meth : Method} {c : Code} {H : Heap} {locs : List Loc} {cells slots : Nat} {Q : State → Prop} (hx : p.tables.exec = Jvm.exec) (hb : c.code = b_B_inverse) : ∀ (n k r q : Nat) (ls : Array Slot), k < n → k < 2 ^ 31 → r < 32003 → q < 32003 → lv_has ls 4 [(3, .int (nI k)), (2, .int (nI q)), (1, .int (nI r))] → (∀ ls : Array Slot, lv_has ls 4 [(1, .int (nI ((r * q ^ k) % 32003)))] → W p l e R s m args below meth c H locs cells slots Q (F0 m 42 ls [])) → W p l e R s m args below meth c H locs cells slots Q (F0 m 8 ls []) := by
  intro n
  induction n with
  | zero => intro k r q ls h; omega
  | succ n ih =>
    intro k r q ls hk hk2 hr9 hq9 hl kx
    refine lv_iload_n hx hb d_B_inverse_8 rfl (lv_at hl 0 rfl) ?_
    refine lv_if_le (tgt := 42) hx hb d_B_inverse_9 (by decide) (fun c1 => ?_) (fun c1 => ?_)
    · rw [zI_le (by omega)] at c1
      exact kx ls (lv_sub hl [2] (by rw [c1, Nat.pow_zero, Nat.mul_one, Nat.mod_eq_of_lt hr9]; rfl))
    · rw [zI_le (by omega)] at c1
      refine lv_iload_n hx hb d_B_inverse_12 rfl (lv_at hl 0 rfl) ?_
      refine lv_iconst (v := nI 1) hx hb d_B_inverse_13 (by decide) ?_
      refine lv_iand hx hb d_B_inverse_14 ?_
      refine lv_topi (fun v1 ev1 => ?_)
      obtain rfl : v1 = nI (k % 2) := ev1.trans (pk_andN (by omega) 1 s1m)
      refine lv_iconst (v := nI 1) hx hb d_B_inverse_15 (by decide) ?_
      refine lv_icmp_ne (tgt := 27) hx hb d_B_inverse_16 (by decide) (fun c2 => ?_) (fun c2 => ?_)
      · rw [nI_eq (by omega) (by omega)] at c2
        refine lv_iload_n hx hb d_B_inverse_27 rfl (lv_at hl 1 rfl) ?_
        refine lv_iload_n hx hb d_B_inverse_28 rfl (lv_at hl 1 rfl) ?_
        refine lv_imul hx hb d_B_inverse_29 ?_
        refine lv_topi (fun v2 ev2 => ?_)
        obtain rfl : v2 = nI (q * q) := ev2.trans (pk_mul _ _)
        refine lv_sipush (v := nI 32003) hx hb d_B_inverse_30 (by decide) ?_
        refine lv_irem hx hb d_B_inverse_33 (by decide) ?_
        refine lv_topi (fun v3 ev3 => ?_)
        obtain rfl : v3 = nI ((q * q) % 32003) := ev3.trans (pk_rem (pm_lt hq9 hq9) (by omega) (by omega))
        refine lv_istore_n (lv' := [(2, .int (nI ((q * q) % 32003))), (3, .int (nI k)), (1, .int (nI r))]) hx hb d_B_inverse_34 rfl hl (by decide) rfl (fun ls hl => ?_)
        refine lv_iload_n hx hb d_B_inverse_35 rfl (lv_at hl 1 rfl) ?_
        refine lv_iconst (v := nI 1) hx hb d_B_inverse_36 (by decide) ?_
        refine lv_ishr hx hb d_B_inverse_37 ?_
        refine lv_topi (fun v4 ev4 => ?_)
        obtain rfl : v4 = nI (k / 2) := ev4.trans (pk_shrN hk2 _ 1 sh1)
        refine lv_istore_n (lv' := [(3, .int (nI (k / 2))), (2, .int (nI ((q * q) % 32003))), (1, .int (nI r))]) hx hb d_B_inverse_38 rfl hl (by decide) rfl (fun ls hl => ?_)
        refine lv_goto (tgt := 8) hx hb d_B_inverse_39 (by decide) ?_
        exact ih (k / 2) r (q * q % 32003) ls (by omega) (by omega) (hr9) (Nat.mod_lt _ (by decide)) (lv_sub hl [0, 1, 2] rfl) (fun ls hl => kx ls (by rw [← pm_even c2]; exact hl))
      · rw [nI_eq (by omega) (by omega)] at c2
        refine lv_iload_n hx hb d_B_inverse_19 rfl (lv_at hl 2 rfl) ?_
        refine lv_iload_n hx hb d_B_inverse_20 rfl (lv_at hl 1 rfl) ?_
        refine lv_imul hx hb d_B_inverse_21 ?_
        refine lv_topi (fun v5 ev5 => ?_)
        obtain rfl : v5 = nI (r * q) := ev5.trans (pk_mul _ _)
        refine lv_sipush (v := nI 32003) hx hb d_B_inverse_22 (by decide) ?_
        refine lv_irem hx hb d_B_inverse_25 (by decide) ?_
        refine lv_topi (fun v6 ev6 => ?_)
        obtain rfl : v6 = nI ((r * q) % 32003) := ev6.trans (pk_rem (pm_lt hr9 hq9) (by omega) (by omega))
        refine lv_istore_n (lv' := [(1, .int (nI ((r * q) % 32003))), (3, .int (nI k)), (2, .int (nI q))]) hx hb d_B_inverse_26 rfl hl (by decide) rfl (fun ls hl => ?_)
        refine lv_iload_n hx hb d_B_inverse_27 rfl (lv_at hl 2 rfl) ?_
        refine lv_iload_n hx hb d_B_inverse_28 rfl (lv_at hl 2 rfl) ?_
        refine lv_imul hx hb d_B_inverse_29 ?_
        refine lv_topi (fun v7 ev7 => ?_)
        obtain rfl : v7 = nI (q * q) := ev7.trans (pk_mul _ _)
        refine lv_sipush (v := nI 32003) hx hb d_B_inverse_30 (by decide) ?_
        refine lv_irem hx hb d_B_inverse_33 (by decide) ?_
        refine lv_topi (fun v8 ev8 => ?_)
        obtain rfl : v8 = nI ((q * q) % 32003) := ev8.trans (pk_rem (pm_lt hq9 hq9) (by omega) (by omega))
        refine lv_istore_n (lv' := [(2, .int (nI ((q * q) % 32003))), (1, .int (nI ((r * q) % 32003))), (3, .int (nI k))]) hx hb d_B_inverse_34 rfl hl (by decide) rfl (fun ls hl => ?_)
        refine lv_iload_n hx hb d_B_inverse_35 rfl (lv_at hl 2 rfl) ?_
        refine lv_iconst (v := nI 1) hx hb d_B_inverse_36 (by decide) ?_
        refine lv_ishr hx hb d_B_inverse_37 ?_
        refine lv_topi (fun v9 ev9 => ?_)
        obtain rfl : v9 = nI (k / 2) := ev9.trans (pk_shrN hk2 _ 1 sh1)
        refine lv_istore_n (lv' := [(3, .int (nI (k / 2))), (2, .int (nI ((q * q) % 32003))), (1, .int (nI ((r * q) % 32003)))]) hx hb d_B_inverse_38 rfl hl (by decide) rfl (fun ls hl => ?_)
        refine lv_goto (tgt := 8) hx hb d_B_inverse_39 (by decide) ?_
        exact ih (k / 2) (r * q % 32003) (q * q % 32003) ls (by omega) (by omega) (Nat.mod_lt _ (by decide)) (Nat.mod_lt _ (by decide)) (lv_sub hl [0, 1, 2] rfl) (fun ls hl => kx ls (by rw [← pm_odd c2]; exact hl))
set_option maxHeartbeats 4000000 in
set_option maxRecDepth 100000 in
/-- one through a number -/
theorem c_B_inverse (l : Launch) (D : mp_G) (g : Nat → ClassId) (S : mp_M) (sz : Nat) (x : Nat)  (hx9 : x < 32003) : Met l y_B_inverse w_B_inverse ({ frames := 0, cells := 0, slots := 0, locals := 0 }) (va_Pc [.int (nI x)] (mp_B0 D classes (tys g) S sz)) (va_Qi (fun (r : Int32) (S1 : mp_M) => r = nI (x ^ 32001 % 32003) ∧ S1 = S) (mp_B1 D classes S sz) (mp_A S sz)) 0 0 (mp_A S sz) := by
  refine Met.ofW (cc := b_B_inverse) (maxL := 4) (ret := (some .int)) (by decide) rfl ?_
  intro p e s m args below meth c s₁ B hml hv
  obtain ⟨rfl, hsz, hH, hK⟩ := hv
  have hx := B.exec
  have hb := B.bytes
  have hr := B.returns
  have hts := atoms_spec (ws := w_B_inverse) B.pre
  have hg : ∀ w ∈ gw, w.before _ s = true := fun w h => hts w (List.mem_cons_of_mem _ h)
  have hown : s.vm.findClass R_B = some m.cls := findClass_of_methodNamed B.named
  have hlocks := B.notSynchronized
  subst hsz
  have hI := mp_I.start hH
  have hl := lv_entry ([.int (nI x)]) (n := 4) (Nat.le_of_ble_eq_true rfl)
  rw [lg_entry_eq]
  generalize (lg_sl ([.int (nI x)]) ++ List.replicate (4 - (lg_sl ([.int (nI x)])).length) Slot.unset).toArray = ls at hl ⊢
  have hl : lv_has ls 4 [(0, .int (nI x))] := hl
  refine lv_iconst (v := nI 1) hx hb d_B_inverse_0 (by decide) ?_
  refine lv_istore_n (lv' := [(1, .int (nI 1)), (0, .int (nI x))]) hx hb d_B_inverse_1 rfl hl (by decide) rfl (fun ls hl => ?_)
  refine lv_iload_n hx hb d_B_inverse_2 rfl (lv_at hl 1 rfl) ?_
  refine lv_istore_n (lv' := [(2, .int (nI x)), (1, .int (nI 1)), (0, .int (nI x))]) hx hb d_B_inverse_3 rfl hl (by decide) rfl (fun ls hl => ?_)
  refine lv_sipush (v := nI 32001) hx hb d_B_inverse_4 (by decide) ?_
  refine lv_istore_n (lv' := [(3, .int (nI 32001)), (2, .int (nI x)), (1, .int (nI 1)), (0, .int (nI x))]) hx hb d_B_inverse_7 rfl hl (by decide) rfl (fun ls hl => ?_)
  refine lp_B_inverse hx hb 32002 32001 1 x ls (by decide) (by decide) (by decide) hx9 (lv_sub hl [0, 1, 2] rfl) (fun ls hl => ?_)
  refine lv_iload_n hx hb d_B_inverse_42 rfl (lv_at hl 0 rfl) ?_
  exact mp_iret hx hb hr hlocks hI (by decide) (by decide) (⟨by rw [Nat.one_mul], rfl⟩) d_B_inverse_43
