theorem plN_lt {a b d : Nat} (ha : a < 32) (hb : b < 32) (hd : d < 32) : plN a b d < 200000 := by
  have h1 : (a + b + d) * (a + b + d + 1) * (a + b + d + 2) ≤ 93 * 94 * 95 := Nat.mul_le_mul (Nat.mul_le_mul (by omega) (by omega)) (by omega)
  have h2 : a * (a + b + d + 1) ≤ 31 * 94 := Nat.mul_le_mul (by omega) (by omega)
  unfold plN
  omega
theorem kN_add9 (a b d a' b' d' : Nat) : kN a b d + kN a' b' d' = kN (a + a') (b + b') (d + d') := by unfold kN; omega
/-- numbers times a factor are added, one place after another; what has no place in the row is left out -/
def raN (N : Nat) (pl X : Nat → Nat) (f : Nat) (R : Nat → Nat) : Nat → Nat → Nat
  | 0 => R
  | i + 1 => if pl i < N then va_up (raN N pl X f R i) (pl i) ((raN N pl X f R i (pl i) + X i * f) % 32003) else raN N pl X f R i
theorem raN_lt {N : Nat} {pl X : Nat → Nat} {f : Nat} {R : Nat → Nat} (h : ∀ q, R q < 32003) : ∀ i q, raN N pl X f R i q < 32003
  | 0, q => h q
  | i + 1, q => by
    unfold raN
    by_cases e : pl i < N
    · rw [if_pos e]
      by_cases e2 : q = pl i
      · rw [e2, up_s]; exact Nat.mod_lt _ (by decide)
      · rw [up_n e2]; exact raN_lt h i q
    · rw [if_neg e]; exact raN_lt h i q
theorem nIf_up {R : Nat → Nat} {q x : Nat} : upd (fun j => nI (R j)) q (nI x) = fun j => nI (va_up R q x j) := by
  funext j
  unfold upd
  by_cases e : j = q
  · rw [if_pos e, e, up_s]
  · rw [if_neg e, up_n e]
theorem m3_lt {a b c : Nat} (ha : a < 32003) (hb : b ≤ 32003) (hc : c < 32003) : c + a * b < 2 ^ 31 := by
  have := Nat.mul_le_mul (Nat.le_of_lt_succ (show a < 32002 + 1 by omega)) hb
  omega
theorem d_D_addMultiple_0 : decode b_D_addMultiple 0 = .ok (.iconst 0, 1) := by decide +kernel
theorem d_D_addMultiple_1 : decode b_D_addMultiple 1 = .ok (.istore 4, 2) := by decide +kernel
theorem d_D_addMultiple_3 : decode b_D_addMultiple 3 = .ok (.iload 4, 2) := by decide +kernel
theorem d_D_addMultiple_5 : decode b_D_addMultiple 5 = .ok (.aload_n 1, 1) := by decide +kernel
theorem d_D_addMultiple_6 : decode b_D_addMultiple 6 = .ok (.getfield 77, 3) := by decide +kernel
theorem d_D_addMultiple_9 : decode b_D_addMultiple 9 = .ok (.if_icmp .ge 66, 3) := by decide +kernel
theorem d_D_addMultiple_12 : decode b_D_addMultiple 12 = .ok (.aload_n 1, 1) := by decide +kernel
theorem d_D_addMultiple_13 : decode b_D_addMultiple 13 = .ok (.getfield 80, 3) := by decide +kernel
theorem d_D_addMultiple_16 : decode b_D_addMultiple 16 = .ok (.iload 4, 2) := by decide +kernel
theorem d_D_addMultiple_18 : decode b_D_addMultiple 18 = .ok (.iaload, 1) := by decide +kernel
theorem d_D_addMultiple_19 : decode b_D_addMultiple 19 = .ok (.iload_n 3, 1) := by decide +kernel
theorem d_D_addMultiple_20 : decode b_D_addMultiple 20 = .ok (.iadd, 1) := by decide +kernel
theorem d_D_addMultiple_21 : decode b_D_addMultiple 21 = .ok (.invokestatic 53, 3) := by decide +kernel
theorem d_D_addMultiple_24 : decode b_D_addMultiple 24 = .ok (.istore 5, 2) := by decide +kernel
theorem d_D_addMultiple_26 : decode b_D_addMultiple 26 = .ok (.iload 5, 2) := by decide +kernel
theorem d_D_addMultiple_28 : decode b_D_addMultiple 28 = .ok (.ifCond .lt 41, 3) := by decide +kernel
theorem d_D_addMultiple_31 : decode b_D_addMultiple 31 = .ok (.iload 5, 2) := by decide +kernel
theorem d_D_addMultiple_33 : decode b_D_addMultiple 33 = .ok (.aload_n 0, 1) := by decide +kernel
theorem d_D_addMultiple_34 : decode b_D_addMultiple 34 = .ok (.getfield 9, 3) := by decide +kernel
theorem d_D_addMultiple_37 : decode b_D_addMultiple 37 = .ok (.arraylength, 1) := by decide +kernel
theorem d_D_addMultiple_38 : decode b_D_addMultiple 38 = .ok (.if_icmp .ge 31, 3) := by decide +kernel
theorem d_D_addMultiple_41 : decode b_D_addMultiple 41 = .ok (.aload_n 0, 1) := by decide +kernel
theorem d_D_addMultiple_42 : decode b_D_addMultiple 42 = .ok (.getfield 9, 3) := by decide +kernel
theorem d_D_addMultiple_45 : decode b_D_addMultiple 45 = .ok (.iload 5, 2) := by decide +kernel
theorem d_D_addMultiple_47 : decode b_D_addMultiple 47 = .ok (.aload_n 0, 1) := by decide +kernel
theorem d_D_addMultiple_48 : decode b_D_addMultiple 48 = .ok (.getfield 9, 3) := by decide +kernel
theorem d_D_addMultiple_51 : decode b_D_addMultiple 51 = .ok (.iload 5, 2) := by decide +kernel
theorem d_D_addMultiple_53 : decode b_D_addMultiple 53 = .ok (.iaload, 1) := by decide +kernel
theorem d_D_addMultiple_54 : decode b_D_addMultiple 54 = .ok (.aload_n 1, 1) := by decide +kernel
theorem d_D_addMultiple_55 : decode b_D_addMultiple 55 = .ok (.getfield 81, 3) := by decide +kernel
theorem d_D_addMultiple_58 : decode b_D_addMultiple 58 = .ok (.iload 4, 2) := by decide +kernel
theorem d_D_addMultiple_60 : decode b_D_addMultiple 60 = .ok (.iaload, 1) := by decide +kernel
theorem d_D_addMultiple_61 : decode b_D_addMultiple 61 = .ok (.iload_n 2, 1) := by decide +kernel
theorem d_D_addMultiple_62 : decode b_D_addMultiple 62 = .ok (.imul, 1) := by decide +kernel
theorem d_D_addMultiple_63 : decode b_D_addMultiple 63 = .ok (.iadd, 1) := by decide +kernel
theorem d_D_addMultiple_64 : decode b_D_addMultiple 64 = .ok (.sipush 32003, 3) := by decide +kernel
theorem d_D_addMultiple_67 : decode b_D_addMultiple 67 = .ok (.irem, 1) := by decide +kernel
theorem d_D_addMultiple_68 : decode b_D_addMultiple 68 = .ok (.iastore, 1) := by decide +kernel
theorem d_D_addMultiple_69 : decode b_D_addMultiple 69 = .ok (.iinc 4 1, 3) := by decide +kernel
theorem d_D_addMultiple_72 : decode b_D_addMultiple 72 = .ok (.goto (-69), 3) := by decide +kernel
theorem d_D_addMultiple_75 : decode b_D_addMultiple 75 = .ok (.return_, 1) := by decide +kernel
set_option maxHeartbeats 4000000 in
set_option maxRecDepth 100000 in
theorem lp_D_addMultiple {p : Program} {l : Launch} {e : Env} {R : Room} {s : State} {m : MethodId} {args : Array Value} {below : List Frame} {meth : Method} {c : Code} {Q : State → Prop} {D : mp_G} {g : Nat → ClassId} {A : Nat → Prop} {cells slots : Nat} (hx : p.tables.exec = Jvm.exec) (hb : c.code = b_D_addMultiple) (hml : c.maxLocals = 6) (hg : ∀ w ∈ gw, w.before args s = true) (hown : s.vm.findClass R_D = some m.cls) (hK : mp_K D classes (tys g) s) (hRf : 1 ≤ R.frames) (hRl : 23 ≤ R.locals) (hRc : cells ≤ R.cells) (hRs : slots ≤ R.slots) {B : mp_M} {o ra y kb nb U cp z N s1 s2 s3 f9 : Nat} {w1 : Value} {kf nf : Nat → Int32} {A9 B9 C9 X R9 : Nat → Nat} (hU : 12 < U) (hY : ∀ i, i < z → kf i = nI (kN (A9 i) (B9 i) (C9 i)) ∧ nf i = nI (X i) ∧ X i < 32003 ∧ A9 i + s1 < 32 ∧ B9 i + s2 < 32 ∧ C9 i + s3 < 32) (hz : z ≤ cp) (hcp : cp ≤ 2048) (hN : N ≤ 8000) (hf9 : f9 ≤ 32003) (hR : ∀ q, R9 q < 32003) : ∀ (k i : Nat) (S : mp_M) (H : Heap) (locs : List Loc) (ls : Array Slot), i + k = z → S o = some (11, .inr (5, [.ref ra, w1])) → S ra = some (12, .inl ((g 0), N, .inl (fun j => nI (raN N (fun j => plN (A9 j + s1) (B9 j + s2) (C9 j + s3)) X f9 R9 i j)))) → S y = some (U, .inr (3, [.ref kb, .ref nb, .int (nI z)])) → S kb = some ((U + 1), .inl ((g 0), cp, .inl kf)) → S nb = some ((U + 2), .inl ((g 0), cp, .inl nf)) → (∀ b, B b ≠ none → b ≠ ra → S b = B b) → mp_I D classes A s.heap S H locs → lv_has ls 6 [(4, .int (nI i)), (3, .int (nI (kN s1 s2 s3))), (2, .int (nI f9)), (1, .ref y), (0, .ref o)] → (∀ (S : mp_M) (H : Heap) (locs : List Loc) (ls : Array Slot), S o = some (11, .inr (5, [.ref ra, w1])) → S ra = some (12, .inl ((g 0), N, .inl (fun j => nI (raN N (fun j => plN (A9 j + s1) (B9 j + s2) (C9 j + s3)) X f9 R9 z j)))) → S y = some (U, .inr (3, [.ref kb, .ref nb, .int (nI z)])) → S kb = some ((U + 1), .inl ((g 0), cp, .inl kf)) → S nb = some ((U + 2), .inl ((g 0), cp, .inl nf)) → (∀ b, B b ≠ none → b ≠ ra → S b = B b) → mp_I D classes A s.heap S H locs → lv_has ls 6 [(4, .int (nI z)), (3, .int (nI (kN s1 s2 s3))), (2, .int (nI f9)), (1, .ref y), (0, .ref o)] → W p l e R s m args below meth c H locs cells slots Q (F0 m 75 ls [])) → W p l e R s m args below meth c H locs cells slots Q (F0 m 3 ls []) := by
  intro k
  induction k with
  | zero =>
    intro i S H locs ls hi h_o h_ra h_y h_kb h_nb hfr hI hl kx
    obtain rfl : i = z := by omega
    refine lv_iload hx hb d_D_addMultiple_3 (lv_at hl 0 rfl) ?_
    refine lv_aload_n hx hb d_D_addMultiple_5 rfl (lv_at hl 3 rfl) ?_
    refine mp_getN (C := R_Y) (T := F_Y) (N := 3) (v := .int (nI i)) hx hb hg i_Y hown hK.va hI h_y rfl 2 (by decide) (hK.use q_52 rfl) (fun _ h9 => h9) rfl d_D_addMultiple_6 ?_
    refine lv_icmp_ge (tgt := 75) hx hb d_D_addMultiple_9 (by decide) (fun _ => ?_) (fun h9 => absurd ((nI_leI (by omega) (by omega)).mpr (by omega)) h9)
    exact kx S H locs ls h_o h_ra h_y h_kb h_nb hfr hI hl
  | succ k ih =>
    intro i S H locs ls hi h_o h_ra h_y h_kb h_nb hfr hI hl kx
    refine lv_iload hx hb d_D_addMultiple_3 (lv_at hl 0 rfl) ?_
    refine lv_aload_n hx hb d_D_addMultiple_5 rfl (lv_at hl 3 rfl) ?_
    refine mp_getN (C := R_Y) (T := F_Y) (N := 3) (v := .int (nI z)) hx hb hg i_Y hown hK.va hI h_y rfl 2 (by decide) (hK.use q_52 rfl) (fun _ h9 => h9) rfl d_D_addMultiple_6 ?_
    refine lv_icmp_ge (tgt := 75) hx hb d_D_addMultiple_9 (by decide) (fun h9 => absurd h9 (by rw [nI_leI (by omega) (by omega)]; omega)) (fun _ => ?_)
    obtain ⟨k1, k2, k3, ka, kb9, kd⟩ := hY i (by omega)
    have hp9 := plN_lt (a := A9 i + s1) (b := B9 i + s2) (d := C9 i + s3) (by omega) (by omega) (by omega)
    refine lv_aload_n hx hb d_D_addMultiple_12 rfl (lv_at hl 3 rfl) ?_
    refine mp_getN (C := R_Y) (T := F_Y) (N := 3) (v := .ref kb) hx hb hg i_Y hown hK.va hI h_y rfl 0 (by decide) (hK.use q_47 rfl) (fun _ h9 => h9) rfl d_D_addMultiple_13 ?_
    refine lv_iload hx hb d_D_addMultiple_16 (lv_at hl 0 rfl) ?_
    refine mp_iald hx hb hK.va hI 0 h_kb rfl (vp_in_nI (show i < cp by omega) (by omega)) d_D_addMultiple_18 ?_
    refine lv_topi (fun v1 ev1 => ?_)
    obtain rfl : v1 = nI (kN (A9 i) (B9 i) (C9 i)) := ev1.trans (by rw [nI_clamp (by omega)]; exact k1)
    refine lv_iload_n hx hb d_D_addMultiple_19 rfl (lv_at hl 1 rfl) ?_
    refine lv_iadd hx hb d_D_addMultiple_20 ?_
    refine lv_topi (fun v2 ev2 => ?_)
    obtain rfl : v2 = nI ((kN (A9 i) (B9 i) (C9 i)) + (kN s1 s2 s3)) := ev2.trans (nI_add _ _)
    refine lv_topi (fun v3 ev3 => ?_)
    obtain rfl : v3 = nI (kN (A9 i + s1) (B9 i + s2) (C9 i + s3)) := ev3.trans (congrArg nI (kN_add9 _ _ _ _ _ _))
    refine mp_calli hI (va_runS (As := [.int (nI (kN (A9 i + s1) (B9 i + s2) (C9 i + s3)))]) (rest := []) ⟨hx, hb, hml, hown, hg⟩ (c_W_place l D g S _ (A9 i + s1) (B9 i + s2) (C9 i + s3) (by omega) (by omega) (by omega)) ⟨(callB_of 1 hg (wd_goodG q_341) rfl rfl rfl (hg _ q_11) (hg _ q_339) (by decide +kernel) ⟨Nat.le_trans (Nat.le_of_ble_eq_true rfl) hRf, Nat.le_trans (Nat.le_of_ble_eq_true rfl) hRl⟩), hg _ q_340⟩ (mp_pre hI hK [.int (nI (kN (A9 i + s1) (B9 i + s2) (C9 i + s3)))]) rfl rfl hl.1 rfl (lv_room (Nat.le_of_ble_eq_true rfl)) d_D_addMultiple_21 ⟨by omega, by omega⟩) (fun r7 S4 H5 locs p_6 hI => ?_)
    obtain ⟨er7, eS8⟩ := p_6
    rw [eS8] at hI
    have er7 : r7 = nI (plN (A9 i + s1) (B9 i + s2) (C9 i + s3)) := er7
    subst er7
    refine lv_istore (lv' := [(5, .int (nI (plN (A9 i + s1) (B9 i + s2) (C9 i + s3)))), (4, .int (nI i)), (3, .int (nI (kN s1 s2 s3))), (2, .int (nI f9)), (1, .ref y), (0, .ref o)]) hx hb d_D_addMultiple_24 hl (by decide) rfl (fun ls hl => ?_)
    refine lv_iload hx hb d_D_addMultiple_26 (lv_at hl 0 rfl) ?_
    refine lv_if_lt (tgt := 69) hx hb d_D_addMultiple_28 (by decide) (fun h9 => absurd h9 (nI_pos (by omega))) (fun _ => ?_)
    refine lv_iload hx hb d_D_addMultiple_31 (lv_at hl 0 rfl) ?_
    refine lv_aload_n hx hb d_D_addMultiple_33 rfl (lv_at hl 5 rfl) ?_
    refine mp_get (C := R_D) (T := F_D) (N := 2) (v := .ref ra) hx hb hg i_D hown hK.va hI h_o rfl 0 (by decide) (hg _ q_184) (fun _ h9 => h9) rfl d_D_addMultiple_34 ?_
    refine mp_alen (v := nI N) hx hb hK.va hI 0 h_ra rfl rfl d_D_addMultiple_37 ?_
    refine lv_icmp_ge (tgt := 69) hx hb d_D_addMultiple_38 (by decide) (fun c1 => ?_) (fun c1 => ?_)
    · rw [nI_leI (by omega) (by omega)] at c1
      have hrn : raN N (fun j => plN (A9 j + s1) (B9 j + s2) (C9 j + s3)) X f9 R9 (i + 1) = (raN N (fun j => plN (A9 j + s1) (B9 j + s2) (C9 j + s3)) X f9 R9 i) := by show (if _ then _ else _) = _; rw [if_neg (show ¬ (plN (A9 i + s1) (B9 i + s2) (C9 i + s3)) < N by omega)]
      have h_ra : S ra = some (12, .inl ((g 0), N, .inl (fun j => nI (raN N (fun j => plN (A9 j + s1) (B9 j + s2) (C9 j + s3)) X f9 R9 (i + 1) j)))) := by rw [hrn]; exact h_ra
      refine lv_iinc (v := nI (i + 1)) (lv' := [(4, .int (nI (i + 1))), (5, .int (nI (plN (A9 i + s1) (B9 i + s2) (C9 i + s3)))), (3, .int (nI (kN s1 s2 s3))), (2, .int (nI f9)), (1, .ref y), (0, .ref o)]) hx hb d_D_addMultiple_69 hl (k := 1) rfl (nI_1 _) (by decide) rfl (fun ls hl => ?_)
      refine lv_goto (tgt := 3) hx hb d_D_addMultiple_72 (by decide) ?_
      exact ih (i + 1) S H5 locs ls (by omega) h_o h_ra h_y h_kb h_nb hfr hI (lv_sub hl [0, 2, 3, 4, 5] rfl) kx
    · rw [nI_leI (by omega) (by omega)] at c1
      refine lv_aload_n hx hb d_D_addMultiple_41 rfl (lv_at hl 5 rfl) ?_
      refine mp_get (C := R_D) (T := F_D) (N := 2) (v := .ref ra) hx hb hg i_D hown hK.va hI h_o rfl 0 (by decide) (hg _ q_184) (fun _ h9 => h9) rfl d_D_addMultiple_42 ?_
      refine lv_iload hx hb d_D_addMultiple_45 (lv_at hl 0 rfl) ?_
      refine lv_aload_n hx hb d_D_addMultiple_47 rfl (lv_at hl 5 rfl) ?_
      refine mp_get (C := R_D) (T := F_D) (N := 2) (v := .ref ra) hx hb hg i_D hown hK.va hI h_o rfl 0 (by decide) (hg _ q_184) (fun _ h9 => h9) rfl d_D_addMultiple_48 ?_
      refine lv_iload hx hb d_D_addMultiple_51 (lv_at hl 0 rfl) ?_
      refine mp_iald hx hb hK.va hI 0 h_ra rfl (vp_in_nI (show (plN (A9 i + s1) (B9 i + s2) (C9 i + s3)) < N by omega) (by omega)) d_D_addMultiple_53 ?_
      refine lv_topi (fun v9 ev9 => ?_)
      obtain rfl : v9 = nI ((raN N (fun j => plN (A9 j + s1) (B9 j + s2) (C9 j + s3)) X f9 R9 i) (plN (A9 i + s1) (B9 i + s2) (C9 i + s3))) := ev9.trans (by rw [nI_clamp (by omega)])
      refine lv_aload_n hx hb d_D_addMultiple_54 rfl (lv_at hl 4 rfl) ?_
      refine mp_getN (C := R_Y) (T := F_Y) (N := 3) (v := .ref nb) hx hb hg i_Y hown hK.va hI h_y rfl 1 (by decide) (hK.use q_49 rfl) (fun _ h9 => h9) rfl d_D_addMultiple_55 ?_
      refine lv_iload hx hb d_D_addMultiple_58 (lv_at hl 1 rfl) ?_
      refine mp_iald hx hb hK.va hI 0 h_nb rfl (vp_in_nI (show i < cp by omega) (by omega)) d_D_addMultiple_60 ?_
      refine lv_topi (fun v10 ev10 => ?_)
      obtain rfl : v10 = nI (X i) := ev10.trans (by rw [nI_clamp (by omega)]; exact k2)
      refine lv_iload_n hx hb d_D_addMultiple_61 rfl (lv_at hl 3 rfl) ?_
      refine lv_imul hx hb d_D_addMultiple_62 ?_
      refine lv_topi (fun v11 ev11 => ?_)
      obtain rfl : v11 = nI ((X i) * f9) := ev11.trans (pk_mul _ _)
      refine lv_iadd hx hb d_D_addMultiple_63 ?_
      refine lv_topi (fun v12 ev12 => ?_)
      obtain rfl : v12 = nI (((raN N (fun j => plN (A9 j + s1) (B9 j + s2) (C9 j + s3)) X f9 R9 i) (plN (A9 i + s1) (B9 i + s2) (C9 i + s3))) + ((X i) * f9)) := ev12.trans (nI_add _ _)
      refine lv_sipush (v := nI 32003) hx hb d_D_addMultiple_64 (by decide) ?_
      refine lv_irem hx hb d_D_addMultiple_67 (by decide) ?_
      refine lv_topi (fun v13 ev13 => ?_)
      obtain rfl : v13 = nI ((((raN N (fun j => plN (A9 j + s1) (B9 j + s2) (C9 j + s3)) X f9 R9 i) (plN (A9 i + s1) (B9 i + s2) (C9 i + s3))) + ((X i) * f9)) % 32003) := ev13.trans (pk_rem (m3_lt k3 hf9 (raN_lt hR i _)) (by omega) (by omega))
      refine mp_iast hx hb hK.va hI 0 h_ra rfl (vp_in_nI (show (plN (A9 i + s1) (B9 i + s2) (C9 i + s3)) < N by omega) (by omega)) d_D_addMultiple_68 (fun S14 H15 locs e_16 hI => ?_)
      have e_16 : S14 = va_up S ra (some (12, .inl ((g 0), N, .inl (upd (fun j => nI (raN N (fun j => plN (A9 j + s1) (B9 j + s2) (C9 j + s3)) X f9 R9 i j)) (nI (plN (A9 i + s1) (B9 i + s2) (C9 i + s3))).toNatClampNeg (nI ((((raN N (fun j => plN (A9 j + s1) (B9 j + s2) (C9 j + s3)) X f9 R9 i) (plN (A9 i + s1) (B9 i + s2) (C9 i + s3))) + ((X i) * f9)) % 32003)))))) := e_16
      have h_o : S14 o = some (11, .inr (5, [.ref ra, w1])) := by rw [e_16]; exact mp_keep h_o h_ra (by decide)
      have h_y : S14 y = some (U, .inr (3, [.ref kb, .ref nb, .int (nI z)])) := by rw [e_16]; exact mp_keep h_y h_ra (by omega)
      have h_kb : S14 kb = some ((U + 1), .inl ((g 0), cp, .inl kf)) := by rw [e_16]; exact mp_keep h_kb h_ra (by omega)
      have h_nb : S14 nb = some ((U + 2), .inl ((g 0), cp, .inl nf)) := by rw [e_16]; exact mp_keep h_nb h_ra (by omega)
      have h_ra : S14 ra = some (12, .inl ((g 0), N, .inl (upd (fun j => nI (raN N (fun j => plN (A9 j + s1) (B9 j + s2) (C9 j + s3)) X f9 R9 i j)) (nI (plN (A9 i + s1) (B9 i + s2) (C9 i + s3))).toNatClampNeg (nI ((((raN N (fun j => plN (A9 j + s1) (B9 j + s2) (C9 j + s3)) X f9 R9 i) (plN (A9 i + s1) (B9 i + s2) (C9 i + s3))) + ((X i) * f9)) % 32003))))) := by rw [e_16]; exact mp_us _ _ _
      have hfr : ∀ b, B b ≠ none → b ≠ ra → S14 b = B b := fun b h9 k0 => by rw [e_16]; exact (mp_un k0).trans (hfr b h9 k0)
      rw [nI_clamp (by omega), nIf_up] at h_ra
      have hrn : raN N (fun j => plN (A9 j + s1) (B9 j + s2) (C9 j + s3)) X f9 R9 (i + 1) = va_up (raN N (fun j => plN (A9 j + s1) (B9 j + s2) (C9 j + s3)) X f9 R9 i) (plN (A9 i + s1) (B9 i + s2) (C9 i + s3)) (((raN N (fun j => plN (A9 j + s1) (B9 j + s2) (C9 j + s3)) X f9 R9 i) (plN (A9 i + s1) (B9 i + s2) (C9 i + s3)) + X i * f9) % 32003) := by show (if _ then _ else _) = _; rw [if_pos (show (plN (A9 i + s1) (B9 i + s2) (C9 i + s3)) < N by omega)]
      have h_ra : S14 ra = some (12, .inl ((g 0), N, .inl (fun j => nI (raN N (fun j => plN (A9 j + s1) (B9 j + s2) (C9 j + s3)) X f9 R9 (i + 1) j)))) := by rw [hrn]; exact h_ra
      refine lv_iinc (v := nI (i + 1)) (lv' := [(4, .int (nI (i + 1))), (5, .int (nI (plN (A9 i + s1) (B9 i + s2) (C9 i + s3)))), (3, .int (nI (kN s1 s2 s3))), (2, .int (nI f9)), (1, .ref y), (0, .ref o)]) hx hb d_D_addMultiple_69 hl (k := 1) rfl (nI_1 _) (by decide) rfl (fun ls hl => ?_)
      refine lv_goto (tgt := 3) hx hb d_D_addMultiple_72 (by decide) ?_
      exact ih (i + 1) S14 H15 locs ls (by omega) h_o h_ra h_y h_kb h_nb hfr hI (lv_sub hl [0, 2, 3, 4, 5] rfl) kx
set_option maxHeartbeats 4000000 in
set_option maxRecDepth 100000 in
/-- a multiple is added to the row -/
theorem c_D_addMultiple (l : Launch) (D : mp_G) (g : Nat → ClassId) (S : mp_M) (sz : Nat) (o ra y kb nb U cp z N s1 s2 s3 f9 : Nat) (w1 : Value) (kf nf : Nat → Int32) (A9 B9 C9 X R9 : Nat → Nat) (h_o : S o = some (11, .inr (5, [.ref ra, w1]))) (h_ra : S ra = some (12, .inl ((g 0), N, .inl (fun j => nI (R9 j))))) (h_y : S y = some (U, .inr (3, [.ref kb, .ref nb, .int (nI z)]))) (h_kb : S kb = some ((U + 1), .inl ((g 0), cp, .inl kf))) (h_nb : S nb = some ((U + 2), .inl ((g 0), cp, .inl nf))) (hU : 12 < U) (hY : ∀ i, i < z → kf i = nI (kN (A9 i) (B9 i) (C9 i)) ∧ nf i = nI (X i) ∧ X i < 32003 ∧ A9 i + s1 < 32 ∧ B9 i + s2 < 32 ∧ C9 i + s3 < 32) (hz : z ≤ cp) (hcp : cp ≤ 2048) (hN : N ≤ 8000) (hf9 : f9 ≤ 32003) (hR : ∀ q, R9 q < 32003) : Met l y_D_addMultiple w_D_addMultiple ({ frames := 1, cells := 0, slots := 0, locals := 23 }) (va_Pc [.ref o, .ref y, .int (nI f9), .int (nI (kN s1 s2 s3))] (mp_B0 D classes (tys g) S sz)) (va_Qv (fun (S1 : mp_M) => S1 ra = some (12, .inl ((g 0), N, .inl (fun j => nI (raN N (fun j => plN (A9 j + s1) (B9 j + s2) (C9 j + s3)) X f9 R9 z j)))) ∧ (∀ b, S b ≠ none → b ≠ ra → S1 b = S b)) (mp_B1 D classes S sz) (mp_A S sz)) 0 0 (mp_A S sz) := by
  refine Met.ofW (cc := b_D_addMultiple) (maxL := 6) (ret := none) (by decide) rfl ?_
  intro p e s m args below meth c s₁ B hml hv
  obtain ⟨rfl, hsz, hH, hK⟩ := hv
  have hx := B.exec
  have hb := B.bytes
  have hr := B.returns
  have hts := atoms_spec (ws := w_D_addMultiple) B.pre
  have hg : ∀ w ∈ gw, w.before _ s = true := fun w h => hts w (List.mem_cons_of_mem _ h)
  have hown : s.vm.findClass R_D = some m.cls := findClass_of_methodNamed B.named
  have hlocks := B.notSynchronized
  subst hsz
  have hI := mp_I.start hH
  have hl := lv_entry ([.ref o, .ref y, .int (nI f9), .int (nI (kN s1 s2 s3))]) (n := 6) (Nat.le_of_ble_eq_true rfl)
  rw [lg_entry_eq]
  generalize (lg_sl ([.ref o, .ref y, .int (nI f9), .int (nI (kN s1 s2 s3))]) ++ List.replicate (6 - (lg_sl ([.ref o, .ref y, .int (nI f9), .int (nI (kN s1 s2 s3))])).length) Slot.unset).toArray = ls at hl ⊢
  have hl : lv_has ls 6 [(0, .ref o), (1, .ref y), (2, .int (nI f9)), (3, .int (nI (kN s1 s2 s3)))] := hl
  have hfr : ∀ b, S b ≠ none → b ≠ ra → S b = S b := fun _ _ _ => rfl
  refine lv_iconst (v := nI 0) hx hb d_D_addMultiple_0 (by decide) ?_
  refine lv_istore (lv' := [(4, .int (nI 0)), (0, .ref o), (1, .ref y), (2, .int (nI f9)), (3, .int (nI (kN s1 s2 s3)))]) hx hb d_D_addMultiple_1 hl (by decide) rfl (fun ls hl => ?_)
  refine lp_D_addMultiple (B := S) (o := o) (ra := ra) (y := y) (kb := kb) (nb := nb) (U := U) (cp := cp) (z := z) (N := N) (s1 := s1) (s2 := s2) (s3 := s3) (f9 := f9) (kf := kf) (nf := nf) (A9 := A9) (B9 := B9) (C9 := C9) (X := X) (R9 := R9) hx hb hml hg hown hK (Nat.le_of_ble_eq_true rfl) (Nat.le_of_ble_eq_true rfl) (Nat.le_of_ble_eq_true rfl) (Nat.le_of_ble_eq_true rfl) hU hY hz hcp hN hf9 hR z 0 S s.heap _ ls (by omega) h_o h_ra h_y h_kb h_nb hfr hI (lv_sub hl [0, 4, 3, 2, 1] rfl) (fun S9 H9 locs9 ls9 j_o j_ra _ _ _ hfr hI hl => ?_)
  refine mp_vret hx hb hr hlocks hI (Nat.le_of_ble_eq_true rfl) (Nat.le_of_ble_eq_true rfl) ?_ d_D_addMultiple_75
  exact ⟨j_ra, hfr⟩
