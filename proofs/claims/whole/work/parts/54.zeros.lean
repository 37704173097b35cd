/-- the q-th of the points that are tried -/
def zqX (RT : Nat → Nat → Nat) (b c : Nat) (q l : Nat) : fF := if l = 0 then fc (RT 0 (q / (b * c))) else if l = 1 then fc (RT 1 (q / c % b)) else fc (RT 2 (q % c))
/-- all of the list are 0 there -/
def zqP (n : Nat) (z : Nat → Nat) (mo : Nat → Nat → m3) (co : Nat → Nat → fF) (RT : Nat → Nat → Nat) (b c : Nat) (q : Nat) : Prop := ∀ i, i < n → sm (z i) (fun k => co i k * ev (zqX RT b c q 0) (zqX RT b c q 1) (zqX RT b c q 2) (mo i k)) = 0
def pt1 (l : Nat) (x : fF) (X : Nat → fF) (W9 : Nat → Nat → fF) : Prop := X l = x ∧ ∀ e, e ≤ 9 → W9 l e = x ^ e
theorem pt1_up (l : Nat) (x : fF) (X : Nat → fF) (W9 : Nat → Nat → fF) : pt1 l x (va_up X l x) (va_up W9 l (mgF 10 (pwR x) (W9 l))) := ⟨mp_us _ _ _, fun e he => by rw [mp_us, mgF_lt (by omega)]; rfl⟩
theorem pt1_un {l l' : Nat} {x x' : fF} {X : Nat → fF} {W9 : Nat → Nat → fF} (h : pt1 l x X W9) (hne : l ≠ l') {v : Nat → fF} : pt1 l x (va_up X l' x') (va_up W9 l' v) := ⟨by rw [mp_un hne]; exact h.1, fun e he => by rw [mp_un hne]; exact h.2 e he⟩
theorem pt1_S {a b c : fF} {X : Nat → fF} {W9 : Nat → Nat → fF} (h0 : pt1 0 a X W9) (h1 : pt1 1 b X W9) (h2 : pt1 2 c X W9) : ptS X W9 := by
  intro i hi e he
  rcases (show i = 0 ∨ i = 1 ∨ i = 2 by omega) with rfl | rfl | rfl
  · rw [h0.1]; exact h0.2 e he
  · rw [h1.1]; exact h1.2 e he
  · rw [h2.1]; exact h2.2 e he
theorem zq_ix {RT : Nat → Nat → Nat} {b c i j k : Nat} (hj : j < b) (hk : k < c) : zqX RT b c ((i * b + j) * c + k) 0 = fc (RT 0 i) ∧ zqX RT b c ((i * b + j) * c + k) 1 = fc (RT 1 j) ∧ zqX RT b c ((i * b + j) * c + k) 2 = fc (RT 2 k) := by
  have hc : 0 < c := by omega
  have hb : 0 < b := by omega
  have e1 : ((i * b + j) * c + k) / c = i * b + j := by rw [Nat.mul_comm, Nat.mul_add_div hc, Nat.div_eq_of_lt hk, Nat.add_zero]
  have e2 : ((i * b + j) * c + k) % c = k := by rw [Nat.mul_comm, Nat.mul_add_mod, Nat.mod_eq_of_lt hk]
  have e3 : ((i * b + j) * c + k) / (b * c) = i := by rw [Nat.mul_comm b c, ← Nat.div_div_eq_div_mul, e1, Nat.mul_comm, Nat.mul_add_div hb, Nat.div_eq_of_lt hj, Nat.add_zero]
  have e4 : ((i * b + j) * c + k) / c % b = j := by rw [e1, Nat.mul_comm, Nat.mul_add_mod, Nat.mod_eq_of_lt hj]
  refine ⟨?_, ?_, ?_⟩
  · unfold zqX; rw [if_pos rfl, e3]
  · unfold zqX; rw [if_neg (by decide), if_pos rfl, e4]
  · unfold zqX; rw [if_neg (by decide), if_neg (by decide), e2]
/-- the zeros kept so far -/
def zkS (P : Nat → Prop) (X : Nat → Nat → fF) (Q zc : Nat) (ZZ : Nat → Nat → fF) : Prop := ∃ zq : Nat → Nat, colS P Q zc zq ∧ ∀ r, r < zc → ∀ l, l < 3 → ZZ r l = X (zq r) l
theorem zk_no {P : Nat → Prop} {X : Nat → Nat → fF} {Q zc : Nat} {ZZ : Nat → Nat → fF} (h : zkS P X Q zc ZZ) (hn : ¬ P Q) : zkS P X (Q + 1) zc ZZ := by
  obtain ⟨zq, h1, h2⟩ := h; exact ⟨zq, colS_no h1 hn, h2⟩
theorem zk_yes {P : Nat → Prop} {X : Nat → Nat → fF} {Q zc : Nat} {ZZ : Nat → Nat → fF} {v : Nat → fF} (h : zkS P X Q zc ZZ) (hy : P Q) (hv : ∀ l, l < 3 → v l = X Q l) : zkS P X (Q + 1) (zc + 1) (va_up ZZ zc (mgF 3 v (ZZ zc))) := by
  obtain ⟨zq, h1, h2⟩ := h
  refine ⟨va_up zq zc Q, colS_yes h1 hy (fun k hk => mp_un (by omega)) (mp_us _ _ _), fun r hr l hl => ?_⟩
  by_cases e : r = zc
  · rw [e, mp_us, mp_us, mgF_lt hl]; exact hv l hl
  · rw [mp_un e, mp_un e]; exact h2 r (by omega) l hl
theorem q3_le {a A b c j k : Nat} (ha : a < A) (hj : j < b) (hk : k < c) : (a * b + j) * c + k + 1 ≤ A * b * c := by
  have h1 : a * b + j + 1 ≤ A * b := by
    have := Nat.mul_le_mul_right b (show a + 1 ≤ A from ha)
    rw [Nat.succ_mul] at this; omega
  have h2 := Nat.mul_le_mul_right c h1
  rw [Nat.succ_mul] at h2; omega

theorem d_V_findZeros_0 : decode b_V_findZeros 0 = .ok (.iconst 0, 1) := by decide +kernel
theorem d_V_findZeros_1 : decode b_V_findZeros 1 = .ok (.istore_n 2, 1) := by decide +kernel
theorem d_V_findZeros_2 : decode b_V_findZeros 2 = .ok (.iload_n 2, 1) := by decide +kernel
theorem d_V_findZeros_3 : decode b_V_findZeros 3 = .ok (.aload_n 0, 1) := by decide +kernel
theorem d_V_findZeros_4 : decode b_V_findZeros 4 = .ok (.getfield 29, 3) := by decide +kernel
theorem d_V_findZeros_7 : decode b_V_findZeros 7 = .ok (.iconst 0, 1) := by decide +kernel
theorem d_V_findZeros_8 : decode b_V_findZeros 8 = .ok (.iaload, 1) := by decide +kernel
theorem d_V_findZeros_9 : decode b_V_findZeros 9 = .ok (.if_icmp .ge 111, 3) := by decide +kernel
theorem d_V_findZeros_12 : decode b_V_findZeros 12 = .ok (.aload_n 0, 1) := by decide +kernel
theorem d_V_findZeros_13 : decode b_V_findZeros 13 = .ok (.getfield 42, 3) := by decide +kernel
theorem d_V_findZeros_16 : decode b_V_findZeros 16 = .ok (.iconst 0, 1) := by decide +kernel
theorem d_V_findZeros_17 : decode b_V_findZeros 17 = .ok (.aload_n 0, 1) := by decide +kernel
theorem d_V_findZeros_18 : decode b_V_findZeros 18 = .ok (.getfield 26, 3) := by decide +kernel
theorem d_V_findZeros_21 : decode b_V_findZeros 21 = .ok (.iconst 0, 1) := by decide +kernel
theorem d_V_findZeros_22 : decode b_V_findZeros 22 = .ok (.aaload, 1) := by decide +kernel
theorem d_V_findZeros_23 : decode b_V_findZeros 23 = .ok (.iload_n 2, 1) := by decide +kernel
theorem d_V_findZeros_24 : decode b_V_findZeros 24 = .ok (.iaload, 1) := by decide +kernel
theorem d_V_findZeros_25 : decode b_V_findZeros 25 = .ok (.invokevirtual 104, 3) := by decide +kernel
theorem d_V_findZeros_28 : decode b_V_findZeros 28 = .ok (.iconst 0, 1) := by decide +kernel
theorem d_V_findZeros_29 : decode b_V_findZeros 29 = .ok (.istore_n 3, 1) := by decide +kernel
theorem d_V_findZeros_30 : decode b_V_findZeros 30 = .ok (.iload_n 3, 1) := by decide +kernel
theorem d_V_findZeros_31 : decode b_V_findZeros 31 = .ok (.aload_n 0, 1) := by decide +kernel
theorem d_V_findZeros_32 : decode b_V_findZeros 32 = .ok (.getfield 29, 3) := by decide +kernel
theorem d_V_findZeros_35 : decode b_V_findZeros 35 = .ok (.iconst 1, 1) := by decide +kernel
theorem d_V_findZeros_36 : decode b_V_findZeros 36 = .ok (.iaload, 1) := by decide +kernel
theorem d_V_findZeros_37 : decode b_V_findZeros 37 = .ok (.if_icmp .ge 77, 3) := by decide +kernel
theorem d_V_findZeros_40 : decode b_V_findZeros 40 = .ok (.aload_n 0, 1) := by decide +kernel
theorem d_V_findZeros_41 : decode b_V_findZeros 41 = .ok (.getfield 42, 3) := by decide +kernel
theorem d_V_findZeros_44 : decode b_V_findZeros 44 = .ok (.iconst 1, 1) := by decide +kernel
theorem d_V_findZeros_45 : decode b_V_findZeros 45 = .ok (.aload_n 0, 1) := by decide +kernel
theorem d_V_findZeros_46 : decode b_V_findZeros 46 = .ok (.getfield 26, 3) := by decide +kernel
theorem d_V_findZeros_49 : decode b_V_findZeros 49 = .ok (.iconst 1, 1) := by decide +kernel
theorem d_V_findZeros_50 : decode b_V_findZeros 50 = .ok (.aaload, 1) := by decide +kernel
theorem d_V_findZeros_51 : decode b_V_findZeros 51 = .ok (.iload_n 3, 1) := by decide +kernel
theorem d_V_findZeros_52 : decode b_V_findZeros 52 = .ok (.iaload, 1) := by decide +kernel
theorem d_V_findZeros_53 : decode b_V_findZeros 53 = .ok (.invokevirtual 104, 3) := by decide +kernel
theorem d_V_findZeros_56 : decode b_V_findZeros 56 = .ok (.iconst 0, 1) := by decide +kernel
theorem d_V_findZeros_57 : decode b_V_findZeros 57 = .ok (.istore 4, 2) := by decide +kernel
theorem d_V_findZeros_59 : decode b_V_findZeros 59 = .ok (.iload 4, 2) := by decide +kernel
theorem d_V_findZeros_61 : decode b_V_findZeros 61 = .ok (.aload_n 0, 1) := by decide +kernel
theorem d_V_findZeros_62 : decode b_V_findZeros 62 = .ok (.getfield 29, 3) := by decide +kernel
theorem d_V_findZeros_65 : decode b_V_findZeros 65 = .ok (.iconst 2, 1) := by decide +kernel
theorem d_V_findZeros_66 : decode b_V_findZeros 66 = .ok (.iaload, 1) := by decide +kernel
theorem d_V_findZeros_67 : decode b_V_findZeros 67 = .ok (.if_icmp .ge 41, 3) := by decide +kernel
theorem d_V_findZeros_70 : decode b_V_findZeros 70 = .ok (.aload_n 0, 1) := by decide +kernel
theorem d_V_findZeros_71 : decode b_V_findZeros 71 = .ok (.getfield 42, 3) := by decide +kernel
theorem d_V_findZeros_74 : decode b_V_findZeros 74 = .ok (.iconst 2, 1) := by decide +kernel
theorem d_V_findZeros_75 : decode b_V_findZeros 75 = .ok (.aload_n 0, 1) := by decide +kernel
theorem d_V_findZeros_76 : decode b_V_findZeros 76 = .ok (.getfield 26, 3) := by decide +kernel
theorem d_V_findZeros_79 : decode b_V_findZeros 79 = .ok (.iconst 2, 1) := by decide +kernel
theorem d_V_findZeros_80 : decode b_V_findZeros 80 = .ok (.aaload, 1) := by decide +kernel
theorem d_V_findZeros_81 : decode b_V_findZeros 81 = .ok (.iload 4, 2) := by decide +kernel
theorem d_V_findZeros_83 : decode b_V_findZeros 83 = .ok (.iaload, 1) := by decide +kernel
theorem d_V_findZeros_84 : decode b_V_findZeros 84 = .ok (.invokevirtual 104, 3) := by decide +kernel
theorem d_V_findZeros_87 : decode b_V_findZeros 87 = .ok (.aload_n 1, 1) := by decide +kernel
theorem d_V_findZeros_88 : decode b_V_findZeros 88 = .ok (.aload_n 0, 1) := by decide +kernel
theorem d_V_findZeros_89 : decode b_V_findZeros 89 = .ok (.getfield 42, 3) := by decide +kernel
theorem d_V_findZeros_92 : decode b_V_findZeros 92 = .ok (.invokevirtual 108, 3) := by decide +kernel
theorem d_V_findZeros_95 : decode b_V_findZeros 95 = .ok (.ifCond .eq 7, 3) := by decide +kernel
theorem d_V_findZeros_98 : decode b_V_findZeros 98 = .ok (.aload_n 0, 1) := by decide +kernel
theorem d_V_findZeros_99 : decode b_V_findZeros 99 = .ok (.invokevirtual 112, 3) := by decide +kernel
theorem d_V_findZeros_102 : decode b_V_findZeros 102 = .ok (.iinc 4 1, 3) := by decide +kernel
theorem d_V_findZeros_105 : decode b_V_findZeros 105 = .ok (.goto (-46), 3) := by decide +kernel
theorem d_V_findZeros_108 : decode b_V_findZeros 108 = .ok (.iinc 3 1, 3) := by decide +kernel
theorem d_V_findZeros_111 : decode b_V_findZeros 111 = .ok (.goto (-81), 3) := by decide +kernel
theorem d_V_findZeros_114 : decode b_V_findZeros 114 = .ok (.iinc 2 1, 3) := by decide +kernel
theorem d_V_findZeros_117 : decode b_V_findZeros 117 = .ok (.goto (-115), 3) := by decide +kernel
theorem d_V_findZeros_120 : decode b_V_findZeros 120 = .ok (.return_, 1) := by decide +kernel
theorem d_V_keepZero_0 : decode b_V_keepZero 0 = .ok (.aload_n 0, 1) := by decide +kernel
theorem d_V_keepZero_1 : decode b_V_keepZero 1 = .ok (.getfield 67, 3) := by decide +kernel
theorem d_V_keepZero_4 : decode b_V_keepZero 4 = .ok (.bipush 16, 2) := by decide +kernel
theorem d_V_keepZero_6 : decode b_V_keepZero 6 = .ok (.if_icmp .lt 4, 3) := by decide +kernel
theorem d_V_keepZero_10 : decode b_V_keepZero 10 = .ok (.iconst 0, 1) := by decide +kernel
theorem d_V_keepZero_11 : decode b_V_keepZero 11 = .ok (.istore_n 1, 1) := by decide +kernel
theorem d_V_keepZero_12 : decode b_V_keepZero 12 = .ok (.iload_n 1, 1) := by decide +kernel
theorem d_V_keepZero_13 : decode b_V_keepZero 13 = .ok (.iconst 3, 1) := by decide +kernel
theorem d_V_keepZero_14 : decode b_V_keepZero 14 = .ok (.if_icmp .ge 28, 3) := by decide +kernel
theorem d_V_keepZero_17 : decode b_V_keepZero 17 = .ok (.aload_n 0, 1) := by decide +kernel
theorem d_V_keepZero_18 : decode b_V_keepZero 18 = .ok (.getfield 33, 3) := by decide +kernel
theorem d_V_keepZero_21 : decode b_V_keepZero 21 = .ok (.aload_n 0, 1) := by decide +kernel
theorem d_V_keepZero_22 : decode b_V_keepZero 22 = .ok (.getfield 67, 3) := by decide +kernel
theorem d_V_keepZero_25 : decode b_V_keepZero 25 = .ok (.aaload, 1) := by decide +kernel
theorem d_V_keepZero_26 : decode b_V_keepZero 26 = .ok (.iload_n 1, 1) := by decide +kernel
theorem d_V_keepZero_27 : decode b_V_keepZero 27 = .ok (.aload_n 0, 1) := by decide +kernel
theorem d_V_keepZero_28 : decode b_V_keepZero 28 = .ok (.getfield 42, 3) := by decide +kernel
theorem d_V_keepZero_31 : decode b_V_keepZero 31 = .ok (.iload_n 1, 1) := by decide +kernel
theorem d_V_keepZero_32 : decode b_V_keepZero 32 = .ok (.invokevirtual 115, 3) := by decide +kernel
theorem d_V_keepZero_35 : decode b_V_keepZero 35 = .ok (.iastore, 1) := by decide +kernel
theorem d_V_keepZero_36 : decode b_V_keepZero 36 = .ok (.iinc 1 1, 3) := by decide +kernel
theorem d_V_keepZero_39 : decode b_V_keepZero 39 = .ok (.goto (-27), 3) := by decide +kernel
theorem d_V_keepZero_42 : decode b_V_keepZero 42 = .ok (.aload_n 0, 1) := by decide +kernel
theorem d_V_keepZero_43 : decode b_V_keepZero 43 = .ok (.dup, 1) := by decide +kernel
theorem d_V_keepZero_44 : decode b_V_keepZero 44 = .ok (.getfield 67, 3) := by decide +kernel
theorem d_V_keepZero_47 : decode b_V_keepZero 47 = .ok (.iconst 1, 1) := by decide +kernel
theorem d_V_keepZero_48 : decode b_V_keepZero 48 = .ok (.iadd, 1) := by decide +kernel
theorem d_V_keepZero_49 : decode b_V_keepZero 49 = .ok (.putfield 67, 3) := by decide +kernel
theorem d_V_keepZero_52 : decode b_V_keepZero 52 = .ok (.return_, 1) := by decide +kernel
set_option maxHeartbeats 4000000 in
set_option maxRecDepth 100000 in
theorem lp_V_keep {p : Program} {l : Launch} {e : Env} {R : Room} {s : State} {m : MethodId} {args : Array Value} {below : List Frame} {meth : Method} {c : Code} {Q : State → Prop} {D : mp_G} {g : Nat → ClassId} {A : Nat → Prop} {cells slots : Nat} (hx : p.tables.exec = Jvm.exec) (hb : c.code = b_V_keepZero) (hml : c.maxLocals = 2) (hg : ∀ w ∈ gw, w.before args s = true) (hown : s.vm.findClass R_V = some m.cls) (hK : mp_K D classes (tys g) s) (hRf : 1 ≤ R.frames) (hRl : 21 ≤ R.locals) (hRc : cells ≤ R.cells) (hRs : slots ≤ R.slots) {B : mp_M} {vo za po pn pp zc : Nat} {v0 v1 v2 v3 v4 v5 v6 v8 : Value} {X : Nat → fF} {ZZ : Nat → Nat → fF} (hz : zc < 16) : ∀ (k : Nat) (i : Nat) (S : mp_M) (H : Heap) (locs : List Loc) (ls : Array Slot), i + k = 3 → S vo = some (10, .inr (7, [v0, v1, v2, v3, v4, v5, v6, .ref za, v8, .int (nI zc), .ref po])) → S za = some (35, .inl ((g 1), 16, .inr (.inr (.inr (.inr (rfs (fun ii => za + 1 + ii) 16)))))) → S po = some (37, .inr (2, [.ref pn, .ref pp])) → S pn = some (38, .inl ((g 0), 3, .inl (fun j => nI (X j).val))) → S pp = some (39, .inl ((g 1), 3, .inr (.inr (.inr (.inr (rfs (fun ii => pp + 1 + ii) 3)))))) → S (za + 1 + zc) = some ((590 + zc), .inl ((g 0), 3, .inl (fun j => nI ((mgF i X (ZZ zc)) j).val))) → (∀ b t e9, B b = some (t, e9) → (t ≠ 10) → (t ≠ 590 + zc) → S b = some (t, e9)) → mp_I D classes A s.heap S H locs → lv_has ls 2 [(1, .int (nI i)), (0, .ref vo)] → (∀ (S : mp_M) (H : Heap) (locs : List Loc) (ls : Array Slot), S vo = some (10, .inr (7, [v0, v1, v2, v3, v4, v5, v6, .ref za, v8, .int (nI zc), .ref po])) → S za = some (35, .inl ((g 1), 16, .inr (.inr (.inr (.inr (rfs (fun ii => za + 1 + ii) 16)))))) → S po = some (37, .inr (2, [.ref pn, .ref pp])) → S pn = some (38, .inl ((g 0), 3, .inl (fun j => nI (X j).val))) → S pp = some (39, .inl ((g 1), 3, .inr (.inr (.inr (.inr (rfs (fun ii => pp + 1 + ii) 3)))))) → S (za + 1 + zc) = some ((590 + zc), .inl ((g 0), 3, .inl (fun j => nI ((mgF 3 X (ZZ zc)) j).val))) → (∀ b t e9, B b = some (t, e9) → (t ≠ 10) → (t ≠ 590 + zc) → S b = some (t, e9)) → mp_I D classes A s.heap S H locs → lv_has ls 2 [(1, .int (nI 3)), (0, .ref vo)] → W p l e R s m args below meth c H locs cells slots Q (F0 m 42 ls [])) → W p l e R s m args below meth c H locs cells slots Q (F0 m 12 ls []) := by
  intro k
  induction k with
  | zero =>
    intro i S H locs ls hi h_vo h_za h_po h_pn h_pp h_rw hfr hI hl kx
    refine lv_iload_n hx hb d_V_keepZero_12 rfl (lv_at hl 0 rfl) ?_
    refine lv_iconst (v := nI 3) hx hb d_V_keepZero_13 (by decide) ?_
    refine lv_icmp_ge (tgt := 42) hx hb d_V_keepZero_14 (by decide) (fun _ => ?_) (fun h9 => absurd ((nI_leI (by omega) (by omega)).mpr (by omega)) h9)
    obtain rfl : i = 3 := by omega
    exact kx S H locs ls h_vo h_za h_po h_pn h_pp h_rw hfr hI (lv_sub hl [0, 1] rfl)
  | succ k ih =>
    intro i S H locs ls hi h_vo h_za h_po h_pn h_pp h_rw hfr hI hl kx
    refine lv_iload_n hx hb d_V_keepZero_12 rfl (lv_at hl 0 rfl) ?_
    refine lv_iconst (v := nI 3) hx hb d_V_keepZero_13 (by decide) ?_
    refine lv_icmp_ge (tgt := 42) hx hb d_V_keepZero_14 (by decide) (fun h9 => absurd h9 (by rw [nI_leI (by omega) (by omega)]; omega)) (fun _ => ?_)
    refine lv_aload_n hx hb d_V_keepZero_17 rfl (lv_at hl 1 rfl) ?_
    refine mp_get (C := R_V) (T := F_V) (N := 11) (v := .ref za) hx hb hg i_V hown hK.va hI h_vo rfl 7 (by decide) (hg _ q_268) (fun _ h9 => h9) rfl d_V_keepZero_18 ?_
    refine lv_aload_n hx hb d_V_keepZero_21 rfl (lv_at hl 1 rfl) ?_
    refine mp_get (C := R_V) (T := F_V) (N := 11) (v := .int (nI zc)) hx hb hg i_V hown hK.va hI h_vo rfl 9 (by decide) (hg _ q_272) (fun _ h9 => h9) rfl d_V_keepZero_22 ?_
    refine mp_ald2 (b := za + 1 + zc) hx hb hK.va hI 1 h_za rfl (vp_in_nI (show zc < 16 by omega) (by omega)) (by rw [nI_clamp (by omega)]; exact rfs_at (by omega)) d_V_keepZero_25 ?_
    refine lv_iload_n hx hb d_V_keepZero_26 rfl (lv_at hl 0 rfl) ?_
    refine lv_aload_n hx hb d_V_keepZero_27 rfl (lv_at hl 1 rfl) ?_
    refine mp_get (C := R_V) (T := F_V) (N := 11) (v := .ref po) hx hb hg i_V hown hK.va hI h_vo rfl 10 (by decide) (hg _ q_274) (fun _ h9 => h9) rfl d_V_keepZero_28 ?_
    refine lv_iload_n hx hb d_V_keepZero_31 rfl (lv_at hl 0 rfl) ?_
    refine mp_calli hI (va_runV (As := [.int (nI i)]) (rest := [.int (nI i), .ref (za + 1 + zc)]) ⟨hx, hb, hml, hown, hg⟩ (c_P_number l D g S _ po pn pp X i h_po h_pn h_pp (by omega)) ⟨(callB_of 1 hg (wd_goodG q_514) rfl rfl rfl (hg _ q_19) (hg _ q_511) (by decide +kernel) ⟨Nat.le_trans (Nat.le_of_ble_eq_true rfl) hRf, Nat.le_trans (Nat.le_of_ble_eq_true rfl) hRl⟩), hg _ q_512, hg _ q_513⟩ (mp_preV (C := R_P) (T := F_P) hI hK h_po rfl [.int (nI i)]) rfl rfl hl.1 rfl (lv_room (Nat.le_of_ble_eq_true rfl)) d_V_keepZero_32 ⟨by omega, by omega⟩) (fun r4 S1 H2 locs p_3 hI => ?_)
    obtain ⟨er4, eS5⟩ := p_3
    rw [eS5] at hI
    have er4 : r4 = nI (X i).val := er4
    subst er4
    refine mp_iast hx hb hK.va hI 0 h_rw rfl (vp_in_nI (show i < 3 by omega) (by omega)) d_V_keepZero_35 (fun S6 H7 locs e_8 hI => ?_)
    have h_rw_o := h_rw
    have e_8 : S6 = va_up S (za + 1 + zc) (some ((590 + zc), .inl ((g 0), 3, .inl (upd (fun j => nI ((mgF i X (ZZ zc)) j).val) (nI i).toNatClampNeg (nI (X i).val))))) := e_8
    have h_vo : S6 vo = some (10, .inr (7, [v0, v1, v2, v3, v4, v5, v6, .ref za, v8, .int (nI zc), .ref po])) := by rw [e_8]; exact mp_keep h_vo h_rw (by omega)
    have h_za : S6 za = some (35, .inl ((g 1), 16, .inr (.inr (.inr (.inr (rfs (fun ii => za + 1 + ii) 16)))))) := by rw [e_8]; exact mp_keep h_za h_rw (by omega)
    have h_po : S6 po = some (37, .inr (2, [.ref pn, .ref pp])) := by rw [e_8]; exact mp_keep h_po h_rw (by omega)
    have h_pn : S6 pn = some (38, .inl ((g 0), 3, .inl (fun j => nI (X j).val))) := by rw [e_8]; exact mp_keep h_pn h_rw (by omega)
    have h_pp : S6 pp = some (39, .inl ((g 1), 3, .inr (.inr (.inr (.inr (rfs (fun ii => pp + 1 + ii) 3)))))) := by rw [e_8]; exact mp_keep h_pp h_rw (by omega)
    have h_rw : S6 (za + 1 + zc) = some ((590 + zc), .inl ((g 0), 3, .inl (upd (fun j => nI ((mgF i X (ZZ zc)) j).val) (nI i).toNatClampNeg (nI (X i).val)))) := by rw [e_8]; exact mp_us _ _ _
    have hfr : ∀ b t e9, B b = some (t, e9) → (t ≠ 10) → (t ≠ 590 + zc) → S6 b = some (t, e9) := fun b t e9 h9 k0 k1 => by rw [e_8]; exact mp_keep (hfr b t e9 h9 k0 k1) h_rw_o (by omega)
    rw [nI_clamp (by omega), nIv_up] at h_rw
    have e9h_rw : (fun j => nI (va_up (mgF i X (ZZ zc)) i (X i) j).val) = (fun j => nI ((mgF (i + 1) X (ZZ zc)) j).val) := by rw [mgF_up]
    rw [e9h_rw] at h_rw
    refine lv_iinc (v := nI (i + 1)) (lv' := [(1, .int (nI (i + 1))), (0, .ref vo)]) hx hb d_V_keepZero_36 hl (k := 0) rfl (nI_1 _) (by decide) rfl (fun ls hl => ?_)
    refine lv_goto (tgt := 12) hx hb d_V_keepZero_39 (by decide) ?_
    exact ih (i + 1) S6 H7 locs ls (by omega) h_vo h_za h_po h_pn h_pp h_rw hfr hI (lv_sub hl [0, 1] rfl) kx
set_option maxHeartbeats 4000000 in
set_option maxRecDepth 100000 in
/-- a zero is kept -/
theorem c_V_keepZero (l : Launch) (D : mp_G) (g : Nat → ClassId) (S : mp_M) (sz : Nat) (vo za po pn pp zc : Nat) (v0 v1 v2 v3 v4 v5 v6 v8 : Value) (X : Nat → fF) (ZZ : Nat → Nat → fF) (h_vo : S vo = some (10, .inr (7, [v0, v1, v2, v3, v4, v5, v6, .ref za, v8, .int (nI zc), .ref po]))) (h_za : S za = some (35, .inl ((g 1), 16, .inr (.inr (.inr (.inr (rfs (fun ii => za + 1 + ii) 16))))))) (h_po : S po = some (37, .inr (2, [.ref pn, .ref pp]))) (h_pn : S pn = some (38, .inl ((g 0), 3, .inl (fun j => nI (X j).val)))) (h_pp : S pp = some (39, .inl ((g 1), 3, .inr (.inr (.inr (.inr (rfs (fun ii => pp + 1 + ii) 3))))))) (hZ : rS g 590 16 3 (fun ii => za + 1 + ii) (fun ii j => nI (ZZ ii j).val) S) (hz : zc < 16) : Met l y_V_keepZero w_V_keepZero ({ frames := 1, cells := 0, slots := 0, locals := 21 }) (va_Pc [.ref vo] (mp_B0 D classes (tys g) S sz)) (va_Qv (fun (S1 : mp_M) => S1 vo = some (10, .inr (7, [v0, v1, v2, v3, v4, v5, v6, .ref za, v8, .int (nI (zc + 1)), .ref po])) ∧ (rS g 590 16 3 (fun ii => za + 1 + ii) (fun ii j => nI ((va_up ZZ zc (mgF 3 X (ZZ zc))) ii j).val) S1) ∧ (∀ b t e9, S b = some (t, e9) → (t ≠ 10) → (t ≠ 590 + zc) → S1 b = some (t, e9))) (mp_B1 D classes S sz) (mp_A S sz)) 0 0 (mp_A S sz) := by
  refine Met.ofW (cc := b_V_keepZero) (maxL := 2) (ret := none) (by decide) rfl ?_
  intro p e s m args below meth c s₁ B hml hv
  obtain ⟨rfl, hsz, hH, hK⟩ := hv
  have hx := B.exec
  have hb := B.bytes
  have hr := B.returns
  have hts := atoms_spec (ws := w_V_keepZero) B.pre
  have hg : ∀ w ∈ gw, w.before _ s = true := fun w h => hts w (List.mem_cons_of_mem _ h)
  have hown : s.vm.findClass R_V = some m.cls := findClass_of_methodNamed B.named
  have hlocks := B.notSynchronized
  subst hsz
  have hI := mp_I.start hH
  have hl := lv_entry ([.ref vo]) (n := 2) (Nat.le_of_ble_eq_true rfl)
  rw [lg_entry_eq]
  generalize (lg_sl ([.ref vo]) ++ List.replicate (2 - (lg_sl ([.ref vo])).length) Slot.unset).toArray = ls at hl ⊢
  have hl : lv_has ls 2 [(0, .ref vo)] := hl
  have hfr : ∀ b t e9, S b = some (t, e9) → (t ≠ 10) → (t ≠ 590 + zc) → S b = some (t, e9) := fun _ _ _ h9 _ _ => h9
  have h_rw : S (za + 1 + zc) = some ((590 + zc), .inl ((g 0), 3, .inl (fun j => nI ((ZZ zc) j).val))) := hZ zc hz
  refine lv_aload_n hx hb d_V_keepZero_0 rfl (lv_at hl 0 rfl) ?_
  refine mp_get (C := R_V) (T := F_V) (N := 11) (v := .int (nI zc)) hx hb hg i_V hown hK.va hI h_vo rfl 9 (by decide) (hg _ q_272) (fun _ h9 => h9) rfl d_V_keepZero_1 ?_
  refine lv_bipush (v := nI 16) hx hb d_V_keepZero_4 (by decide) ?_
  refine lv_icmp_lt (tgt := 10) hx hb d_V_keepZero_6 (by decide) (fun _ => ?_) (fun h9 => absurd ((nI_ltI (by omega) (by omega)).mpr (by omega)) h9)
  refine lv_iconst (v := nI 0) hx hb d_V_keepZero_10 (by decide) ?_
  refine lv_istore_n (lv' := [(1, .int (nI 0)), (0, .ref vo)]) hx hb d_V_keepZero_11 rfl hl (by decide) rfl (fun ls hl => ?_)
  rw [← mgF_0 X (ZZ zc)] at h_rw
  refine lp_V_keep (B := S) (vo := vo) (za := za) (po := po) (pn := pn) (pp := pp) (zc := zc) (v0 := v0) (v1 := v1) (v2 := v2) (v3 := v3) (v4 := v4) (v5 := v5) (v6 := v6) (v8 := v8) (X := X) (ZZ := ZZ) hx hb hml hg hown hK (Nat.le_of_ble_eq_true rfl) (Nat.le_of_ble_eq_true rfl) (Nat.le_of_ble_eq_true rfl) (Nat.le_of_ble_eq_true rfl) hz 3 0 S s.heap _ ls (by omega) h_vo h_za h_po h_pn h_pp h_rw hfr hI (lv_sub hl [0, 1] rfl) (fun S1 H2 locs ls j_vo j_za j_po j_pn j_pp j_rw hfr hI hl => ?_)
  refine lv_aload_n hx hb d_V_keepZero_42 rfl (lv_at hl 1 rfl) ?_
  refine lv_dup hx hb d_V_keepZero_43 rfl ?_
  refine mp_get (C := R_V) (T := F_V) (N := 11) (v := .int (nI zc)) hx hb hg i_V hown hK.va hI j_vo rfl 9 (by decide) (hg _ q_272) (fun _ h9 => h9) rfl d_V_keepZero_44 ?_
  refine lv_iconst (v := nI 1) hx hb d_V_keepZero_47 (by decide) ?_
  refine lv_iadd hx hb d_V_keepZero_48 ?_
  refine lv_topi (fun v3 ev3 => ?_)
  obtain rfl : v3 = nI (zc + 1) := ev3.trans (nI_add _ _)
  refine mp_put (C := R_V) (T := F_V) (N := 11) (v := .int (nI (zc + 1))) (ty := .int) hx hb hg i_V t_V t_V_ok n_V hown hK.va hI j_vo rfl 9 (by decide) (hg _ q_272) (fun _ h9 => h9) rfl (by decide +kernel) (rfl) rfl (Nat.le_of_ble_eq_true rfl) d_V_keepZero_49 (fun S4 H5 locs e_6 hI => ?_)
  have j_vo_o := j_vo
  have e_6 : S4 = va_up S1 vo (some (10, .inr (7, [v0, v1, v2, v3, v4, v5, v6, .ref za, v8, .int (nI (zc + 1)), .ref po]))) := e_6
  have j_za : S4 za = some (35, .inl ((g 1), 16, .inr (.inr (.inr (.inr (rfs (fun ii => za + 1 + ii) 16)))))) := by rw [e_6]; exact mp_keep j_za j_vo (by decide)
  have j_po : S4 po = some (37, .inr (2, [.ref pn, .ref pp])) := by rw [e_6]; exact mp_keep j_po j_vo (by decide)
  have j_pn : S4 pn = some (38, .inl ((g 0), 3, .inl (fun j => nI (X j).val))) := by rw [e_6]; exact mp_keep j_pn j_vo (by decide)
  have j_pp : S4 pp = some (39, .inl ((g 1), 3, .inr (.inr (.inr (.inr (rfs (fun ii => pp + 1 + ii) 3)))))) := by rw [e_6]; exact mp_keep j_pp j_vo (by decide)
  have j_rw : S4 (za + 1 + zc) = some ((590 + zc), .inl ((g 0), 3, .inl (fun j => nI ((mgF 3 X (ZZ zc)) j).val))) := by rw [e_6]; exact mp_keep j_rw j_vo (by omega)
  have j_vo : S4 vo = some (10, .inr (7, [v0, v1, v2, v3, v4, v5, v6, .ref za, v8, .int (nI (zc + 1)), .ref po])) := by rw [e_6]; exact mp_us _ _ _
  have hfr : ∀ b t e9, S b = some (t, e9) → (t ≠ 10) → (t ≠ 590 + zc) → S4 b = some (t, e9) := fun b t e9 h9 k0 k1 => by rw [e_6]; exact mp_keep (hfr b t e9 h9 k0 k1) j_vo_o (by omega)
  refine mp_vret hx hb hr hlocks hI (Nat.le_of_ble_eq_true rfl) (Nat.le_of_ble_eq_true rfl) ?_ d_V_keepZero_52
  exact ⟨j_vo, rS_up hZ j_rw (fun j hj hne e9 h9 => hfr _ _ _ h9 (by omega) (by omega)), hfr⟩
set_option maxHeartbeats 4000000 in
set_option maxRecDepth 100000 in
theorem lp_V_fz3 {p : Program} {l : Launch} {e : Env} {R : Room} {s : State} {m : MethodId} {args : Array Value} {below : List Frame} {meth : Method} {c : Code} {Q : State → Prop} {D : mp_G} {g : Nat → ClassId} {A : Nat → Prop} {cells slots : Nat} (hx : p.tables.exec = Jvm.exec) (hb : c.code = b_V_findZeros) (hml : c.maxLocals = 5) (hg : ∀ w ∈ gw, w.before args s = true) (hown : s.vm.findClass R_V = some m.cls) (hK : mp_K D classes (tys g) s) (hRf : 4 ≤ R.frames) (hRl : 92 ≤ R.locals) (hRc : cells ≤ R.cells) (hRs : slots ≤ R.slots) {B : mp_M} {vo rr rc za po pn pp lo ma hd n : Nat} {v0 v1 v2 v3 v4 v8 : Value} {RT : Nat → Nat → Nat} {RC : Nat → Nat} {me mk mn mcap mz : Nat → Nat} {mkf mnf : Nat → Nat → Int32} {hf : Nat → Int32} {h : Nat → m3} {z : Nat → Nat} {mo : Nat → Nat → m3} {co : Nat → Nat → fF} {a9 b9 : Nat} (hB : lsB n h z mo co mcap mz mkf mnf hf) (hRC : ∀ l, l < 3 → RC l ≤ 16) (hRT : ∀ l, l < 3 → ∀ i, i < RC l → RT l i < 32003) (hZb : ∀ Q n9 ZZ, Q ≤ RC 0 * RC 1 * RC 2 → zkS (zqP n z mo co RT (RC 1) (RC 2)) (zqX RT (RC 1) (RC 2)) Q n9 ZZ → n9 ≤ 16) (ha9 : a9 < RC 0) (hb9 : b9 < RC 1) : ∀ (k : Nat) (i : Nat) (zc : Nat) (ZZ : Nat → Nat → fF) (X : Nat → fF) (W9 : Nat → Nat → fF) (S : mp_M) (H : Heap) (locs : List Loc) (ls : Array Slot), i + k = RC 2 → (zkS (zqP n z mo co RT (RC 1) (RC 2)) (zqX RT (RC 1) (RC 2)) ((a9 * RC 1 + b9) * RC 2 + i) zc ZZ) → (pt1 0 (fc (RT 0 a9)) X W9) → (pt1 1 (fc (RT 1 b9)) X W9) → S vo = some (10, .inr (7, [v0, v1, v2, v3, v4, .ref rr, .ref rc, .ref za, v8, .int (nI zc), .ref po])) → S rr = some (33, .inl ((g 1), 3, .inr (.inr (.inr (.inr (rfs (fun ii => rr + 1 + ii) 3)))))) → S rc = some (34, .inl ((g 0), 3, .inl (fun j => nI (RC j)))) → S za = some (35, .inl ((g 1), 16, .inr (.inr (.inr (.inr (rfs (fun ii => za + 1 + ii) 16)))))) → S lo = some (2, .inr (9, [.ref ma, .ref hd, .int (nI n)])) → S ma = some (4, .inl ((g 2), 12, .inr (.inr (.inr (.inr (rfs me 12)))))) → S po = some (37, .inr (2, [.ref pn, .ref pp])) → S pn = some (38, .inl ((g 0), 3, .inl (fun j => nI (X j).val))) → S pp = some (39, .inl ((g 1), 3, .inr (.inr (.inr (.inr (rfs (fun ii => pp + 1 + ii) 3)))))) → (yS g 300 12 me mk mn mcap mz mkf mnf S) → (rS g 610 3 10 (fun ii => pp + 1 + ii) (fun ii j => nI (W9 ii j).val) S) → (rS g 590 16 3 (fun ii => za + 1 + ii) (fun ii j => nI (ZZ ii j).val) S) → (rS g 580 3 16 (fun ii => rr + 1 + ii) (fun ii j => nI (RT ii j)) S) → (∀ b t e9, B b = some (t, e9) → (t ≠ 10) → (t ≠ 38) → (t < 590 ∨ 606 ≤ t) → (t < 610 ∨ 613 ≤ t) → S b = some (t, e9)) → mp_I D classes A s.heap S H locs → lv_has ls 5 [(4, .int (nI i)), (3, .int (nI b9)), (2, .int (nI a9)), (1, .ref lo), (0, .ref vo)] → (∀ (zc : Nat) (ZZ : Nat → Nat → fF) (X : Nat → fF) (W9 : Nat → Nat → fF) (S : mp_M) (H : Heap) (locs : List Loc) (ls : Array Slot), (zkS (zqP n z mo co RT (RC 1) (RC 2)) (zqX RT (RC 1) (RC 2)) ((a9 * RC 1 + b9) * RC 2 + (RC 2)) zc ZZ) → (pt1 0 (fc (RT 0 a9)) X W9) → (pt1 1 (fc (RT 1 b9)) X W9) → S vo = some (10, .inr (7, [v0, v1, v2, v3, v4, .ref rr, .ref rc, .ref za, v8, .int (nI zc), .ref po])) → S rr = some (33, .inl ((g 1), 3, .inr (.inr (.inr (.inr (rfs (fun ii => rr + 1 + ii) 3)))))) → S rc = some (34, .inl ((g 0), 3, .inl (fun j => nI (RC j)))) → S za = some (35, .inl ((g 1), 16, .inr (.inr (.inr (.inr (rfs (fun ii => za + 1 + ii) 16)))))) → S lo = some (2, .inr (9, [.ref ma, .ref hd, .int (nI n)])) → S ma = some (4, .inl ((g 2), 12, .inr (.inr (.inr (.inr (rfs me 12)))))) → S po = some (37, .inr (2, [.ref pn, .ref pp])) → S pn = some (38, .inl ((g 0), 3, .inl (fun j => nI (X j).val))) → S pp = some (39, .inl ((g 1), 3, .inr (.inr (.inr (.inr (rfs (fun ii => pp + 1 + ii) 3)))))) → (yS g 300 12 me mk mn mcap mz mkf mnf S) → (rS g 610 3 10 (fun ii => pp + 1 + ii) (fun ii j => nI (W9 ii j).val) S) → (rS g 590 16 3 (fun ii => za + 1 + ii) (fun ii j => nI (ZZ ii j).val) S) → (rS g 580 3 16 (fun ii => rr + 1 + ii) (fun ii j => nI (RT ii j)) S) → (∀ b t e9, B b = some (t, e9) → (t ≠ 10) → (t ≠ 38) → (t < 590 ∨ 606 ≤ t) → (t < 610 ∨ 613 ≤ t) → S b = some (t, e9)) → mp_I D classes A s.heap S H locs → lv_has ls 5 [(4, .int (nI (RC 2))), (3, .int (nI b9)), (2, .int (nI a9)), (1, .ref lo), (0, .ref vo)] → W p l e R s m args below meth c H locs cells slots Q (F0 m 108 ls [])) → W p l e R s m args below meth c H locs cells slots Q (F0 m 59 ls []) := by
  intro k
  induction k with
  | zero =>
    intro i zc ZZ X W9 S H locs ls hi hzk h0 h1 h_vo h_rr h_rc h_za h_lo h_ma h_po h_pn h_pp hY hW hZ hRR hfr hI hl kx
    have hr16 := hRC 2 (by decide)
    refine lv_iload hx hb d_V_findZeros_59 (lv_at hl 0 rfl) ?_
    refine lv_aload_n hx hb d_V_findZeros_61 rfl (lv_at hl 4 rfl) ?_
    refine mp_get (C := R_V) (T := F_V) (N := 11) (v := .ref rc) hx hb hg i_V hown hK.va hI h_vo rfl 6 (by decide) (hg _ q_267) (fun _ h9 => h9) rfl d_V_findZeros_62 ?_
    refine lv_iconst (v := nI 2) hx hb d_V_findZeros_65 (by decide) ?_
    refine mp_iald hx hb hK.va hI 0 h_rc rfl (vp_in_nI (show 2 < 3 by omega) (by omega)) d_V_findZeros_66 ?_
    refine lv_topi (fun v1 ev1 => ?_)
    obtain rfl : v1 = nI (RC 2) := ev1.trans (by rw [nI_clamp (by omega)])
    refine lv_icmp_ge (tgt := 108) hx hb d_V_findZeros_67 (by decide) (fun _ => ?_) (fun h9 => absurd ((nI_leI (by omega) (by omega)).mpr (by omega)) h9)
    obtain rfl : i = RC 2 := by omega
    exact kx zc ZZ X W9 S H locs ls hzk h0 h1 h_vo h_rr h_rc h_za h_lo h_ma h_po h_pn h_pp hY hW hZ hRR hfr hI (lv_sub hl [0, 1, 2, 3, 4] rfl)
  | succ k ih =>
    intro i zc ZZ X W9 S H locs ls hi hzk h0 h1 h_vo h_rr h_rc h_za h_lo h_ma h_po h_pn h_pp hY hW hZ hRR hfr hI hl kx
    have hr2 := hRC 2 (by decide)
    refine lv_iload hx hb d_V_findZeros_59 (lv_at hl 0 rfl) ?_
    refine lv_aload_n hx hb d_V_findZeros_61 rfl (lv_at hl 4 rfl) ?_
    refine mp_get (C := R_V) (T := F_V) (N := 11) (v := .ref rc) hx hb hg i_V hown hK.va hI h_vo rfl 6 (by decide) (hg _ q_267) (fun _ h9 => h9) rfl d_V_findZeros_62 ?_
    refine lv_iconst (v := nI 2) hx hb d_V_findZeros_65 (by decide) ?_
    refine mp_iald hx hb hK.va hI 0 h_rc rfl (vp_in_nI (show 2 < 3 by omega) (by omega)) d_V_findZeros_66 ?_
    refine lv_topi (fun v1 ev1 => ?_)
    obtain rfl : v1 = nI (RC 2) := ev1.trans (by rw [nI_clamp (by omega)])
    refine lv_icmp_ge (tgt := 108) hx hb d_V_findZeros_67 (by decide) (fun h9 => absurd h9 (by rw [nI_leI (by omega) (by omega)]; omega)) (fun _ => ?_)
    have h_rw : S (rr + 1 + 2) = some ((580 + 2), .inl ((g 0), 16, .inl (fun j => nI (RT 2 j)))) := hRR 2 (by decide)
    refine lv_aload_n hx hb d_V_findZeros_70 rfl (lv_at hl 4 rfl) ?_
    refine mp_get (C := R_V) (T := F_V) (N := 11) (v := .ref po) hx hb hg i_V hown hK.va hI h_vo rfl 10 (by decide) (hg _ q_274) (fun _ h9 => h9) rfl d_V_findZeros_71 ?_
    refine lv_iconst (v := nI 2) hx hb d_V_findZeros_74 (by decide) ?_
    refine lv_aload_n hx hb d_V_findZeros_75 rfl (lv_at hl 4 rfl) ?_
    refine mp_get (C := R_V) (T := F_V) (N := 11) (v := .ref rr) hx hb hg i_V hown hK.va hI h_vo rfl 5 (by decide) (hg _ q_266) (fun _ h9 => h9) rfl d_V_findZeros_76 ?_
    refine lv_iconst (v := nI 2) hx hb d_V_findZeros_79 (by decide) ?_
    refine mp_ald2 (b := rr + 1 + 2) hx hb hK.va hI 1 h_rr rfl (vp_in_nI (show 2 < 3 by omega) (by omega)) (by rw [nI_clamp (by omega)]; exact rfs_at (by omega)) d_V_findZeros_80 ?_
    have hrt := hRT 2 (by decide) i (by omega)
    have hr16 := hRC 2 (by decide)
    refine lv_iload hx hb d_V_findZeros_81 (lv_at hl 0 rfl) ?_
    refine mp_iald hx hb hK.va hI 0 h_rw rfl (vp_in_nI (show i < 16 by omega) (by omega)) d_V_findZeros_83 ?_
    refine lv_topi (fun v2 ev2 => ?_)
    obtain rfl : v2 = nI (RT 2 i) := ev2.trans (by rw [nI_clamp (by omega)])
    refine lv_topi (fun v3 ev3 => ?_)
    obtain rfl : v3 = nI (fc (RT 2 i)).val := ev3.trans (by rw [fc_v, Nat.mod_eq_of_lt hrt])
    refine mp_callv hI (va_runV (As := [.int (nI 2), .int (nI (fc (RT 2 i)).val)]) (rest := []) ⟨hx, hb, hml, hown, hg⟩ (c_P_move l D g S _ po pn pp X W9 2 (fc (RT 2 i)) h_po h_pn h_pp hW (by decide)) ⟨(callB_of 2 hg (wd_goodG q_493) rfl rfl rfl (hg _ q_19) (hg _ q_490) (by decide +kernel) ⟨Nat.le_trans (Nat.le_of_ble_eq_true rfl) hRf, Nat.le_trans (Nat.le_of_ble_eq_true rfl) hRl⟩), hg _ q_491, hg _ q_492⟩ (mp_preV (C := R_P) (T := F_P) hI hK h_po rfl [.int (nI 2), .int (nI (fc (RT 2 i)).val)]) rfl rfl hl.1 rfl (lv_room (Nat.le_of_ble_eq_true rfl)) d_V_findZeros_84 ⟨by omega, by omega⟩) (fun S4 H5 locs p_6 hI => ?_)
    obtain ⟨q_pn, q_W, fq⟩ := p_6
    have h_vo : S4 vo = some (10, .inr (7, [v0, v1, v2, v3, v4, .ref rr, .ref rc, .ref za, v8, .int (nI zc), .ref po])) := fq vo _ _ h_vo (by omega) (by omega)
    have h_rr : S4 rr = some (33, .inl ((g 1), 3, .inr (.inr (.inr (.inr (rfs (fun ii => rr + 1 + ii) 3)))))) := fq rr _ _ h_rr (by omega) (by omega)
    have h_rc : S4 rc = some (34, .inl ((g 0), 3, .inl (fun j => nI (RC j)))) := fq rc _ _ h_rc (by omega) (by omega)
    have h_za : S4 za = some (35, .inl ((g 1), 16, .inr (.inr (.inr (.inr (rfs (fun ii => za + 1 + ii) 16)))))) := fq za _ _ h_za (by omega) (by omega)
    have h_lo : S4 lo = some (2, .inr (9, [.ref ma, .ref hd, .int (nI n)])) := fq lo _ _ h_lo (by omega) (by omega)
    have h_ma : S4 ma = some (4, .inl ((g 2), 12, .inr (.inr (.inr (.inr (rfs me 12)))))) := fq ma _ _ h_ma (by omega) (by omega)
    have h_po : S4 po = some (37, .inr (2, [.ref pn, .ref pp])) := fq po _ _ h_po (by omega) (by omega)
    have h_pp : S4 pp = some (39, .inl ((g 1), 3, .inr (.inr (.inr (.inr (rfs (fun ii => pp + 1 + ii) 3)))))) := fq pp _ _ h_pp (by omega) (by omega)
    have hfr : ∀ b t e9, B b = some (t, e9) → (t ≠ 10) → (t ≠ 38) → (t < 590 ∨ 606 ≤ t) → (t < 610 ∨ 613 ≤ t) → S4 b = some (t, e9) := fun b t e9 h9 k0 k1 k2 k3 => by have h8 := hfr b t e9 h9 k0 k1 k2 k3; exact fq b _ _ h8 (by omega) (by omega)
    have hY := yS_kept hY (S1 := S4) (fun b t9 e9 hb9 h1 h2 => by have h8 : S4 b = some (t9, e9) := fq b _ _ hb9 (by omega) (by omega); rw [h8, hb9])
    have hZ := rS_kept hZ (S1 := S4) (fun b t9 e9 hb9 h1 h2 => by have h8 : S4 b = some (t9, e9) := fq b _ _ hb9 (by omega) (by omega); rw [h8, hb9])
    have hRR := rS_kept hRR (S1 := S4) (fun b t9 e9 hb9 h1 h2 => by have h8 : S4 b = some (t9, e9) := fq b _ _ hb9 (by omega) (by omega); rw [h8, hb9])
    have h_pn := q_pn
    have hW := q_W
    have hX2 := pt1_up 2 (fc (RT 2 i)) X W9
    have hX0 := pt1_un (l' := 2) (x' := fc (RT 2 i)) (v := mgF 10 (pwR (fc (RT 2 i))) (W9 2)) h0 (by decide)
    have hX1 := pt1_un (l' := 2) (x' := fc (RT 2 i)) (v := mgF 10 (pwR (fc (RT 2 i))) (W9 2)) h1 (by decide)
    obtain ⟨x0, x1, x2⟩ := zq_ix (RT := RT) (i := a9) hb9 (show i < RC 2 by omega)
    refine lv_aload_n hx hb d_V_findZeros_87 rfl (lv_at hl 3 rfl) ?_
    refine lv_aload_n hx hb d_V_findZeros_88 rfl (lv_at hl 4 rfl) ?_
    refine mp_get (C := R_V) (T := F_V) (N := 11) (v := .ref po) hx hb hg i_V hown hK.va hI h_vo rfl 10 (by decide) (hg _ q_274) (fun _ h9 => h9) rfl d_V_findZeros_89 ?_
    refine mp_calli hI (va_runV (As := [.ref po]) (rest := []) ⟨hx, hb, hml, hown, hg⟩ (c_K_vanishesAt l D g S4 _ po pn pp (va_up X 2 (fc (RT 2 i))) (va_up W9 2 (mgF 10 (pwR (fc (RT 2 i))) (W9 2))) lo ma hd n me mk mn mcap mz mkf mnf hf h z mo co h_po h_pn h_pp h_lo h_ma hW hY (pt1_S hX0 hX1 hX2) hB) ⟨(callB_of 1 hg (wd_goodG q_497) rfl rfl rfl (hg _ q_2) (hg _ q_494) (by decide +kernel) ⟨Nat.le_trans (Nat.le_of_ble_eq_true rfl) hRf, Nat.le_trans (Nat.le_of_ble_eq_true rfl) hRl⟩), hg _ q_495, hg _ q_496⟩ (mp_preV (C := R_K) (T := F_K) hI hK h_lo rfl [.ref po]) rfl rfl hl.1 rfl (lv_room (Nat.le_of_ble_eq_true rfl)) d_V_findZeros_92 ⟨by omega, by omega⟩) (fun r11 S8 H9 locs p_10 hI => ?_)
    obtain ⟨hv, fq⟩ := p_10
    have h_vo : S8 vo = some (10, .inr (7, [v0, v1, v2, v3, v4, .ref rr, .ref rc, .ref za, v8, .int (nI zc), .ref po])) := fq vo _ _ h_vo
    have h_rr : S8 rr = some (33, .inl ((g 1), 3, .inr (.inr (.inr (.inr (rfs (fun ii => rr + 1 + ii) 3)))))) := fq rr _ _ h_rr
    have h_rc : S8 rc = some (34, .inl ((g 0), 3, .inl (fun j => nI (RC j)))) := fq rc _ _ h_rc
    have h_za : S8 za = some (35, .inl ((g 1), 16, .inr (.inr (.inr (.inr (rfs (fun ii => za + 1 + ii) 16)))))) := fq za _ _ h_za
    have h_lo : S8 lo = some (2, .inr (9, [.ref ma, .ref hd, .int (nI n)])) := fq lo _ _ h_lo
    have h_ma : S8 ma = some (4, .inl ((g 2), 12, .inr (.inr (.inr (.inr (rfs me 12)))))) := fq ma _ _ h_ma
    have h_po : S8 po = some (37, .inr (2, [.ref pn, .ref pp])) := fq po _ _ h_po
    have h_pn : S8 pn = some (38, .inl ((g 0), 3, .inl (fun j => nI ((va_up X 2 (fc (RT 2 i))) j).val))) := fq pn _ _ h_pn
    have h_pp : S8 pp = some (39, .inl ((g 1), 3, .inr (.inr (.inr (.inr (rfs (fun ii => pp + 1 + ii) 3)))))) := fq pp _ _ h_pp
    have hfr : ∀ b t e9, B b = some (t, e9) → (t ≠ 10) → (t ≠ 38) → (t < 590 ∨ 606 ≤ t) → (t < 610 ∨ 613 ≤ t) → S8 b = some (t, e9) := fun b t e9 h9 k0 k1 k2 k3 => by have h8 := hfr b t e9 h9 k0 k1 k2 k3; exact fq b _ _ h8
    have hY := yS_kept hY (S1 := S8) (fun b t9 e9 hb9 h1 h2 => by have h8 : S8 b = some (t9, e9) := fq b _ _ hb9; rw [h8, hb9])
    have hZ := rS_kept hZ (S1 := S8) (fun b t9 e9 hb9 h1 h2 => by have h8 : S8 b = some (t9, e9) := fq b _ _ hb9; rw [h8, hb9])
    have hRR := rS_kept hRR (S1 := S8) (fun b t9 e9 hb9 h1 h2 => by have h8 : S8 b = some (t9, e9) := fq b _ _ hb9; rw [h8, hb9])
    have hW := rS_kept hW (S1 := S8) (fun b t9 e9 hb9 h1 h2 => by have h8 : S8 b = some (t9, e9) := fq b _ _ hb9; rw [h8, hb9])
    have hiff : (zqP n z mo co RT (RC 1) (RC 2)) ((a9 * RC 1 + b9) * RC 2 + i) ↔ ∀ j, j < n → sm (z j) (fun k => co j k * ev ((va_up X 2 (fc (RT 2 i))) 0) ((va_up X 2 (fc (RT 2 i))) 1) ((va_up X 2 (fc (RT 2 i))) 2) (mo j k)) = 0 := by rw [hX0.1, hX1.1, hX2.1, ← x0, ← x1, ← x2]; rfl
    rw [← hiff] at hv
    rcases hv with ⟨rfl, hv⟩ | ⟨rfl, hv⟩
    · refine lv_if_eq (tgt := 102) hx hb d_V_findZeros_95 (by decide) (fun h9 => absurd h9 (by decide)) (fun _ => ?_)
      refine lv_aload_n hx hb d_V_findZeros_98 rfl (lv_at hl 4 rfl) ?_
      have hk := zk_yes (v := (va_up X 2 (fc (RT 2 i)))) hzk hv (fun l hl => by rcases (show l = 0 ∨ l = 1 ∨ l = 2 by omega) with rfl | rfl | rfl; exact (by rw [hX0.1, x0]); exact (by rw [hX1.1, x1]); exact (by rw [hX2.1, x2]))
      have hzc := hZb _ _ _ (q3_le ha9 hb9 (show i < RC 2 by omega)) hk
      refine mp_callv hI (va_runV (As := []) (rest := []) ⟨hx, hb, hml, hown, hg⟩ (c_V_keepZero l D g S8 _ vo za po pn pp zc v0 v1 v2 v3 v4 (.ref rr) (.ref rc) v8 (va_up X 2 (fc (RT 2 i))) ZZ h_vo h_za h_po h_pn h_pp hZ (by omega)) ⟨(callB_of 0 hg (wd_goodG q_510) rfl rfl rfl (hg _ q_16) (hg _ q_507) (by decide +kernel) ⟨Nat.le_trans (Nat.le_of_ble_eq_true rfl) hRf, Nat.le_trans (Nat.le_of_ble_eq_true rfl) hRl⟩), hg _ q_509, hg _ qs_17⟩ (mp_preV (C := R_V) (T := F_V) hI hK h_vo rfl []) rfl rfl hl.1 rfl (lv_room (Nat.le_of_ble_eq_true rfl)) d_V_findZeros_99 ⟨by omega, by omega⟩) (fun S12 H13 locs p_14 hI => ?_)
      obtain ⟨q_vo, q_Z, fq⟩ := p_14
      have h_rr : S12 rr = some (33, .inl ((g 1), 3, .inr (.inr (.inr (.inr (rfs (fun ii => rr + 1 + ii) 3)))))) := fq rr _ _ h_rr (by omega) (by omega)
      have h_rc : S12 rc = some (34, .inl ((g 0), 3, .inl (fun j => nI (RC j)))) := fq rc _ _ h_rc (by omega) (by omega)
      have h_za : S12 za = some (35, .inl ((g 1), 16, .inr (.inr (.inr (.inr (rfs (fun ii => za + 1 + ii) 16)))))) := fq za _ _ h_za (by omega) (by omega)
      have h_lo : S12 lo = some (2, .inr (9, [.ref ma, .ref hd, .int (nI n)])) := fq lo _ _ h_lo (by omega) (by omega)
      have h_ma : S12 ma = some (4, .inl ((g 2), 12, .inr (.inr (.inr (.inr (rfs me 12)))))) := fq ma _ _ h_ma (by omega) (by omega)
      have h_po : S12 po = some (37, .inr (2, [.ref pn, .ref pp])) := fq po _ _ h_po (by omega) (by omega)
      have h_pn : S12 pn = some (38, .inl ((g 0), 3, .inl (fun j => nI ((va_up X 2 (fc (RT 2 i))) j).val))) := fq pn _ _ h_pn (by omega) (by omega)
      have h_pp : S12 pp = some (39, .inl ((g 1), 3, .inr (.inr (.inr (.inr (rfs (fun ii => pp + 1 + ii) 3)))))) := fq pp _ _ h_pp (by omega) (by omega)
      have hfr : ∀ b t e9, B b = some (t, e9) → (t ≠ 10) → (t ≠ 38) → (t < 590 ∨ 606 ≤ t) → (t < 610 ∨ 613 ≤ t) → S12 b = some (t, e9) := fun b t e9 h9 k0 k1 k2 k3 => by have h8 := hfr b t e9 h9 k0 k1 k2 k3; exact fq b _ _ h8 (by omega) (by omega)
      have hY := yS_kept hY (S1 := S12) (fun b t9 e9 hb9 h1 h2 => by have h8 : S12 b = some (t9, e9) := fq b _ _ hb9 (by omega) (by omega); rw [h8, hb9])
      have hRR := rS_kept hRR (S1 := S12) (fun b t9 e9 hb9 h1 h2 => by have h8 : S12 b = some (t9, e9) := fq b _ _ hb9 (by omega) (by omega); rw [h8, hb9])
      have hW := rS_kept hW (S1 := S12) (fun b t9 e9 hb9 h1 h2 => by have h8 : S12 b = some (t9, e9) := fq b _ _ hb9 (by omega) (by omega); rw [h8, hb9])
      have h_vo := q_vo
      have hZ := q_Z
      refine lv_iinc (v := nI (i + 1)) (lv' := [(4, .int (nI (i + 1))), (3, .int (nI b9)), (2, .int (nI a9)), (1, .ref lo), (0, .ref vo)]) hx hb d_V_findZeros_102 hl (k := 0) rfl (nI_1 _) (by decide) rfl (fun ls hl => ?_)
      refine lv_goto (tgt := 59) hx hb d_V_findZeros_105 (by decide) ?_
      exact ih (i + 1) (zc + 1) (va_up ZZ zc (mgF 3 (va_up X 2 (fc (RT 2 i))) (ZZ zc))) (va_up X 2 (fc (RT 2 i))) (va_up W9 2 (mgF 10 (pwR (fc (RT 2 i))) (W9 2))) S12 H13 locs ls (by omega) hk hX0 hX1 h_vo h_rr h_rc h_za h_lo h_ma h_po h_pn h_pp hY hW hZ hRR hfr hI (lv_sub hl [0, 1, 2, 3, 4] rfl) kx
    · refine lv_if_eq (tgt := 102) hx hb d_V_findZeros_95 (by decide) (fun _ => ?_) (fun h9 => absurd (by decide) h9)
      refine lv_iinc (v := nI (i + 1)) (lv' := [(4, .int (nI (i + 1))), (3, .int (nI b9)), (2, .int (nI a9)), (1, .ref lo), (0, .ref vo)]) hx hb d_V_findZeros_102 hl (k := 0) rfl (nI_1 _) (by decide) rfl (fun ls hl => ?_)
      refine lv_goto (tgt := 59) hx hb d_V_findZeros_105 (by decide) ?_
      exact ih (i + 1) zc ZZ (va_up X 2 (fc (RT 2 i))) (va_up W9 2 (mgF 10 (pwR (fc (RT 2 i))) (W9 2))) S8 H9 locs ls (by omega) (zk_no hzk hv) hX0 hX1 h_vo h_rr h_rc h_za h_lo h_ma h_po h_pn h_pp hY hW hZ hRR hfr hI (lv_sub hl [0, 1, 2, 3, 4] rfl) kx
set_option maxHeartbeats 4000000 in
set_option maxRecDepth 100000 in
theorem lp_V_fz2 {p : Program} {l : Launch} {e : Env} {R : Room} {s : State} {m : MethodId} {args : Array Value} {below : List Frame} {meth : Method} {c : Code} {Q : State → Prop} {D : mp_G} {g : Nat → ClassId} {A : Nat → Prop} {cells slots : Nat} (hx : p.tables.exec = Jvm.exec) (hb : c.code = b_V_findZeros) (hml : c.maxLocals = 5) (hg : ∀ w ∈ gw, w.before args s = true) (hown : s.vm.findClass R_V = some m.cls) (hK : mp_K D classes (tys g) s) (hRf : 4 ≤ R.frames) (hRl : 92 ≤ R.locals) (hRc : cells ≤ R.cells) (hRs : slots ≤ R.slots) {B : mp_M} {vo rr rc za po pn pp lo ma hd n : Nat} {v0 v1 v2 v3 v4 v8 : Value} {RT : Nat → Nat → Nat} {RC : Nat → Nat} {me mk mn mcap mz : Nat → Nat} {mkf mnf : Nat → Nat → Int32} {hf : Nat → Int32} {h : Nat → m3} {z : Nat → Nat} {mo : Nat → Nat → m3} {co : Nat → Nat → fF} {a9 : Nat} (hB : lsB n h z mo co mcap mz mkf mnf hf) (hRC : ∀ l, l < 3 → RC l ≤ 16) (hRT : ∀ l, l < 3 → ∀ i, i < RC l → RT l i < 32003) (hZb : ∀ Q n9 ZZ, Q ≤ RC 0 * RC 1 * RC 2 → zkS (zqP n z mo co RT (RC 1) (RC 2)) (zqX RT (RC 1) (RC 2)) Q n9 ZZ → n9 ≤ 16) (ha9 : a9 < RC 0) : ∀ (k : Nat) (i : Nat) (zc : Nat) (ZZ : Nat → Nat → fF) (X : Nat → fF) (W9 : Nat → Nat → fF) (S : mp_M) (H : Heap) (locs : List Loc) (ls : Array Slot), i + k = RC 1 → (zkS (zqP n z mo co RT (RC 1) (RC 2)) (zqX RT (RC 1) (RC 2)) ((a9 * RC 1 + i) * RC 2) zc ZZ) → (pt1 0 (fc (RT 0 a9)) X W9) → S vo = some (10, .inr (7, [v0, v1, v2, v3, v4, .ref rr, .ref rc, .ref za, v8, .int (nI zc), .ref po])) → S rr = some (33, .inl ((g 1), 3, .inr (.inr (.inr (.inr (rfs (fun ii => rr + 1 + ii) 3)))))) → S rc = some (34, .inl ((g 0), 3, .inl (fun j => nI (RC j)))) → S za = some (35, .inl ((g 1), 16, .inr (.inr (.inr (.inr (rfs (fun ii => za + 1 + ii) 16)))))) → S lo = some (2, .inr (9, [.ref ma, .ref hd, .int (nI n)])) → S ma = some (4, .inl ((g 2), 12, .inr (.inr (.inr (.inr (rfs me 12)))))) → S po = some (37, .inr (2, [.ref pn, .ref pp])) → S pn = some (38, .inl ((g 0), 3, .inl (fun j => nI (X j).val))) → S pp = some (39, .inl ((g 1), 3, .inr (.inr (.inr (.inr (rfs (fun ii => pp + 1 + ii) 3)))))) → (yS g 300 12 me mk mn mcap mz mkf mnf S) → (rS g 610 3 10 (fun ii => pp + 1 + ii) (fun ii j => nI (W9 ii j).val) S) → (rS g 590 16 3 (fun ii => za + 1 + ii) (fun ii j => nI (ZZ ii j).val) S) → (rS g 580 3 16 (fun ii => rr + 1 + ii) (fun ii j => nI (RT ii j)) S) → (∀ b t e9, B b = some (t, e9) → (t ≠ 10) → (t ≠ 38) → (t < 590 ∨ 606 ≤ t) → (t < 610 ∨ 613 ≤ t) → S b = some (t, e9)) → mp_I D classes A s.heap S H locs → lv_has ls 5 [(3, .int (nI i)), (2, .int (nI a9)), (1, .ref lo), (0, .ref vo)] → (∀ (zc : Nat) (ZZ : Nat → Nat → fF) (X : Nat → fF) (W9 : Nat → Nat → fF) (S : mp_M) (H : Heap) (locs : List Loc) (ls : Array Slot), (zkS (zqP n z mo co RT (RC 1) (RC 2)) (zqX RT (RC 1) (RC 2)) ((a9 * RC 1 + (RC 1)) * RC 2) zc ZZ) → (pt1 0 (fc (RT 0 a9)) X W9) → S vo = some (10, .inr (7, [v0, v1, v2, v3, v4, .ref rr, .ref rc, .ref za, v8, .int (nI zc), .ref po])) → S rr = some (33, .inl ((g 1), 3, .inr (.inr (.inr (.inr (rfs (fun ii => rr + 1 + ii) 3)))))) → S rc = some (34, .inl ((g 0), 3, .inl (fun j => nI (RC j)))) → S za = some (35, .inl ((g 1), 16, .inr (.inr (.inr (.inr (rfs (fun ii => za + 1 + ii) 16)))))) → S lo = some (2, .inr (9, [.ref ma, .ref hd, .int (nI n)])) → S ma = some (4, .inl ((g 2), 12, .inr (.inr (.inr (.inr (rfs me 12)))))) → S po = some (37, .inr (2, [.ref pn, .ref pp])) → S pn = some (38, .inl ((g 0), 3, .inl (fun j => nI (X j).val))) → S pp = some (39, .inl ((g 1), 3, .inr (.inr (.inr (.inr (rfs (fun ii => pp + 1 + ii) 3)))))) → (yS g 300 12 me mk mn mcap mz mkf mnf S) → (rS g 610 3 10 (fun ii => pp + 1 + ii) (fun ii j => nI (W9 ii j).val) S) → (rS g 590 16 3 (fun ii => za + 1 + ii) (fun ii j => nI (ZZ ii j).val) S) → (rS g 580 3 16 (fun ii => rr + 1 + ii) (fun ii j => nI (RT ii j)) S) → (∀ b t e9, B b = some (t, e9) → (t ≠ 10) → (t ≠ 38) → (t < 590 ∨ 606 ≤ t) → (t < 610 ∨ 613 ≤ t) → S b = some (t, e9)) → mp_I D classes A s.heap S H locs → lv_has ls 5 [(3, .int (nI (RC 1))), (2, .int (nI a9)), (1, .ref lo), (0, .ref vo)] → W p l e R s m args below meth c H locs cells slots Q (F0 m 114 ls [])) → W p l e R s m args below meth c H locs cells slots Q (F0 m 30 ls []) := by
  intro k
  induction k with
  | zero =>
    intro i zc ZZ X W9 S H locs ls hi hzk h0 h_vo h_rr h_rc h_za h_lo h_ma h_po h_pn h_pp hY hW hZ hRR hfr hI hl kx
    have hr16 := hRC 1 (by decide)
    refine lv_iload_n hx hb d_V_findZeros_30 rfl (lv_at hl 0 rfl) ?_
    refine lv_aload_n hx hb d_V_findZeros_31 rfl (lv_at hl 3 rfl) ?_
    refine mp_get (C := R_V) (T := F_V) (N := 11) (v := .ref rc) hx hb hg i_V hown hK.va hI h_vo rfl 6 (by decide) (hg _ q_267) (fun _ h9 => h9) rfl d_V_findZeros_32 ?_
    refine lv_iconst (v := nI 1) hx hb d_V_findZeros_35 (by decide) ?_
    refine mp_iald hx hb hK.va hI 0 h_rc rfl (vp_in_nI (show 1 < 3 by omega) (by omega)) d_V_findZeros_36 ?_
    refine lv_topi (fun v1 ev1 => ?_)
    obtain rfl : v1 = nI (RC 1) := ev1.trans (by rw [nI_clamp (by omega)])
    refine lv_icmp_ge (tgt := 114) hx hb d_V_findZeros_37 (by decide) (fun _ => ?_) (fun h9 => absurd ((nI_leI (by omega) (by omega)).mpr (by omega)) h9)
    obtain rfl : i = RC 1 := by omega
    exact kx zc ZZ X W9 S H locs ls hzk h0 h_vo h_rr h_rc h_za h_lo h_ma h_po h_pn h_pp hY hW hZ hRR hfr hI (lv_sub hl [0, 1, 2, 3] rfl)
  | succ k ih =>
    intro i zc ZZ X W9 S H locs ls hi hzk h0 h_vo h_rr h_rc h_za h_lo h_ma h_po h_pn h_pp hY hW hZ hRR hfr hI hl kx
    have hr2 := hRC 1 (by decide)
    refine lv_iload_n hx hb d_V_findZeros_30 rfl (lv_at hl 0 rfl) ?_
    refine lv_aload_n hx hb d_V_findZeros_31 rfl (lv_at hl 3 rfl) ?_
    refine mp_get (C := R_V) (T := F_V) (N := 11) (v := .ref rc) hx hb hg i_V hown hK.va hI h_vo rfl 6 (by decide) (hg _ q_267) (fun _ h9 => h9) rfl d_V_findZeros_32 ?_
    refine lv_iconst (v := nI 1) hx hb d_V_findZeros_35 (by decide) ?_
    refine mp_iald hx hb hK.va hI 0 h_rc rfl (vp_in_nI (show 1 < 3 by omega) (by omega)) d_V_findZeros_36 ?_
    refine lv_topi (fun v1 ev1 => ?_)
    obtain rfl : v1 = nI (RC 1) := ev1.trans (by rw [nI_clamp (by omega)])
    refine lv_icmp_ge (tgt := 114) hx hb d_V_findZeros_37 (by decide) (fun h9 => absurd h9 (by rw [nI_leI (by omega) (by omega)]; omega)) (fun _ => ?_)
    have h_rw : S (rr + 1 + 1) = some ((580 + 1), .inl ((g 0), 16, .inl (fun j => nI (RT 1 j)))) := hRR 1 (by decide)
    refine lv_aload_n hx hb d_V_findZeros_40 rfl (lv_at hl 3 rfl) ?_
    refine mp_get (C := R_V) (T := F_V) (N := 11) (v := .ref po) hx hb hg i_V hown hK.va hI h_vo rfl 10 (by decide) (hg _ q_274) (fun _ h9 => h9) rfl d_V_findZeros_41 ?_
    refine lv_iconst (v := nI 1) hx hb d_V_findZeros_44 (by decide) ?_
    refine lv_aload_n hx hb d_V_findZeros_45 rfl (lv_at hl 3 rfl) ?_
    refine mp_get (C := R_V) (T := F_V) (N := 11) (v := .ref rr) hx hb hg i_V hown hK.va hI h_vo rfl 5 (by decide) (hg _ q_266) (fun _ h9 => h9) rfl d_V_findZeros_46 ?_
    refine lv_iconst (v := nI 1) hx hb d_V_findZeros_49 (by decide) ?_
    refine mp_ald2 (b := rr + 1 + 1) hx hb hK.va hI 1 h_rr rfl (vp_in_nI (show 1 < 3 by omega) (by omega)) (by rw [nI_clamp (by omega)]; exact rfs_at (by omega)) d_V_findZeros_50 ?_
    have hrt := hRT 1 (by decide) i (by omega)
    have hr16 := hRC 1 (by decide)
    refine lv_iload_n hx hb d_V_findZeros_51 rfl (lv_at hl 0 rfl) ?_
    refine mp_iald hx hb hK.va hI 0 h_rw rfl (vp_in_nI (show i < 16 by omega) (by omega)) d_V_findZeros_52 ?_
    refine lv_topi (fun v2 ev2 => ?_)
    obtain rfl : v2 = nI (RT 1 i) := ev2.trans (by rw [nI_clamp (by omega)])
    refine lv_topi (fun v3 ev3 => ?_)
    obtain rfl : v3 = nI (fc (RT 1 i)).val := ev3.trans (by rw [fc_v, Nat.mod_eq_of_lt hrt])
    refine mp_callv hI (va_runV (As := [.int (nI 1), .int (nI (fc (RT 1 i)).val)]) (rest := []) ⟨hx, hb, hml, hown, hg⟩ (c_P_move l D g S _ po pn pp X W9 1 (fc (RT 1 i)) h_po h_pn h_pp hW (by decide)) ⟨(callB_of 2 hg (wd_goodG q_493) rfl rfl rfl (hg _ q_19) (hg _ q_490) (by decide +kernel) ⟨Nat.le_trans (Nat.le_of_ble_eq_true rfl) hRf, Nat.le_trans (Nat.le_of_ble_eq_true rfl) hRl⟩), hg _ q_491, hg _ q_492⟩ (mp_preV (C := R_P) (T := F_P) hI hK h_po rfl [.int (nI 1), .int (nI (fc (RT 1 i)).val)]) rfl rfl hl.1 rfl (lv_room (Nat.le_of_ble_eq_true rfl)) d_V_findZeros_53 ⟨by omega, by omega⟩) (fun S4 H5 locs p_6 hI => ?_)
    obtain ⟨q_pn, q_W, fq⟩ := p_6
    have h_vo : S4 vo = some (10, .inr (7, [v0, v1, v2, v3, v4, .ref rr, .ref rc, .ref za, v8, .int (nI zc), .ref po])) := fq vo _ _ h_vo (by omega) (by omega)
    have h_rr : S4 rr = some (33, .inl ((g 1), 3, .inr (.inr (.inr (.inr (rfs (fun ii => rr + 1 + ii) 3)))))) := fq rr _ _ h_rr (by omega) (by omega)
    have h_rc : S4 rc = some (34, .inl ((g 0), 3, .inl (fun j => nI (RC j)))) := fq rc _ _ h_rc (by omega) (by omega)
    have h_za : S4 za = some (35, .inl ((g 1), 16, .inr (.inr (.inr (.inr (rfs (fun ii => za + 1 + ii) 16)))))) := fq za _ _ h_za (by omega) (by omega)
    have h_lo : S4 lo = some (2, .inr (9, [.ref ma, .ref hd, .int (nI n)])) := fq lo _ _ h_lo (by omega) (by omega)
    have h_ma : S4 ma = some (4, .inl ((g 2), 12, .inr (.inr (.inr (.inr (rfs me 12)))))) := fq ma _ _ h_ma (by omega) (by omega)
    have h_po : S4 po = some (37, .inr (2, [.ref pn, .ref pp])) := fq po _ _ h_po (by omega) (by omega)
    have h_pp : S4 pp = some (39, .inl ((g 1), 3, .inr (.inr (.inr (.inr (rfs (fun ii => pp + 1 + ii) 3)))))) := fq pp _ _ h_pp (by omega) (by omega)
    have hfr : ∀ b t e9, B b = some (t, e9) → (t ≠ 10) → (t ≠ 38) → (t < 590 ∨ 606 ≤ t) → (t < 610 ∨ 613 ≤ t) → S4 b = some (t, e9) := fun b t e9 h9 k0 k1 k2 k3 => by have h8 := hfr b t e9 h9 k0 k1 k2 k3; exact fq b _ _ h8 (by omega) (by omega)
    have hY := yS_kept hY (S1 := S4) (fun b t9 e9 hb9 h1 h2 => by have h8 : S4 b = some (t9, e9) := fq b _ _ hb9 (by omega) (by omega); rw [h8, hb9])
    have hZ := rS_kept hZ (S1 := S4) (fun b t9 e9 hb9 h1 h2 => by have h8 : S4 b = some (t9, e9) := fq b _ _ hb9 (by omega) (by omega); rw [h8, hb9])
    have hRR := rS_kept hRR (S1 := S4) (fun b t9 e9 hb9 h1 h2 => by have h8 : S4 b = some (t9, e9) := fq b _ _ hb9 (by omega) (by omega); rw [h8, hb9])
    have h_pn := q_pn
    have hW := q_W
    refine lv_iconst (v := nI 0) hx hb d_V_findZeros_56 (by decide) ?_
    refine lv_istore (lv' := [(4, .int (nI 0)), (3, .int (nI i)), (2, .int (nI a9)), (1, .ref lo), (0, .ref vo)]) hx hb d_V_findZeros_57 hl (by decide) rfl (fun ls hl => ?_)
    refine lp_V_fz3 (B := B) (vo := vo) (rr := rr) (rc := rc) (za := za) (po := po) (pn := pn) (pp := pp) (lo := lo) (ma := ma) (hd := hd) (n := n) (v0 := v0) (v1 := v1) (v2 := v2) (v3 := v3) (v4 := v4) (v8 := v8) (RT := RT) (RC := RC) (me := me) (mk := mk) (mn := mn) (mcap := mcap) (mz := mz) (mkf := mkf) (mnf := mnf) (hf := hf) (h := h) (z := z) (mo := mo) (co := co) (a9 := a9) (b9 := i) hx hb hml hg hown hK (Nat.le_trans (Nat.le_of_ble_eq_true rfl) hRf) (Nat.le_trans (Nat.le_of_ble_eq_true rfl) hRl) (by omega) (by omega) hB hRC hRT hZb ha9 (by omega) (RC 2) 0 zc ZZ (va_up X 1 (fc (RT 1 i))) (va_up W9 1 (mgF 10 (pwR (fc (RT 1 i))) (W9 1))) S4 H5 _ ls (by omega) hzk (pt1_un h0 (by decide)) (pt1_up _ _ _ _) h_vo h_rr h_rc h_za h_lo h_ma h_po h_pn h_pp hY hW hZ hRR hfr hI (lv_sub hl [0, 1, 2, 3, 4] rfl) (fun zc2 ZZ2 X2 W2 S8 H9 locs ls hzk2 h02 h12 j_vo j_rr j_rc j_za j_lo j_ma j_po j_pn j_pp hY hW hZ hRR hfr hI hl => ?_)
    refine lv_iinc (v := nI (i + 1)) (lv' := [(3, .int (nI (i + 1))), (4, .int (nI (RC 2))), (2, .int (nI a9)), (1, .ref lo), (0, .ref vo)]) hx hb d_V_findZeros_108 hl (k := 1) rfl (nI_1 _) (by decide) rfl (fun ls hl => ?_)
    refine lv_goto (tgt := 30) hx hb d_V_findZeros_111 (by decide) ?_
    exact ih (i + 1) zc2 ZZ2 X2 W2 S8 H9 locs ls (by omega) (by rw [show (a9 * RC 1 + (i + 1)) * RC 2 = (a9 * RC 1 + i) * RC 2 + RC 2 by rw [← Nat.add_assoc, Nat.succ_mul]]; exact hzk2) h02 j_vo j_rr j_rc j_za j_lo j_ma j_po j_pn j_pp hY hW hZ hRR hfr hI (lv_sub hl [0, 2, 3, 4] rfl) kx
set_option maxHeartbeats 4000000 in
set_option maxRecDepth 100000 in
theorem lp_V_fz1 {p : Program} {l : Launch} {e : Env} {R : Room} {s : State} {m : MethodId} {args : Array Value} {below : List Frame} {meth : Method} {c : Code} {Q : State → Prop} {D : mp_G} {g : Nat → ClassId} {A : Nat → Prop} {cells slots : Nat} (hx : p.tables.exec = Jvm.exec) (hb : c.code = b_V_findZeros) (hml : c.maxLocals = 5) (hg : ∀ w ∈ gw, w.before args s = true) (hown : s.vm.findClass R_V = some m.cls) (hK : mp_K D classes (tys g) s) (hRf : 4 ≤ R.frames) (hRl : 92 ≤ R.locals) (hRc : cells ≤ R.cells) (hRs : slots ≤ R.slots) {B : mp_M} {vo rr rc za po pn pp lo ma hd n : Nat} {v0 v1 v2 v3 v4 v8 : Value} {RT : Nat → Nat → Nat} {RC : Nat → Nat} {me mk mn mcap mz : Nat → Nat} {mkf mnf : Nat → Nat → Int32} {hf : Nat → Int32} {h : Nat → m3} {z : Nat → Nat} {mo : Nat → Nat → m3} {co : Nat → Nat → fF} (hB : lsB n h z mo co mcap mz mkf mnf hf) (hRC : ∀ l, l < 3 → RC l ≤ 16) (hRT : ∀ l, l < 3 → ∀ i, i < RC l → RT l i < 32003) (hZb : ∀ Q n9 ZZ, Q ≤ RC 0 * RC 1 * RC 2 → zkS (zqP n z mo co RT (RC 1) (RC 2)) (zqX RT (RC 1) (RC 2)) Q n9 ZZ → n9 ≤ 16) : ∀ (k : Nat) (i : Nat) (zc : Nat) (ZZ : Nat → Nat → fF) (X : Nat → fF) (W9 : Nat → Nat → fF) (S : mp_M) (H : Heap) (locs : List Loc) (ls : Array Slot), i + k = RC 0 → (zkS (zqP n z mo co RT (RC 1) (RC 2)) (zqX RT (RC 1) (RC 2)) (i * RC 1 * RC 2) zc ZZ) → S vo = some (10, .inr (7, [v0, v1, v2, v3, v4, .ref rr, .ref rc, .ref za, v8, .int (nI zc), .ref po])) → S rr = some (33, .inl ((g 1), 3, .inr (.inr (.inr (.inr (rfs (fun ii => rr + 1 + ii) 3)))))) → S rc = some (34, .inl ((g 0), 3, .inl (fun j => nI (RC j)))) → S za = some (35, .inl ((g 1), 16, .inr (.inr (.inr (.inr (rfs (fun ii => za + 1 + ii) 16)))))) → S lo = some (2, .inr (9, [.ref ma, .ref hd, .int (nI n)])) → S ma = some (4, .inl ((g 2), 12, .inr (.inr (.inr (.inr (rfs me 12)))))) → S po = some (37, .inr (2, [.ref pn, .ref pp])) → S pn = some (38, .inl ((g 0), 3, .inl (fun j => nI (X j).val))) → S pp = some (39, .inl ((g 1), 3, .inr (.inr (.inr (.inr (rfs (fun ii => pp + 1 + ii) 3)))))) → (yS g 300 12 me mk mn mcap mz mkf mnf S) → (rS g 610 3 10 (fun ii => pp + 1 + ii) (fun ii j => nI (W9 ii j).val) S) → (rS g 590 16 3 (fun ii => za + 1 + ii) (fun ii j => nI (ZZ ii j).val) S) → (rS g 580 3 16 (fun ii => rr + 1 + ii) (fun ii j => nI (RT ii j)) S) → (∀ b t e9, B b = some (t, e9) → (t ≠ 10) → (t ≠ 38) → (t < 590 ∨ 606 ≤ t) → (t < 610 ∨ 613 ≤ t) → S b = some (t, e9)) → mp_I D classes A s.heap S H locs → lv_has ls 5 [(2, .int (nI i)), (1, .ref lo), (0, .ref vo)] → (∀ (zc : Nat) (ZZ : Nat → Nat → fF) (X : Nat → fF) (W9 : Nat → Nat → fF) (S : mp_M) (H : Heap) (locs : List Loc) (ls : Array Slot), (zkS (zqP n z mo co RT (RC 1) (RC 2)) (zqX RT (RC 1) (RC 2)) ((RC 0) * RC 1 * RC 2) zc ZZ) → S vo = some (10, .inr (7, [v0, v1, v2, v3, v4, .ref rr, .ref rc, .ref za, v8, .int (nI zc), .ref po])) → S rr = some (33, .inl ((g 1), 3, .inr (.inr (.inr (.inr (rfs (fun ii => rr + 1 + ii) 3)))))) → S rc = some (34, .inl ((g 0), 3, .inl (fun j => nI (RC j)))) → S za = some (35, .inl ((g 1), 16, .inr (.inr (.inr (.inr (rfs (fun ii => za + 1 + ii) 16)))))) → S lo = some (2, .inr (9, [.ref ma, .ref hd, .int (nI n)])) → S ma = some (4, .inl ((g 2), 12, .inr (.inr (.inr (.inr (rfs me 12)))))) → S po = some (37, .inr (2, [.ref pn, .ref pp])) → S pn = some (38, .inl ((g 0), 3, .inl (fun j => nI (X j).val))) → S pp = some (39, .inl ((g 1), 3, .inr (.inr (.inr (.inr (rfs (fun ii => pp + 1 + ii) 3)))))) → (yS g 300 12 me mk mn mcap mz mkf mnf S) → (rS g 610 3 10 (fun ii => pp + 1 + ii) (fun ii j => nI (W9 ii j).val) S) → (rS g 590 16 3 (fun ii => za + 1 + ii) (fun ii j => nI (ZZ ii j).val) S) → (rS g 580 3 16 (fun ii => rr + 1 + ii) (fun ii j => nI (RT ii j)) S) → (∀ b t e9, B b = some (t, e9) → (t ≠ 10) → (t ≠ 38) → (t < 590 ∨ 606 ≤ t) → (t < 610 ∨ 613 ≤ t) → S b = some (t, e9)) → mp_I D classes A s.heap S H locs → lv_has ls 5 [(2, .int (nI (RC 0))), (1, .ref lo), (0, .ref vo)] → W p l e R s m args below meth c H locs cells slots Q (F0 m 120 ls [])) → W p l e R s m args below meth c H locs cells slots Q (F0 m 2 ls []) := by
  intro k
  induction k with
  | zero =>
    intro i zc ZZ X W9 S H locs ls hi hzk h_vo h_rr h_rc h_za h_lo h_ma h_po h_pn h_pp hY hW hZ hRR hfr hI hl kx
    have hr16 := hRC 0 (by decide)
    refine lv_iload_n hx hb d_V_findZeros_2 rfl (lv_at hl 0 rfl) ?_
    refine lv_aload_n hx hb d_V_findZeros_3 rfl (lv_at hl 2 rfl) ?_
    refine mp_get (C := R_V) (T := F_V) (N := 11) (v := .ref rc) hx hb hg i_V hown hK.va hI h_vo rfl 6 (by decide) (hg _ q_267) (fun _ h9 => h9) rfl d_V_findZeros_4 ?_
    refine lv_iconst (v := nI 0) hx hb d_V_findZeros_7 (by decide) ?_
    refine mp_iald hx hb hK.va hI 0 h_rc rfl (vp_in_nI (show 0 < 3 by omega) (by omega)) d_V_findZeros_8 ?_
    refine lv_topi (fun v1 ev1 => ?_)
    obtain rfl : v1 = nI (RC 0) := ev1.trans (by rw [nI_clamp (by omega)])
    refine lv_icmp_ge (tgt := 120) hx hb d_V_findZeros_9 (by decide) (fun _ => ?_) (fun h9 => absurd ((nI_leI (by omega) (by omega)).mpr (by omega)) h9)
    obtain rfl : i = RC 0 := by omega
    exact kx zc ZZ X W9 S H locs ls hzk h_vo h_rr h_rc h_za h_lo h_ma h_po h_pn h_pp hY hW hZ hRR hfr hI (lv_sub hl [0, 1, 2] rfl)
  | succ k ih =>
    intro i zc ZZ X W9 S H locs ls hi hzk h_vo h_rr h_rc h_za h_lo h_ma h_po h_pn h_pp hY hW hZ hRR hfr hI hl kx
    have hr2 := hRC 0 (by decide)
    refine lv_iload_n hx hb d_V_findZeros_2 rfl (lv_at hl 0 rfl) ?_
    refine lv_aload_n hx hb d_V_findZeros_3 rfl (lv_at hl 2 rfl) ?_
    refine mp_get (C := R_V) (T := F_V) (N := 11) (v := .ref rc) hx hb hg i_V hown hK.va hI h_vo rfl 6 (by decide) (hg _ q_267) (fun _ h9 => h9) rfl d_V_findZeros_4 ?_
    refine lv_iconst (v := nI 0) hx hb d_V_findZeros_7 (by decide) ?_
    refine mp_iald hx hb hK.va hI 0 h_rc rfl (vp_in_nI (show 0 < 3 by omega) (by omega)) d_V_findZeros_8 ?_
    refine lv_topi (fun v1 ev1 => ?_)
    obtain rfl : v1 = nI (RC 0) := ev1.trans (by rw [nI_clamp (by omega)])
    refine lv_icmp_ge (tgt := 120) hx hb d_V_findZeros_9 (by decide) (fun h9 => absurd h9 (by rw [nI_leI (by omega) (by omega)]; omega)) (fun _ => ?_)
    have h_rw : S (rr + 1 + 0) = some ((580 + 0), .inl ((g 0), 16, .inl (fun j => nI (RT 0 j)))) := hRR 0 (by decide)
    refine lv_aload_n hx hb d_V_findZeros_12 rfl (lv_at hl 2 rfl) ?_
    refine mp_get (C := R_V) (T := F_V) (N := 11) (v := .ref po) hx hb hg i_V hown hK.va hI h_vo rfl 10 (by decide) (hg _ q_274) (fun _ h9 => h9) rfl d_V_findZeros_13 ?_
    refine lv_iconst (v := nI 0) hx hb d_V_findZeros_16 (by decide) ?_
    refine lv_aload_n hx hb d_V_findZeros_17 rfl (lv_at hl 2 rfl) ?_
    refine mp_get (C := R_V) (T := F_V) (N := 11) (v := .ref rr) hx hb hg i_V hown hK.va hI h_vo rfl 5 (by decide) (hg _ q_266) (fun _ h9 => h9) rfl d_V_findZeros_18 ?_
    refine lv_iconst (v := nI 0) hx hb d_V_findZeros_21 (by decide) ?_
    refine mp_ald2 (b := rr + 1 + 0) hx hb hK.va hI 1 h_rr rfl (vp_in_nI (show 0 < 3 by omega) (by omega)) (by rw [nI_clamp (by omega)]; exact rfs_at (by omega)) d_V_findZeros_22 ?_
    have hrt := hRT 0 (by decide) i (by omega)
    have hr16 := hRC 0 (by decide)
    refine lv_iload_n hx hb d_V_findZeros_23 rfl (lv_at hl 0 rfl) ?_
    refine mp_iald hx hb hK.va hI 0 h_rw rfl (vp_in_nI (show i < 16 by omega) (by omega)) d_V_findZeros_24 ?_
    refine lv_topi (fun v2 ev2 => ?_)
    obtain rfl : v2 = nI (RT 0 i) := ev2.trans (by rw [nI_clamp (by omega)])
    refine lv_topi (fun v3 ev3 => ?_)
    obtain rfl : v3 = nI (fc (RT 0 i)).val := ev3.trans (by rw [fc_v, Nat.mod_eq_of_lt hrt])
    refine mp_callv hI (va_runV (As := [.int (nI 0), .int (nI (fc (RT 0 i)).val)]) (rest := []) ⟨hx, hb, hml, hown, hg⟩ (c_P_move l D g S _ po pn pp X W9 0 (fc (RT 0 i)) h_po h_pn h_pp hW (by decide)) ⟨(callB_of 2 hg (wd_goodG q_493) rfl rfl rfl (hg _ q_19) (hg _ q_490) (by decide +kernel) ⟨Nat.le_trans (Nat.le_of_ble_eq_true rfl) hRf, Nat.le_trans (Nat.le_of_ble_eq_true rfl) hRl⟩), hg _ q_491, hg _ q_492⟩ (mp_preV (C := R_P) (T := F_P) hI hK h_po rfl [.int (nI 0), .int (nI (fc (RT 0 i)).val)]) rfl rfl hl.1 rfl (lv_room (Nat.le_of_ble_eq_true rfl)) d_V_findZeros_25 ⟨by omega, by omega⟩) (fun S4 H5 locs p_6 hI => ?_)
    obtain ⟨q_pn, q_W, fq⟩ := p_6
    have h_vo : S4 vo = some (10, .inr (7, [v0, v1, v2, v3, v4, .ref rr, .ref rc, .ref za, v8, .int (nI zc), .ref po])) := fq vo _ _ h_vo (by omega) (by omega)
    have h_rr : S4 rr = some (33, .inl ((g 1), 3, .inr (.inr (.inr (.inr (rfs (fun ii => rr + 1 + ii) 3)))))) := fq rr _ _ h_rr (by omega) (by omega)
    have h_rc : S4 rc = some (34, .inl ((g 0), 3, .inl (fun j => nI (RC j)))) := fq rc _ _ h_rc (by omega) (by omega)
    have h_za : S4 za = some (35, .inl ((g 1), 16, .inr (.inr (.inr (.inr (rfs (fun ii => za + 1 + ii) 16)))))) := fq za _ _ h_za (by omega) (by omega)
    have h_lo : S4 lo = some (2, .inr (9, [.ref ma, .ref hd, .int (nI n)])) := fq lo _ _ h_lo (by omega) (by omega)
    have h_ma : S4 ma = some (4, .inl ((g 2), 12, .inr (.inr (.inr (.inr (rfs me 12)))))) := fq ma _ _ h_ma (by omega) (by omega)
    have h_po : S4 po = some (37, .inr (2, [.ref pn, .ref pp])) := fq po _ _ h_po (by omega) (by omega)
    have h_pp : S4 pp = some (39, .inl ((g 1), 3, .inr (.inr (.inr (.inr (rfs (fun ii => pp + 1 + ii) 3)))))) := fq pp _ _ h_pp (by omega) (by omega)
    have hfr : ∀ b t e9, B b = some (t, e9) → (t ≠ 10) → (t ≠ 38) → (t < 590 ∨ 606 ≤ t) → (t < 610 ∨ 613 ≤ t) → S4 b = some (t, e9) := fun b t e9 h9 k0 k1 k2 k3 => by have h8 := hfr b t e9 h9 k0 k1 k2 k3; exact fq b _ _ h8 (by omega) (by omega)
    have hY := yS_kept hY (S1 := S4) (fun b t9 e9 hb9 h1 h2 => by have h8 : S4 b = some (t9, e9) := fq b _ _ hb9 (by omega) (by omega); rw [h8, hb9])
    have hZ := rS_kept hZ (S1 := S4) (fun b t9 e9 hb9 h1 h2 => by have h8 : S4 b = some (t9, e9) := fq b _ _ hb9 (by omega) (by omega); rw [h8, hb9])
    have hRR := rS_kept hRR (S1 := S4) (fun b t9 e9 hb9 h1 h2 => by have h8 : S4 b = some (t9, e9) := fq b _ _ hb9 (by omega) (by omega); rw [h8, hb9])
    have h_pn := q_pn
    have hW := q_W
    refine lv_iconst (v := nI 0) hx hb d_V_findZeros_28 (by decide) ?_
    refine lv_istore_n (lv' := [(3, .int (nI 0)), (2, .int (nI i)), (1, .ref lo), (0, .ref vo)]) hx hb d_V_findZeros_29 rfl hl (by decide) rfl (fun ls hl => ?_)
    refine lp_V_fz2 (B := B) (vo := vo) (rr := rr) (rc := rc) (za := za) (po := po) (pn := pn) (pp := pp) (lo := lo) (ma := ma) (hd := hd) (n := n) (v0 := v0) (v1 := v1) (v2 := v2) (v3 := v3) (v4 := v4) (v8 := v8) (RT := RT) (RC := RC) (me := me) (mk := mk) (mn := mn) (mcap := mcap) (mz := mz) (mkf := mkf) (mnf := mnf) (hf := hf) (h := h) (z := z) (mo := mo) (co := co) (a9 := i) hx hb hml hg hown hK (Nat.le_trans (Nat.le_of_ble_eq_true rfl) hRf) (Nat.le_trans (Nat.le_of_ble_eq_true rfl) hRl) (by omega) (by omega) hB hRC hRT hZb (by omega) (RC 1) 0 zc ZZ (va_up X 0 (fc (RT 0 i))) (va_up W9 0 (mgF 10 (pwR (fc (RT 0 i))) (W9 0))) S4 H5 _ ls (by omega) hzk (pt1_up _ _ _ _) h_vo h_rr h_rc h_za h_lo h_ma h_po h_pn h_pp hY hW hZ hRR hfr hI (lv_sub hl [0, 1, 2, 3] rfl) (fun zc2 ZZ2 X2 W2 S8 H9 locs ls hzk2 h02 j_vo j_rr j_rc j_za j_lo j_ma j_po j_pn j_pp hY hW hZ hRR hfr hI hl => ?_)
    refine lv_iinc (v := nI (i + 1)) (lv' := [(2, .int (nI (i + 1))), (3, .int (nI (RC 1))), (1, .ref lo), (0, .ref vo)]) hx hb d_V_findZeros_114 hl (k := 1) rfl (nI_1 _) (by decide) rfl (fun ls hl => ?_)
    refine lv_goto (tgt := 2) hx hb d_V_findZeros_117 (by decide) ?_
    exact ih (i + 1) zc2 ZZ2 X2 W2 S8 H9 locs ls (by omega) (by rw [show (i + 1) * RC 1 = i * RC 1 + RC 1 from Nat.succ_mul _ _]; exact hzk2) j_vo j_rr j_rc j_za j_lo j_ma j_po j_pn j_pp hY hW hZ hRR hfr hI (lv_sub hl [0, 2, 3] rfl) kx
set_option maxHeartbeats 4000000 in
set_option maxRecDepth 100000 in
/-- the zeros -/
theorem c_V_findZeros (l : Launch) (D : mp_G) (g : Nat → ClassId) (S : mp_M) (sz : Nat) (vo rr rc za po pn pp lo ma hd n : Nat) (v0 v1 v2 v3 v4 v8 : Value) (RT : Nat → Nat → Nat) (RC : Nat → Nat) (me mk mn mcap mz : Nat → Nat) (mkf mnf : Nat → Nat → Int32) (hf : Nat → Int32) (h : Nat → m3) (z : Nat → Nat) (mo : Nat → Nat → m3) (co : Nat → Nat → fF) (X : Nat → fF) (W9 ZZ : Nat → Nat → fF) (h_vo : S vo = some (10, .inr (7, [v0, v1, v2, v3, v4, .ref rr, .ref rc, .ref za, v8, .int (nI 0), .ref po]))) (h_rr : S rr = some (33, .inl ((g 1), 3, .inr (.inr (.inr (.inr (rfs (fun ii => rr + 1 + ii) 3))))))) (h_rc : S rc = some (34, .inl ((g 0), 3, .inl (fun j => nI (RC j))))) (h_za : S za = some (35, .inl ((g 1), 16, .inr (.inr (.inr (.inr (rfs (fun ii => za + 1 + ii) 16))))))) (h_lo : S lo = some (2, .inr (9, [.ref ma, .ref hd, .int (nI n)]))) (h_ma : S ma = some (4, .inl ((g 2), 12, .inr (.inr (.inr (.inr (rfs me 12))))))) (h_po : S po = some (37, .inr (2, [.ref pn, .ref pp]))) (h_pn : S pn = some (38, .inl ((g 0), 3, .inl (fun j => nI (X j).val)))) (h_pp : S pp = some (39, .inl ((g 1), 3, .inr (.inr (.inr (.inr (rfs (fun ii => pp + 1 + ii) 3))))))) (hY : yS g 300 12 me mk mn mcap mz mkf mnf S) (hW : rS g 610 3 10 (fun ii => pp + 1 + ii) (fun ii j => nI (W9 ii j).val) S) (hZ : rS g 590 16 3 (fun ii => za + 1 + ii) (fun ii j => nI (ZZ ii j).val) S) (hRR : rS g 580 3 16 (fun ii => rr + 1 + ii) (fun ii j => nI (RT ii j)) S) (hB : lsB n h z mo co mcap mz mkf mnf hf) (hRC : ∀ l, l < 3 → RC l ≤ 16) (hRT : ∀ l, l < 3 → ∀ i, i < RC l → RT l i < 32003) (hZb : ∀ Q n9 ZZ, Q ≤ RC 0 * RC 1 * RC 2 → zkS (zqP n z mo co RT (RC 1) (RC 2)) (zqX RT (RC 1) (RC 2)) Q n9 ZZ → n9 ≤ 16) : Met l y_V_findZeros w_V_findZeros ({ frames := 4, cells := 0, slots := 0, locals := 92 }) (va_Pc [.ref vo, .ref lo] (mp_B0 D classes (tys g) S sz)) (va_Qv (fun (S1 : mp_M) => ∃ (zc : Nat) (ZZ1 : Nat → Nat → fF) (X1 : Nat → fF) (W1 : Nat → Nat → fF), zkS (zqP n z mo co RT (RC 1) (RC 2)) (zqX RT (RC 1) (RC 2)) (RC 0 * RC 1 * RC 2) zc ZZ1 ∧ S1 vo = some (10, .inr (7, [v0, v1, v2, v3, v4, .ref rr, .ref rc, .ref za, v8, .int (nI zc), .ref po])) ∧ S1 pn = some (38, .inl ((g 0), 3, .inl (fun j => nI (X1 j).val))) ∧ (rS g 610 3 10 (fun ii => pp + 1 + ii) (fun ii j => nI (W1 ii j).val) S1) ∧ (rS g 590 16 3 (fun ii => za + 1 + ii) (fun ii j => nI (ZZ1 ii j).val) S1) ∧ (∀ b t e9, S b = some (t, e9) → (t ≠ 10) → (t ≠ 38) → (t < 590 ∨ 606 ≤ t) → (t < 610 ∨ 613 ≤ t) → S1 b = some (t, e9))) (mp_B1 D classes S sz) (mp_A S sz)) 0 0 (mp_A S sz) := by
  refine Met.ofW (cc := b_V_findZeros) (maxL := 5) (ret := none) (by decide) rfl ?_
  intro p e s m args below meth c s₁ B hml hv
  obtain ⟨rfl, hsz, hH, hK⟩ := hv
  have hx := B.exec
  have hb := B.bytes
  have hr := B.returns
  have hts := atoms_spec (ws := w_V_findZeros) B.pre
  have hg : ∀ w ∈ gw, w.before _ s = true := fun w h => hts w (List.mem_cons_of_mem _ h)
  have hown : s.vm.findClass R_V = some m.cls := findClass_of_methodNamed B.named
  have hlocks := B.notSynchronized
  subst hsz
  have hI := mp_I.start hH
  have hl := lv_entry ([.ref vo, .ref lo]) (n := 5) (Nat.le_of_ble_eq_true rfl)
  rw [lg_entry_eq]
  generalize (lg_sl ([.ref vo, .ref lo]) ++ List.replicate (5 - (lg_sl ([.ref vo, .ref lo])).length) Slot.unset).toArray = ls at hl ⊢
  have hl : lv_has ls 5 [(0, .ref vo), (1, .ref lo)] := hl
  have hfr : ∀ b t e9, S b = some (t, e9) → (t ≠ 10) → (t ≠ 38) → (t < 590 ∨ 606 ≤ t) → (t < 610 ∨ 613 ≤ t) → S b = some (t, e9) := fun _ _ _ h9 _ _ _ _ => h9
  refine lv_iconst (v := nI 0) hx hb d_V_findZeros_0 (by decide) ?_
  refine lv_istore_n (lv' := [(2, .int (nI 0)), (0, .ref vo), (1, .ref lo)]) hx hb d_V_findZeros_1 rfl hl (by decide) rfl (fun ls hl => ?_)
  refine lp_V_fz1 (B := S) (vo := vo) (rr := rr) (rc := rc) (za := za) (po := po) (pn := pn) (pp := pp) (lo := lo) (ma := ma) (hd := hd) (n := n) (v0 := v0) (v1 := v1) (v2 := v2) (v3 := v3) (v4 := v4) (v8 := v8) (RT := RT) (RC := RC) (me := me) (mk := mk) (mn := mn) (mcap := mcap) (mz := mz) (mkf := mkf) (mnf := mnf) (hf := hf) (h := h) (z := z) (mo := mo) (co := co) hx hb hml hg hown hK (Nat.le_of_ble_eq_true rfl) (Nat.le_of_ble_eq_true rfl) (Nat.le_of_ble_eq_true rfl) (Nat.le_of_ble_eq_true rfl) hB hRC hRT hZb (RC 0) 0 0 ZZ X W9 S s.heap _ ls (by omega) ⟨fun _ => 0, by rw [Nat.zero_mul, Nat.zero_mul]; exact colS_0 _ _, fun r hr => absurd hr (Nat.not_lt_zero r)⟩ h_vo h_rr h_rc h_za h_lo h_ma h_po h_pn h_pp hY hW hZ hRR hfr hI (lv_sub hl [0, 2, 1] rfl) (fun zc ZZ1 X1 W1 S1 H2 locs ls hzk j_vo j_rr j_rc j_za j_lo j_ma j_po j_pn j_pp hY hW hZ hRR hfr hI hl => ?_)
  refine mp_vret hx hb hr hlocks hI (Nat.le_of_ble_eq_true rfl) (Nat.le_of_ble_eq_true rfl) ?_ d_V_findZeros_120
  exact ⟨zc, ZZ1, X1, W1, hzk, j_vo, j_pn, hW, hZ, hfr⟩
