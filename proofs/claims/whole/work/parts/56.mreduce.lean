/-- the list as the reference holds it, against the list as the mathematics has it -/
def lsM (n : Nat) (h : Nat → m3) (z : Nat → Nat) (mo : Nat → Nat → m3) (co : Nat → Nat → fF) (z2 : Nat → Nat) (mo2 : Nat → Nat → m3) (co2 : Nat → Nat → fF) (ld : Nat → fF) (tf tpf tnf hf hif : Nat → Int32) : Prop :=
  mL n h z mo co ∧ n ≤ 12 ∧ ∀ i, i < n → tf i = nI (z2 i) ∧ z2 i ≤ 1000 ∧ hf i = nI (pN (h i).1 (h i).2.1 (h i).2.2) ∧ e9 (h i) ∧ hif i = nI (iv (ld i)).val ∧
    (∀ k, k < z2 i → tpf (1000 * i + k) = nI (pN (mo2 i k).1 (mo2 i k).2.1 (mo2 i k).2.2) ∧ tnf (1000 * i + k) = nI (co2 i k).val ∧ e9 (mo2 i k) ∧ pl3 (mo2 i k) ≤ pl3 (h i)) ∧
    ∀ g : m3 → fF, iv (ld i) * sm (z2 i) (fun k => co2 i k * g (mo2 i k)) = sm (z i) (fun k => co i k * g (mo i k))
theorem lsM_h {n : Nat} {h : Nat → m3} {z : Nat → Nat} {mo : Nat → Nat → m3} {co : Nat → Nat → fF} {z2 : Nat → Nat} {mo2 : Nat → Nat → m3} {co2 : Nat → Nat → fF} {ld : Nat → fF} {tf tpf tnf hf hif : Nat → Int32} (H : lsM n h z mo co z2 mo2 co2 ld tf tpf tnf hf hif) : mhS n (fun i => (h i).1) (fun i => (h i).2.1) (fun i => (h i).2.2) hf := by
  intro i hi
  obtain ⟨_, _, h1, ⟨h2, h3, h4⟩, _⟩ := H.2.2 i hi
  exact ⟨h1, h2, h3, h4⟩
theorem plN_b {a b d : Nat} (h : a + b ≤ d) : plN a b (d - a - b) = plN a 0 (d - a) + b := by
  have h1 := plN_eq a b (d - a - b)
  have h2 := plN_eq a 0 (d - a)
  rw [show a + b + (d - a - b) = d by omega] at h1
  rw [show a + 0 + (d - a) = d by omega] at h2
  omega
def mR (d k : Nat) : Nat := if k ≤ d then plN k 0 (d - k) else tr3 (d + 1)
theorem mR_0 (d : Nat) : mR d 0 = tr3 d := by
  unfold mR; rw [if_pos (Nat.zero_le d)]
  have h1 := plN_eq 0 0 d
  have h2 : tr2 0 = 0 := rfl
  simp only [Nat.zero_add, Nat.zero_mul, Nat.add_zero] at h1
  rw [show d - 0 = d by omega]; omega
theorem mR_d (d : Nat) : mR d (d + 1) = tr3 (d + 1) := by unfold mR; rw [if_neg (by omega)]
theorem mR_s {d a : Nat} (h : a ≤ d) : mR d (a + 1) = plN a 0 (d - a) + (d - a + 1) := by
  have h1 := plN_b (a := a) (b := d - a) (d := d) (by omega)
  rw [show d - a - (d - a) = 0 by omega] at h1
  have h2 : pl3 (nxt (a, d - a, 0)) = plN a (d - a) 0 + 1 := pl_nxt (a, d - a, 0)
  unfold mR
  by_cases e : a + 1 ≤ d
  · rw [if_pos e]
    have h3 : nxt (a, d - a, 0) = (a + 1, 0, d - (a + 1)) := by unfold nxt; simp; rw [if_pos (by omega)]; simp; omega
    rw [h3] at h2
    have h4 : pl3 (a + 1, 0, d - (a + 1)) = plN (a + 1) 0 (d - (a + 1)) := rfl
    omega
  · rw [if_neg e]
    obtain rfl : a = d := by omega
    have h3 : nxt (a, a - a, 0) = (0, 0, a + 1) := by unfold nxt; simp
    rw [h3] at h2
    have h4 : pl3 (0, 0, a + 1) = plN 0 0 (a + 1) := rfl
    have h5 := mR_0 (a + 1)
    unfold mR at h5
    rw [if_pos (Nat.zero_le _), show a + 1 - 0 = a + 1 by omega] at h5
    omega
/-- the cube as a row -/
def rwC (CU : Nat → fF) : Nat → fF := fun q => CU (cl3 (Ep q))
theorem Ep28 {q : Nat} (h : q < tr3 28) : (Ep q).1 < 28 ∧ (Ep q).2.1 < 28 ∧ (Ep q).2.2 < 28 := by
  have := Ep_deg (M := 27) h; omega
theorem cu_aR {n : Nat} {h : Nat → m3} {z : Nat → Nat} {mo : Nat → Nat → m3} {co : Nat → Nat → fF} {z2 : Nat → Nat} {mo2 : Nat → Nat → m3} {co2 : Nat → Nat → fF} {ld : Nat → fF} {tf tpf tnf hf hif : Nat → Int32} (H : lsM n h z mo co z2 mo2 co2 ld tf tpf tnf hf hif) {f : Nat} (hfn : f < n) {t : m3} {x : fF} {CU : Nat → fF} (h28 : ∀ k, k < z2 f → (ad3 t (mo2 f k)).1 < 28 ∧ (ad3 t (mo2 f k)).2.1 < 28 ∧ (ad3 t (mo2 f k)).2.2 < 28) {q : Nat} (hq : q < tr3 28) :
    rwC (cuF (mo2 f) (co2 f) t (x * iv (ld f)) CU (z2 f)) q = aR z mo co t f (-x) (rwC CU) q := by
  unfold rwC cuF aR
  have h1 := (H.2.2 f hfn).2.2.2.2.2.2 (fun u => if q = pl3 (ad3 t u) then 1 else 0)
  have h2 : sm (z f) (fun k => if q = pl3 (ad3 t (mo f k)) then co f k else 0) = sm (z f) (fun k => co f k * (if q = pl3 (ad3 t (mo f k)) then 1 else 0)) := sm_cg (fun k _ => by split <;> grind)
  have h3 : sm (z2 f) (fun k => if cl3 (Ep q) = cl3 (ad3 t (mo2 f k)) then co2 f k else 0) = sm (z2 f) (fun k => co2 f k * (if q = pl3 (ad3 t (mo2 f k)) then 1 else 0)) := sm_cg (fun k hk => by
    by_cases e : q = pl3 (ad3 t (mo2 f k))
    · rw [if_pos e, if_pos (by rw [e, Ep_pl3])]; grind
    · rw [if_neg e, if_neg (fun w => e (by rw [← cl3_inj (Ep28 hq) (h28 k hk) w, pl_Ep3]))]; grind)
  rw [h2, h3, ← h1]; grind
theorem cu_out {mo2 : Nat → m3} {co2 : Nat → fF} {t : m3} {y : fF} {CU : Nat → fF} {z2 : Nat} (h28 : ∀ k, k < z2 → pl3 (ad3 t (mo2 k)) < tr3 28) {j : Nat} (hj : ∀ q, q < tr3 28 → j ≠ cl3 (Ep q)) : cuF mo2 co2 t y CU z2 j = CU j := by
  unfold cuF
  rw [sm_z (fun k hk => if_neg (fun w => hj _ (h28 k hk) (by rw [w, Ep_pl3])))]; grind
theorem rd_R {n : Nat} {h : Nat → m3} {z : Nat → Nat} {mo : Nat → Nat → m3} {co : Nat → Nat → fF} {T : Nat} : ∀ (K : Nat) {R R' : Nat → fF}, K ≤ T → (∀ q, q < T → R q = R' q) → ∀ q, q < T → rd n h z mo co K R q = rd n h z mo co K R' q
  | 0, _, _, _, hr => hr
  | K + 1, R, R', hK, hr => by
    unfold rd
    refine rd_R K (by omega) (fun q hq => ?_)
    by_cases e : fi h (Ep K) n < n
    · rw [if_pos e, if_pos e]; unfold aR; rw [hr q hq, hr K (by omega)]
    · rw [if_neg e, if_neg e]; exact hr q hq
theorem lsM_28 {n : Nat} {h : Nat → m3} {z : Nat → Nat} {mo : Nat → Nat → m3} {co : Nat → Nat → fF} {z2 : Nat → Nat} {mo2 : Nat → Nat → m3} {co2 : Nat → Nat → fF} {ld : Nat → fF} {tf tpf tnf hf hif : Nat → Int32} (H : lsM n h z mo co z2 mo2 co2 ld tf tpf tnf hf hif) {f : Nat} (hfn : f < n) {t u : m3} (ht : ad3 t (h f) = u) (hu : pl3 u < tr3 28) : ∀ k, k < z2 f → pl3 (ad3 t (mo2 f k)) < tr3 28 ∧ (ad3 t (mo2 f k)).1 < 28 ∧ (ad3 t (mo2 f k)).2.1 < 28 ∧ (ad3 t (mo2 f k)).2.2 < 28 := by
  intro k hk
  obtain ⟨_, _, _, h4⟩ := (H.2.2 f hfn).2.2.2.2.2.1 k hk
  have h5 : pl3 (ad3 t (mo2 f k)) ≤ pl3 u := by
    rw [← ht]
    rcases Nat.lt_or_ge (pl3 (mo2 f k)) (pl3 (h f)) with q | q
    · exact Nat.le_of_lt (pl_ad t q)
    · rw [pl3_inj (show pl3 (mo2 f k) = pl3 (h f) by omega)]; exact Nat.le_refl _
  have h6 := pl_deg_le (M := 27) (show plN (ad3 t (mo2 f k)).1 (ad3 t (mo2 f k)).2.1 (ad3 t (mo2 f k)).2.2 < tr3 (27 + 1) from Nat.lt_of_le_of_lt h5 hu)
  exact ⟨Nat.lt_of_le_of_lt h5 hu, by omega, by omega, by omega⟩
theorem nI_nm1 {f : Nat} (h : f < 12) : nI f ≠ -1 := by
  have : ∀ j : Nat, j < 12 → nI j ≠ -1 := by decide +kernel
  exact this f h

theorem d_M_reduce_0 : decode b_M_reduce 0 = .ok (.bipush 27, 2) := by decide +kernel
theorem d_M_reduce_2 : decode b_M_reduce 2 = .ok (.istore_n 1, 1) := by decide +kernel
theorem d_M_reduce_3 : decode b_M_reduce 3 = .ok (.iload_n 1, 1) := by decide +kernel
theorem d_M_reduce_4 : decode b_M_reduce 4 = .ok (.ifCond .lt 116, 3) := by decide +kernel
theorem d_M_reduce_7 : decode b_M_reduce 7 = .ok (.iload_n 1, 1) := by decide +kernel
theorem d_M_reduce_8 : decode b_M_reduce 8 = .ok (.istore_n 2, 1) := by decide +kernel
theorem d_M_reduce_9 : decode b_M_reduce 9 = .ok (.iload_n 2, 1) := by decide +kernel
theorem d_M_reduce_10 : decode b_M_reduce 10 = .ok (.ifCond .lt 104, 3) := by decide +kernel
theorem d_M_reduce_13 : decode b_M_reduce 13 = .ok (.iload_n 1, 1) := by decide +kernel
theorem d_M_reduce_14 : decode b_M_reduce 14 = .ok (.iload_n 2, 1) := by decide +kernel
theorem d_M_reduce_15 : decode b_M_reduce 15 = .ok (.isub, 1) := by decide +kernel
theorem d_M_reduce_16 : decode b_M_reduce 16 = .ok (.istore_n 3, 1) := by decide +kernel
theorem d_M_reduce_17 : decode b_M_reduce 17 = .ok (.iload_n 3, 1) := by decide +kernel
theorem d_M_reduce_18 : decode b_M_reduce 18 = .ok (.ifCond .lt 90, 3) := by decide +kernel
theorem d_M_reduce_21 : decode b_M_reduce 21 = .ok (.iload_n 2, 1) := by decide +kernel
theorem d_M_reduce_22 : decode b_M_reduce 22 = .ok (.iload_n 3, 1) := by decide +kernel
theorem d_M_reduce_23 : decode b_M_reduce 23 = .ok (.iload_n 1, 1) := by decide +kernel
theorem d_M_reduce_24 : decode b_M_reduce 24 = .ok (.iload_n 2, 1) := by decide +kernel
theorem d_M_reduce_25 : decode b_M_reduce 25 = .ok (.isub, 1) := by decide +kernel
theorem d_M_reduce_26 : decode b_M_reduce 26 = .ok (.iload_n 3, 1) := by decide +kernel
theorem d_M_reduce_27 : decode b_M_reduce 27 = .ok (.isub, 1) := by decide +kernel
theorem d_M_reduce_28 : decode b_M_reduce 28 = .ok (.invokestatic 135, 3) := by decide +kernel
theorem d_M_reduce_31 : decode b_M_reduce 31 = .ok (.istore 4, 2) := by decide +kernel
theorem d_M_reduce_33 : decode b_M_reduce 33 = .ok (.aload_n 0, 1) := by decide +kernel
theorem d_M_reduce_34 : decode b_M_reduce 34 = .ok (.getfield 29, 3) := by decide +kernel
theorem d_M_reduce_37 : decode b_M_reduce 37 = .ok (.iload 4, 2) := by decide +kernel
theorem d_M_reduce_39 : decode b_M_reduce 39 = .ok (.iaload, 1) := by decide +kernel
theorem d_M_reduce_40 : decode b_M_reduce 40 = .ok (.ifCond .ne 7, 3) := by decide +kernel
theorem d_M_reduce_43 : decode b_M_reduce 43 = .ok (.iconst (-1), 1) := by decide +kernel
theorem d_M_reduce_44 : decode b_M_reduce 44 = .ok (.goto 14, 3) := by decide +kernel
theorem d_M_reduce_47 : decode b_M_reduce 47 = .ok (.aload_n 0, 1) := by decide +kernel
theorem d_M_reduce_48 : decode b_M_reduce 48 = .ok (.iload_n 2, 1) := by decide +kernel
theorem d_M_reduce_49 : decode b_M_reduce 49 = .ok (.iload_n 3, 1) := by decide +kernel
theorem d_M_reduce_50 : decode b_M_reduce 50 = .ok (.iload_n 1, 1) := by decide +kernel
theorem d_M_reduce_51 : decode b_M_reduce 51 = .ok (.iload_n 2, 1) := by decide +kernel
theorem d_M_reduce_52 : decode b_M_reduce 52 = .ok (.isub, 1) := by decide +kernel
theorem d_M_reduce_53 : decode b_M_reduce 53 = .ok (.iload_n 3, 1) := by decide +kernel
theorem d_M_reduce_54 : decode b_M_reduce 54 = .ok (.isub, 1) := by decide +kernel
theorem d_M_reduce_55 : decode b_M_reduce 55 = .ok (.invokevirtual 145, 3) := by decide +kernel
theorem d_M_reduce_58 : decode b_M_reduce 58 = .ok (.istore 5, 2) := by decide +kernel
theorem d_M_reduce_60 : decode b_M_reduce 60 = .ok (.iload 5, 2) := by decide +kernel
theorem d_M_reduce_62 : decode b_M_reduce 62 = .ok (.iconst (-1), 1) := by decide +kernel
theorem d_M_reduce_63 : decode b_M_reduce 63 = .ok (.if_icmp .eq 39, 3) := by decide +kernel
theorem d_M_reduce_66 : decode b_M_reduce 66 = .ok (.aload_n 0, 1) := by decide +kernel
theorem d_M_reduce_67 : decode b_M_reduce 67 = .ok (.iload 5, 2) := by decide +kernel
theorem d_M_reduce_69 : decode b_M_reduce 69 = .ok (.aload_n 0, 1) := by decide +kernel
theorem d_M_reduce_70 : decode b_M_reduce 70 = .ok (.getfield 29, 3) := by decide +kernel
theorem d_M_reduce_73 : decode b_M_reduce 73 = .ok (.iload 4, 2) := by decide +kernel
theorem d_M_reduce_75 : decode b_M_reduce 75 = .ok (.iaload, 1) := by decide +kernel
theorem d_M_reduce_76 : decode b_M_reduce 76 = .ok (.aload_n 0, 1) := by decide +kernel
theorem d_M_reduce_77 : decode b_M_reduce 77 = .ok (.getfield 26, 3) := by decide +kernel
theorem d_M_reduce_80 : decode b_M_reduce 80 = .ok (.iload 5, 2) := by decide +kernel
theorem d_M_reduce_82 : decode b_M_reduce 82 = .ok (.iaload, 1) := by decide +kernel
theorem d_M_reduce_83 : decode b_M_reduce 83 = .ok (.invokestatic 87, 3) := by decide +kernel
theorem d_M_reduce_86 : decode b_M_reduce 86 = .ok (.iload 4, 2) := by decide +kernel
theorem d_M_reduce_88 : decode b_M_reduce 88 = .ok (.aload_n 0, 1) := by decide +kernel
theorem d_M_reduce_89 : decode b_M_reduce 89 = .ok (.getfield 23, 3) := by decide +kernel
theorem d_M_reduce_92 : decode b_M_reduce 92 = .ok (.iload 5, 2) := by decide +kernel
theorem d_M_reduce_94 : decode b_M_reduce 94 = .ok (.iaload, 1) := by decide +kernel
theorem d_M_reduce_95 : decode b_M_reduce 95 = .ok (.invokestatic 139, 3) := by decide +kernel
theorem d_M_reduce_98 : decode b_M_reduce 98 = .ok (.isub, 1) := by decide +kernel
theorem d_M_reduce_99 : decode b_M_reduce 99 = .ok (.invokevirtual 148, 3) := by decide +kernel
theorem d_M_reduce_102 : decode b_M_reduce 102 = .ok (.iinc 3 (-1), 3) := by decide +kernel
theorem d_M_reduce_105 : decode b_M_reduce 105 = .ok (.goto (-88), 3) := by decide +kernel
theorem d_M_reduce_108 : decode b_M_reduce 108 = .ok (.iinc 2 (-1), 3) := by decide +kernel
theorem d_M_reduce_111 : decode b_M_reduce 111 = .ok (.goto (-102), 3) := by decide +kernel
theorem d_M_reduce_114 : decode b_M_reduce 114 = .ok (.iinc 1 (-1), 3) := by decide +kernel
theorem d_M_reduce_117 : decode b_M_reduce 117 = .ok (.goto (-114), 3) := by decide +kernel
theorem d_M_reduce_120 : decode b_M_reduce 120 = .ok (.return_, 1) := by decide +kernel
set_option maxHeartbeats 4000000 in
set_option maxRecDepth 100000 in
theorem lp_M_red3 {p : Program} {l : Launch} {e : Env} {R : Room} {s : State} {m : MethodId} {args : Array Value} {below : List Frame} {meth : Method} {c : Code} {Q : State → Prop} {D : mp_G} {g : Nat → ClassId} {A : Nat → Prop} {cells slots : Nat} (hx : p.tables.exec = Jvm.exec) (hb : c.code = b_M_reduce) (hml : c.maxLocals = 6) (hg : ∀ w ∈ gw, w.before args s = true) (hown : s.vm.findClass R_M = some m.cls) (hK : mp_K D classes (tys g) s) (hRf : 3 ≤ R.frames) (hRl : 67 ≤ R.locals) (hRc : cells ≤ R.cells) (hRs : slots ≤ R.slots) {B : mp_M} {o cu te tp tn hd hv9 n : Nat} {mv0 mv1 mv2 mv3 mv4 mv12 mv13 mv14 mv15 mv16 mv17 mv18 mv19 mv20 mv21 mv22 mv23 mv24 mv25 mv26 mv27 mv28 mv29 mv30 : Value} {tf tpf tnf hf hif : Nat → Int32} {h : Nat → m3} {z : Nat → Nat} {mo : Nat → Nat → m3} {co : Nat → Nat → fF} {z2 : Nat → Nat} {mo2 : Nat → Nat → m3} {co2 : Nat → Nat → fF} {ld : Nat → fF} {a9 d9 : Nat} {CU : Nat → fF} (hM : lsM n h z mo co z2 mo2 co2 ld tf tpf tnf hf hif) (hd9 : d9 < 28) (ha9 : a9 ≤ d9) : ∀ (k : Nat) (CU1 : Nat → fF) (S : mp_M) (H : Heap) (locs : List Loc) (ls : Array Slot), k + a9 ≤ d9 + 1 → (∀ q, q < tr3 28 → rd n h z mo co (plN a9 0 (d9 - a9) + k) (rwC CU1) q = rd n h z mo co (tr3 28) (rwC CU) q) → (∀ j, (∀ q, q < tr3 28 → j ≠ cl3 (Ep q)) → CU1 j = CU j) → S o = some (2000, .inr (10, [mv0, mv1, mv2, mv3, mv4, .int (nI n), .ref te, .ref tp, .ref tn, .ref hd, .ref hv9, .ref cu, mv12, mv13, mv14, mv15, mv16, mv17, mv18, mv19, mv20, mv21, mv22, mv23, mv24, mv25, mv26, mv27, mv28, mv29, mv30])) → S cu = some (2007, .inl ((g 0), 21952, .inl (fun j => nI (CU1 j).val))) → S te = some (2002, .inl ((g 0), 12, .inl tf)) → S tp = some (2003, .inl ((g 0), 12000, .inl tpf)) → S tn = some (2004, .inl ((g 0), 12000, .inl tnf)) → S hd = some (2005, .inl ((g 0), 12, .inl hf)) → S hv9 = some (2006, .inl ((g 0), 12, .inl hif)) → (∀ b t e9, B b = some (t, e9) → (t ≠ 2007) → S b = some (t, e9)) → mp_I D classes A s.heap S H locs → lv_has ls 6 [(3, .int (nI k + -1)), (2, .int (nI a9)), (1, .int (nI d9)), (0, .ref o)] → (∀ (CU1 : Nat → fF) (S : mp_M) (H : Heap) (locs : List Loc) (ls : Array Slot), (∀ q, q < tr3 28 → rd n h z mo co (plN a9 0 (d9 - a9) + 0) (rwC CU1) q = rd n h z mo co (tr3 28) (rwC CU) q) → (∀ j, (∀ q, q < tr3 28 → j ≠ cl3 (Ep q)) → CU1 j = CU j) → S o = some (2000, .inr (10, [mv0, mv1, mv2, mv3, mv4, .int (nI n), .ref te, .ref tp, .ref tn, .ref hd, .ref hv9, .ref cu, mv12, mv13, mv14, mv15, mv16, mv17, mv18, mv19, mv20, mv21, mv22, mv23, mv24, mv25, mv26, mv27, mv28, mv29, mv30])) → S cu = some (2007, .inl ((g 0), 21952, .inl (fun j => nI (CU1 j).val))) → S te = some (2002, .inl ((g 0), 12, .inl tf)) → S tp = some (2003, .inl ((g 0), 12000, .inl tpf)) → S tn = some (2004, .inl ((g 0), 12000, .inl tnf)) → S hd = some (2005, .inl ((g 0), 12, .inl hf)) → S hv9 = some (2006, .inl ((g 0), 12, .inl hif)) → (∀ b t e9, B b = some (t, e9) → (t ≠ 2007) → S b = some (t, e9)) → mp_I D classes A s.heap S H locs → lv_has ls 6 [(3, .int (nI 0 + -1)), (2, .int (nI a9)), (1, .int (nI d9)), (0, .ref o)] → W p l e R s m args below meth c H locs cells slots Q (F0 m 108 ls [])) → W p l e R s m args below meth c H locs cells slots Q (F0 m 17 ls []) := by
  intro k
  induction k with
  | zero =>
    intro CU1 S H locs ls hi hrd hout h_o h_cu h_te h_tp h_tn h_hd h_hv9 hfr hI hl kx
    refine lv_iload_n hx hb d_M_reduce_17 rfl (lv_at hl 0 rfl) ?_
    refine lv_if_lt (tgt := 108) hx hb d_M_reduce_18 (by decide) (fun _ => ?_) (fun h9 => absurd (by decide) h9)
    exact kx CU1 S H locs ls hrd hout h_o h_cu h_te h_tp h_tn h_hd h_hv9 hfr hI (lv_sub hl [0, 1, 2, 3] rfl)
  | succ k ih =>
    intro CU1 S H locs ls hi hrd hout h_o h_cu h_te h_tp h_tn h_hd h_hv9 hfr hI hl kx
    have hn12 := hM.2.1
    have hpl : pl3 (a9, k, d9 - a9 - k) = (plN a9 0 (d9 - a9) + k) := plN_b (a := a9) (b := k) (d := d9) (by omega)
    have hEp : Ep (plN a9 0 (d9 - a9) + k) = (a9, k, d9 - a9 - k) := by rw [← hpl, Ep_pl3]
    have hq28 : (plN a9 0 (d9 - a9) + k) < tr3 28 := by rw [← hpl]; exact pl_lt (M := 27) (show a9 + k + (d9 - a9 - k) ≤ 27 by omega)
    have hcl : (cl3 (a9, k, d9 - a9 - k)) < 21952 := cl3_lt (show a9 < 28 ∧ k < 28 ∧ d9 - a9 - k < 28 by omega)
    have hat : rwC CU1 (plN a9 0 (d9 - a9) + k) = CU1 (cl3 (a9, k, d9 - a9 - k)) := by unfold rwC; rw [hEp]
    rw [nI_dec] at hl
    refine lv_iload_n hx hb d_M_reduce_17 rfl (lv_at hl 0 rfl) ?_
    refine lv_if_lt (tgt := 108) hx hb d_M_reduce_18 (by decide) (fun h9 => absurd h9 (nI_pos (by omega))) (fun _ => ?_)
    refine lv_iload_n hx hb d_M_reduce_21 rfl (lv_at hl 1 rfl) ?_
    refine lv_iload_n hx hb d_M_reduce_22 rfl (lv_at hl 0 rfl) ?_
    refine lv_iload_n hx hb d_M_reduce_23 rfl (lv_at hl 2 rfl) ?_
    refine lv_iload_n hx hb d_M_reduce_24 rfl (lv_at hl 1 rfl) ?_
    refine lv_isub hx hb d_M_reduce_25 ?_
    refine lv_topi (fun v1 ev1 => ?_)
    obtain rfl : v1 = nI (d9 - a9) := ev1.trans (pk_sub (by omega))
    refine lv_iload_n hx hb d_M_reduce_26 rfl (lv_at hl 0 rfl) ?_
    refine lv_isub hx hb d_M_reduce_27 ?_
    refine lv_topi (fun v2 ev2 => ?_)
    obtain rfl : v2 = nI ((d9 - a9) - k) := ev2.trans (pk_sub (by omega))
    refine mp_calli hI (va_runS (As := [.int (nI a9), .int (nI k), .int (nI ((d9 - a9) - k))]) (rest := []) ⟨hx, hb, hml, hown, hg⟩ (c_M_cell l D g S _ a9 k (d9 - a9 - k)) ⟨(callB_of 3 hg (wd_goodG q_986) rfl rfl rfl (hg _ q_5) (hg _ q_984) (by decide +kernel) ⟨Nat.le_trans (Nat.le_of_ble_eq_true rfl) hRf, Nat.le_trans (Nat.le_of_ble_eq_true rfl) hRl⟩), hg _ q_985⟩ (mp_pre hI hK [.int (nI a9), .int (nI k), .int (nI ((d9 - a9) - k))]) rfl rfl hl.1 rfl (lv_room (Nat.le_of_ble_eq_true rfl)) d_M_reduce_28 ⟨by omega, by omega⟩) (fun r6 S3 H4 locs p_5 hI => ?_)
    obtain ⟨er6, eS7⟩ := p_5
    rw [eS7] at hI
    have er6 : r6 = nI (clN a9 k (d9 - a9 - k)) := er6
    subst er6
    refine lv_topi (fun v8 ev8 => ?_)
    obtain rfl : v8 = nI (cl3 (a9, k, d9 - a9 - k)) := ev8.trans (rfl)
    refine lv_istore (lv' := [(4, .int (nI (cl3 (a9, k, d9 - a9 - k)))), (3, .int (nI k)), (2, .int (nI a9)), (1, .int (nI d9)), (0, .ref o)]) hx hb d_M_reduce_31 hl (by decide) rfl (fun ls hl => ?_)
    refine lv_aload_n hx hb d_M_reduce_33 rfl (lv_at hl 4 rfl) ?_
    refine mp_get (C := R_M) (T := F_M) (N := 31) (v := .ref cu) hx hb hg i_M hown hK.va hI h_o rfl 11 (by decide) (hg _ q_815) (fun _ h9 => h9) rfl d_M_reduce_34 ?_
    refine lv_iload hx hb d_M_reduce_37 (lv_at hl 0 rfl) ?_
    refine mp_iald hx hb hK.va hI 0 h_cu rfl (vp_in_nI (show cl3 (a9, k, d9 - a9 - k) < 21952 by omega) (by omega)) d_M_reduce_39 ?_
    refine lv_topi (fun v9 ev9 => ?_)
    obtain rfl : v9 = nI (CU1 (cl3 (a9, k, d9 - a9 - k))).val := ev9.trans (by rw [nI_clamp (by omega)])
    refine lv_if_ne (tgt := 47) hx hb d_M_reduce_40 (by decide) (fun c1 => ?_) (fun c1 => ?_)
    · rw [zI_eq (by omega)] at c1
      refine lv_aload_n hx hb d_M_reduce_47 rfl (lv_at hl 4 rfl) ?_
      refine lv_iload_n hx hb d_M_reduce_48 rfl (lv_at hl 2 rfl) ?_
      refine lv_iload_n hx hb d_M_reduce_49 rfl (lv_at hl 1 rfl) ?_
      refine lv_iload_n hx hb d_M_reduce_50 rfl (lv_at hl 3 rfl) ?_
      refine lv_iload_n hx hb d_M_reduce_51 rfl (lv_at hl 2 rfl) ?_
      refine lv_isub hx hb d_M_reduce_52 ?_
      refine lv_topi (fun v10 ev10 => ?_)
      obtain rfl : v10 = nI (d9 - a9) := ev10.trans (pk_sub (by omega))
      refine lv_iload_n hx hb d_M_reduce_53 rfl (lv_at hl 1 rfl) ?_
      refine lv_isub hx hb d_M_reduce_54 ?_
      refine lv_topi (fun v11 ev11 => ?_)
      obtain rfl : v11 = nI ((d9 - a9) - k) := ev11.trans (pk_sub (by omega))
      refine mp_calli hI (va_runV (As := [.int (nI a9), .int (nI k), .int (nI ((d9 - a9) - k))]) (rest := []) ⟨hx, hb, hml, hown, hg⟩ (c_M_divider l D g S _ o hd n a9 k (d9 - a9 - k) mv0 mv1 mv2 mv3 mv4 (.ref te) (.ref tp) (.ref tn) (.ref hv9) (.ref cu) mv12 mv13 mv14 mv15 mv16 mv17 mv18 mv19 mv20 mv21 mv22 mv23 mv24 mv25 mv26 mv27 mv28 mv29 mv30 hf (fun i => (h i).1) (fun i => (h i).2.1) (fun i => (h i).2.2) h_o h_hd (lsM_h hM) hn12 (by omega) (by omega) (by omega)) ⟨(callB_of 3 hg (wd_goodG q_998) rfl rfl rfl (hg _ q_5) (hg _ q_995) (by decide +kernel) ⟨Nat.le_trans (Nat.le_of_ble_eq_true rfl) hRf, Nat.le_trans (Nat.le_of_ble_eq_true rfl) hRl⟩), hg _ q_997, hg _ qs_33⟩ (mp_preV (C := R_M) (T := F_M) hI hK h_o rfl [.int (nI a9), .int (nI k), .int (nI ((d9 - a9) - k))]) rfl rfl hl.1 rfl (lv_room (Nat.le_of_ble_eq_true rfl)) d_M_reduce_55 ⟨by omega, by omega⟩) (fun r15 S12 H13 locs p_14 hI => ?_)
      obtain ⟨er15, eS16⟩ := p_14
      rw [eS16] at hI
      rcases fd_fi (h := h) (u := (a9, k, d9 - a9 - k)) er15 with ⟨hlt, rfl⟩ | ⟨hlt, rfl⟩
      · have hdv := (fi_sp h (a9, k, d9 - a9 - k) n).1 hlt
        obtain ⟨f, ef⟩ : ∃ f, f = fi h (a9, k, d9 - a9 - k) n := ⟨_, rfl⟩
        rw [← ef] at hlt hdv
        rw [← ef]
        obtain ⟨t, et⟩ : ∃ t, t = sb3 (a9, k, d9 - a9 - k) (h f) := ⟨_, rfl⟩
        have htd : ad3 t (h f) = (a9, k, d9 - a9 - k) := by rw [et]; exact ad3_sb hdv
        obtain ⟨m1, m2, m3x, ⟨m4, m5, m6⟩, m7, m8, m9⟩ := hM.2.2 f hlt
        have h28 := lsM_28 hM hlt htd (by rw [hpl]; exact hq28)
        have hct : cl3 (h f) + cl3 t = (cl3 (a9, k, d9 - a9 - k)) := by rw [cl3_ad, htd]
        refine lv_istore (lv' := [(5, .int (nI f)), (4, .int (nI (cl3 (a9, k, d9 - a9 - k)))), (3, .int (nI k)), (2, .int (nI a9)), (1, .int (nI d9)), (0, .ref o)]) hx hb d_M_reduce_58 hl (by decide) rfl (fun ls hl => ?_)
        refine lv_iload hx hb d_M_reduce_60 (lv_at hl 0 rfl) ?_
        refine lv_iconst (v := (-1)) hx hb d_M_reduce_62 (by decide) ?_
        refine lv_icmp_eq (tgt := 102) hx hb d_M_reduce_63 (by decide) (fun h9 => absurd h9 (fun h9 => absurd h9 (nI_nm1 (by omega)))) (fun _ => ?_)
        refine lv_aload_n hx hb d_M_reduce_66 rfl (lv_at hl 5 rfl) ?_
        refine lv_iload hx hb d_M_reduce_67 (lv_at hl 0 rfl) ?_
        refine lv_aload_n hx hb d_M_reduce_69 rfl (lv_at hl 5 rfl) ?_
        refine mp_get (C := R_M) (T := F_M) (N := 31) (v := .ref cu) hx hb hg i_M hown hK.va hI h_o rfl 11 (by decide) (hg _ q_815) (fun _ h9 => h9) rfl d_M_reduce_70 ?_
        refine lv_iload hx hb d_M_reduce_73 (lv_at hl 1 rfl) ?_
        refine mp_iald hx hb hK.va hI 0 h_cu rfl (vp_in_nI (show cl3 (a9, k, d9 - a9 - k) < 21952 by omega) (by omega)) d_M_reduce_75 ?_
        refine lv_topi (fun v17 ev17 => ?_)
        obtain rfl : v17 = nI (CU1 (cl3 (a9, k, d9 - a9 - k))).val := ev17.trans (by rw [nI_clamp (by omega)])
        refine lv_aload_n hx hb d_M_reduce_76 rfl (lv_at hl 5 rfl) ?_
        refine mp_get (C := R_M) (T := F_M) (N := 31) (v := .ref hv9) hx hb hg i_M hown hK.va hI h_o rfl 10 (by decide) (hg _ q_814) (fun _ h9 => h9) rfl d_M_reduce_77 ?_
        refine lv_iload hx hb d_M_reduce_80 (lv_at hl 0 rfl) ?_
        refine mp_iald hx hb hK.va hI 0 h_hv9 rfl (vp_in_nI (show f < 12 by omega) (by omega)) d_M_reduce_82 ?_
        refine lv_topi (fun v18 ev18 => ?_)
        obtain rfl : v18 = nI (iv (ld f)).val := ev18.trans (by rw [nI_clamp (by omega)]; exact m7)
        refine mp_calli hI (va_runS (As := [.int (nI (CU1 (cl3 (a9, k, d9 - a9 - k))).val), .int (nI (iv (ld f)).val)]) (rest := [.int (nI f), .ref o]) ⟨hx, hb, hml, hown, hg⟩ (c_M_times l D g S _ (CU1 (cl3 (a9, k, d9 - a9 - k))).val (iv (ld f)).val (by omega) (by omega)) ⟨(callB_of 2 hg (wd_goodG q_927) rfl rfl rfl (hg _ q_5) (hg _ q_925) (by decide +kernel) ⟨Nat.le_trans (Nat.le_of_ble_eq_true rfl) hRf, Nat.le_trans (Nat.le_of_ble_eq_true rfl) hRl⟩), hg _ q_926⟩ (mp_pre hI hK [.int (nI (CU1 (cl3 (a9, k, d9 - a9 - k))).val), .int (nI (iv (ld f)).val)]) rfl rfl hl.1 rfl (lv_room (Nat.le_of_ble_eq_true rfl)) d_M_reduce_83 ⟨by omega, by omega⟩) (fun r22 S19 H20 locs p_21 hI => ?_)
        obtain ⟨er22, eS23⟩ := p_21
        rw [eS23] at hI
        have er22 : r22 = nI ((CU1 (cl3 (a9, k, d9 - a9 - k))).val * (iv (ld f)).val % 32003) := er22
        subst er22
        refine lv_topi (fun v24 ev24 => ?_)
        obtain rfl : v24 = nI ((CU1 (cl3 (a9, k, d9 - a9 - k))) * (iv (ld f))).val := ev24.trans (congrArg nI (fv_mul _ _))
        refine lv_iload hx hb d_M_reduce_86 (lv_at hl 1 rfl) ?_
        refine lv_aload_n hx hb d_M_reduce_88 rfl (lv_at hl 5 rfl) ?_
        refine mp_get (C := R_M) (T := F_M) (N := 31) (v := .ref hd) hx hb hg i_M hown hK.va hI h_o rfl 9 (by decide) (hg _ q_813) (fun _ h9 => h9) rfl d_M_reduce_89 ?_
        refine lv_iload hx hb d_M_reduce_92 (lv_at hl 0 rfl) ?_
        refine mp_iald hx hb hK.va hI 0 h_hd rfl (vp_in_nI (show f < 12 by omega) (by omega)) d_M_reduce_94 ?_
        refine lv_topi (fun v25 ev25 => ?_)
        obtain rfl : v25 = nI (pN (h f).1 (h f).2.1 (h f).2.2) := ev25.trans (by rw [nI_clamp (by omega)]; exact m3x)
        refine mp_calli hI (va_runS (As := [.int (nI (pN (h f).1 (h f).2.1 (h f).2.2))]) (rest := [.int (nI (cl3 (a9, k, d9 - a9 - k))), .int (nI ((CU1 (cl3 (a9, k, d9 - a9 - k))) * (iv (ld f))).val), .int (nI f), .ref o]) ⟨hx, hb, hml, hown, hg⟩ (c_M_cellOf l D g S _ (pN (h f).1 (h f).2.1 (h f).2.2) (pN_lt m4 m5 m6)) ⟨(callB_of 1 hg (wd_goodG q_983) rfl rfl rfl (hg _ q_5) (hg _ q_981) (by decide +kernel) ⟨Nat.le_trans (Nat.le_of_ble_eq_true rfl) hRf, Nat.le_trans (Nat.le_of_ble_eq_true rfl) hRl⟩), hg _ q_982⟩ (mp_pre hI hK [.int (nI (pN (h f).1 (h f).2.1 (h f).2.2))]) rfl rfl hl.1 rfl (lv_room (Nat.le_of_ble_eq_true rfl)) d_M_reduce_95 ⟨by omega, by omega⟩) (fun r29 S26 H27 locs p_28 hI => ?_)
        obtain ⟨er29, eS30⟩ := p_28
        rw [eS30] at hI
        have er29 : r29 = nI (clN (eN (pN (h f).1 (h f).2.1 (h f).2.2) 0) (eN (pN (h f).1 (h f).2.1 (h f).2.2) 1) (eN (pN (h f).1 (h f).2.1 (h f).2.2) 2)) := er29
        subst er29
        refine lv_topi (fun v31 ev31 => ?_)
        obtain rfl : v31 = nI (cl3 (h f)) := ev31.trans (by rw [pN_0 m4 m5 m6, pN_1 m4 m5 m6, pN_2 m4 m5 m6]; rfl)
        refine lv_isub hx hb d_M_reduce_98 ?_
        refine lv_topi (fun v32 ev32 => ?_)
        obtain rfl : v32 = nI ((cl3 (a9, k, d9 - a9 - k)) - (cl3 (h f))) := ev32.trans (pk_sub (by omega))
        refine lv_topi (fun v33 ev33 => ?_)
        obtain rfl : v33 = nI (cl3 t) := ev33.trans (by rw [show (cl3 (a9, k, d9 - a9 - k)) - cl3 (h f) = cl3 t by omega])
        refine mp_callv hI (va_runV (As := [.int (nI f), .int (nI ((CU1 (cl3 (a9, k, d9 - a9 - k))) * (iv (ld f))).val), .int (nI (cl3 t))]) (rest := []) ⟨hx, hb, hml, hown, hg⟩ (c_M_takeOff l D g S _ o cu te tp tn f (z2 f) mv0 mv1 mv2 mv3 mv4 (.int (nI n)) (.ref hd) (.ref hv9) mv12 mv13 mv14 mv15 mv16 mv17 mv18 mv19 mv20 mv21 mv22 mv23 mv24 mv25 mv26 mv27 mv28 mv29 mv30 tf tpf tnf (mo2 f) (co2 f) t (CU1 (cl3 (a9, k, d9 - a9 - k)) * iv (ld f)) CU1 h_o h_cu h_te h_tp h_tn (by omega) m2 m1 (fun k9 hk9 => ⟨(m8 k9 hk9).1, (m8 k9 hk9).2.1, (m8 k9 hk9).2.2.1, (h28 k9 hk9).2⟩) (by omega)) ⟨(callB_of 3 hg (wd_goodG q_990) rfl rfl rfl (hg _ q_5) (hg _ q_987) (by decide +kernel) ⟨Nat.le_trans (Nat.le_of_ble_eq_true rfl) hRf, Nat.le_trans (Nat.le_of_ble_eq_true rfl) hRl⟩), hg _ q_989, hg _ qs_31⟩ (mp_preV (C := R_M) (T := F_M) hI hK h_o rfl [.int (nI f), .int (nI ((CU1 (cl3 (a9, k, d9 - a9 - k))) * (iv (ld f))).val), .int (nI (cl3 t))]) rfl rfl hl.1 rfl (lv_room (Nat.le_of_ble_eq_true rfl)) d_M_reduce_99 ⟨by omega, by omega⟩) (fun S34 H35 locs p_36 hI => ?_)
        obtain ⟨q_cu, fq⟩ := p_36
        have h_o : S34 o = some (2000, .inr (10, [mv0, mv1, mv2, mv3, mv4, .int (nI n), .ref te, .ref tp, .ref tn, .ref hd, .ref hv9, .ref cu, mv12, mv13, mv14, mv15, mv16, mv17, mv18, mv19, mv20, mv21, mv22, mv23, mv24, mv25, mv26, mv27, mv28, mv29, mv30])) := fq o _ _ h_o (by omega)
        have h_te : S34 te = some (2002, .inl ((g 0), 12, .inl tf)) := fq te _ _ h_te (by omega)
        have h_tp : S34 tp = some (2003, .inl ((g 0), 12000, .inl tpf)) := fq tp _ _ h_tp (by omega)
        have h_tn : S34 tn = some (2004, .inl ((g 0), 12000, .inl tnf)) := fq tn _ _ h_tn (by omega)
        have h_hd : S34 hd = some (2005, .inl ((g 0), 12, .inl hf)) := fq hd _ _ h_hd (by omega)
        have h_hv9 : S34 hv9 = some (2006, .inl ((g 0), 12, .inl hif)) := fq hv9 _ _ h_hv9 (by omega)
        have hfr : ∀ b t e9, B b = some (t, e9) → (t ≠ 2007) → S34 b = some (t, e9) := fun b t e9 h9 k0 => by have h8 := hfr b t e9 h9 k0; exact fq b _ _ h8 (by omega)
        have h_cu := q_cu
        refine lv_iinc (v := (nI k + (-1))) (lv' := [(3, .int (nI k + (-1))), (5, .int (nI f)), (4, .int (nI (cl3 (a9, k, d9 - a9 - k)))), (2, .int (nI a9)), (1, .int (nI d9)), (0, .ref o)]) hx hb d_M_reduce_102 hl (k := 2) rfl (rfl) (by decide) rfl (fun ls hl => ?_)
        refine lv_goto (tgt := 17) hx hb d_M_reduce_105 (by decide) ?_
        exact ih (cuF (mo2 f) (co2 f) t (CU1 (cl3 (a9, k, d9 - a9 - k)) * iv (ld f)) CU1 (z2 f)) S34 H35 locs ls (by omega) (fun q hq => by rw [← hrd q hq, show plN a9 0 (d9 - a9) + (k + 1) = (plN a9 0 (d9 - a9) + k) + 1 from rfl, rd_go (by rw [hEp]; exact ef) hlt, hEp, ← et, hat]; exact rd_R _ (Nat.le_of_lt hq28) (fun q9 hq9 => cu_aR hM hlt (fun k9 hk9 => (h28 k9 hk9).2) hq9) q hq) (fun j hj => by rw [cu_out (fun k9 hk9 => (h28 k9 hk9).1) hj]; exact hout j hj) h_o h_cu h_te h_tp h_tn h_hd h_hv9 hfr hI (lv_sub hl [0, 3, 4, 5] rfl) kx
      · refine lv_istore (lv' := [(5, .int (-1)), (4, .int (nI (cl3 (a9, k, d9 - a9 - k)))), (3, .int (nI k)), (2, .int (nI a9)), (1, .int (nI d9)), (0, .ref o)]) hx hb d_M_reduce_58 hl (by decide) rfl (fun ls hl => ?_)
        refine lv_iload hx hb d_M_reduce_60 (lv_at hl 0 rfl) ?_
        refine lv_iconst (v := (-1)) hx hb d_M_reduce_62 (by decide) ?_
        refine lv_icmp_eq (tgt := 102) hx hb d_M_reduce_63 (by decide) (fun _ => ?_) (fun h9 => absurd (rfl) h9)
        refine lv_iinc (v := (nI k + (-1))) (lv' := [(3, .int (nI k + (-1))), (5, .int (-1)), (4, .int (nI (cl3 (a9, k, d9 - a9 - k)))), (2, .int (nI a9)), (1, .int (nI d9)), (0, .ref o)]) hx hb d_M_reduce_102 hl (k := 2) rfl (rfl) (by decide) rfl (fun ls hl => ?_)
        refine lv_goto (tgt := 17) hx hb d_M_reduce_105 (by decide) ?_
        exact ih CU1 S H13 locs ls (by omega) (fun q hq => by rw [← hrd q hq, show plN a9 0 (d9 - a9) + (k + 1) = (plN a9 0 (d9 - a9) + k) + 1 from rfl, rd_stay (by rw [hEp]; exact hlt)]) hout h_o h_cu h_te h_tp h_tn h_hd h_hv9 hfr hI (lv_sub hl [0, 3, 4, 5] rfl) kx
    · rw [zI_eq (by omega)] at c1
      refine lv_iconst (v := (-1)) hx hb d_M_reduce_43 (by decide) ?_
      refine lv_goto (tgt := 58) hx hb d_M_reduce_44 (by decide) ?_
      refine lv_istore (lv' := [(5, .int (-1)), (4, .int (nI (cl3 (a9, k, d9 - a9 - k)))), (3, .int (nI k)), (2, .int (nI a9)), (1, .int (nI d9)), (0, .ref o)]) hx hb d_M_reduce_58 hl (by decide) rfl (fun ls hl => ?_)
      refine lv_iload hx hb d_M_reduce_60 (lv_at hl 0 rfl) ?_
      refine lv_iconst (v := (-1)) hx hb d_M_reduce_62 (by decide) ?_
      refine lv_icmp_eq (tgt := 102) hx hb d_M_reduce_63 (by decide) (fun _ => ?_) (fun h9 => absurd (by decide) h9)
      refine lv_iinc (v := (nI k + (-1))) (lv' := [(3, .int (nI k + (-1))), (5, .int (-1)), (4, .int (nI (cl3 (a9, k, d9 - a9 - k)))), (2, .int (nI a9)), (1, .int (nI d9)), (0, .ref o)]) hx hb d_M_reduce_102 hl (k := 2) rfl (rfl) (by decide) rfl (fun ls hl => ?_)
      refine lv_goto (tgt := 17) hx hb d_M_reduce_105 (by decide) ?_
      exact ih CU1 S H4 locs ls (by omega) (fun q hq => by rw [← hrd q hq, show plN a9 0 (d9 - a9) + (k + 1) = (plN a9 0 (d9 - a9) + k) + 1 from rfl, rd_zero (by rw [hat]; exact c1)]) hout h_o h_cu h_te h_tp h_tn h_hd h_hv9 hfr hI (lv_sub hl [0, 3, 4, 5] rfl) kx
set_option maxHeartbeats 4000000 in
set_option maxRecDepth 100000 in
theorem lp_M_red2 {p : Program} {l : Launch} {e : Env} {R : Room} {s : State} {m : MethodId} {args : Array Value} {below : List Frame} {meth : Method} {c : Code} {Q : State → Prop} {D : mp_G} {g : Nat → ClassId} {A : Nat → Prop} {cells slots : Nat} (hx : p.tables.exec = Jvm.exec) (hb : c.code = b_M_reduce) (hml : c.maxLocals = 6) (hg : ∀ w ∈ gw, w.before args s = true) (hown : s.vm.findClass R_M = some m.cls) (hK : mp_K D classes (tys g) s) (hRf : 3 ≤ R.frames) (hRl : 67 ≤ R.locals) (hRc : cells ≤ R.cells) (hRs : slots ≤ R.slots) {B : mp_M} {o cu te tp tn hd hv9 n : Nat} {mv0 mv1 mv2 mv3 mv4 mv12 mv13 mv14 mv15 mv16 mv17 mv18 mv19 mv20 mv21 mv22 mv23 mv24 mv25 mv26 mv27 mv28 mv29 mv30 : Value} {tf tpf tnf hf hif : Nat → Int32} {h : Nat → m3} {z : Nat → Nat} {mo : Nat → Nat → m3} {co : Nat → Nat → fF} {z2 : Nat → Nat} {mo2 : Nat → Nat → m3} {co2 : Nat → Nat → fF} {ld : Nat → fF} {d9 : Nat} {CU : Nat → fF} (hM : lsM n h z mo co z2 mo2 co2 ld tf tpf tnf hf hif) (hd9 : d9 < 28) : ∀ (k : Nat) (CU1 : Nat → fF) (S : mp_M) (H : Heap) (locs : List Loc) (ls : Array Slot), k ≤ d9 + 1 → (∀ q, q < tr3 28 → rd n h z mo co (mR d9 k) (rwC CU1) q = rd n h z mo co (tr3 28) (rwC CU) q) → (∀ j, (∀ q, q < tr3 28 → j ≠ cl3 (Ep q)) → CU1 j = CU j) → S o = some (2000, .inr (10, [mv0, mv1, mv2, mv3, mv4, .int (nI n), .ref te, .ref tp, .ref tn, .ref hd, .ref hv9, .ref cu, mv12, mv13, mv14, mv15, mv16, mv17, mv18, mv19, mv20, mv21, mv22, mv23, mv24, mv25, mv26, mv27, mv28, mv29, mv30])) → S cu = some (2007, .inl ((g 0), 21952, .inl (fun j => nI (CU1 j).val))) → S te = some (2002, .inl ((g 0), 12, .inl tf)) → S tp = some (2003, .inl ((g 0), 12000, .inl tpf)) → S tn = some (2004, .inl ((g 0), 12000, .inl tnf)) → S hd = some (2005, .inl ((g 0), 12, .inl hf)) → S hv9 = some (2006, .inl ((g 0), 12, .inl hif)) → (∀ b t e9, B b = some (t, e9) → (t ≠ 2007) → S b = some (t, e9)) → mp_I D classes A s.heap S H locs → lv_has ls 6 [(2, .int (nI k + -1)), (1, .int (nI d9)), (0, .ref o)] → (∀ (CU1 : Nat → fF) (S : mp_M) (H : Heap) (locs : List Loc) (ls : Array Slot), (∀ q, q < tr3 28 → rd n h z mo co (mR d9 0) (rwC CU1) q = rd n h z mo co (tr3 28) (rwC CU) q) → (∀ j, (∀ q, q < tr3 28 → j ≠ cl3 (Ep q)) → CU1 j = CU j) → S o = some (2000, .inr (10, [mv0, mv1, mv2, mv3, mv4, .int (nI n), .ref te, .ref tp, .ref tn, .ref hd, .ref hv9, .ref cu, mv12, mv13, mv14, mv15, mv16, mv17, mv18, mv19, mv20, mv21, mv22, mv23, mv24, mv25, mv26, mv27, mv28, mv29, mv30])) → S cu = some (2007, .inl ((g 0), 21952, .inl (fun j => nI (CU1 j).val))) → S te = some (2002, .inl ((g 0), 12, .inl tf)) → S tp = some (2003, .inl ((g 0), 12000, .inl tpf)) → S tn = some (2004, .inl ((g 0), 12000, .inl tnf)) → S hd = some (2005, .inl ((g 0), 12, .inl hf)) → S hv9 = some (2006, .inl ((g 0), 12, .inl hif)) → (∀ b t e9, B b = some (t, e9) → (t ≠ 2007) → S b = some (t, e9)) → mp_I D classes A s.heap S H locs → lv_has ls 6 [(2, .int (nI 0 + -1)), (1, .int (nI d9)), (0, .ref o)] → W p l e R s m args below meth c H locs cells slots Q (F0 m 114 ls [])) → W p l e R s m args below meth c H locs cells slots Q (F0 m 9 ls []) := by
  intro k
  induction k with
  | zero =>
    intro CU1 S H locs ls hi hrd hout h_o h_cu h_te h_tp h_tn h_hd h_hv9 hfr hI hl kx
    refine lv_iload_n hx hb d_M_reduce_9 rfl (lv_at hl 0 rfl) ?_
    refine lv_if_lt (tgt := 114) hx hb d_M_reduce_10 (by decide) (fun _ => ?_) (fun h9 => absurd (by decide) h9)
    exact kx CU1 S H locs ls hrd hout h_o h_cu h_te h_tp h_tn h_hd h_hv9 hfr hI (lv_sub hl [0, 1, 2] rfl)
  | succ k ih =>
    intro CU1 S H locs ls hi hrd hout h_o h_cu h_te h_tp h_tn h_hd h_hv9 hfr hI hl kx
    rw [nI_dec] at hl
    refine lv_iload_n hx hb d_M_reduce_9 rfl (lv_at hl 0 rfl) ?_
    refine lv_if_lt (tgt := 114) hx hb d_M_reduce_10 (by decide) (fun h9 => absurd h9 (nI_pos (by omega))) (fun _ => ?_)
    refine lv_iload_n hx hb d_M_reduce_13 rfl (lv_at hl 1 rfl) ?_
    refine lv_iload_n hx hb d_M_reduce_14 rfl (lv_at hl 0 rfl) ?_
    refine lv_isub hx hb d_M_reduce_15 ?_
    refine lv_topi (fun v1 ev1 => ?_)
    obtain rfl : v1 = nI (d9 - k) := ev1.trans (pk_sub (by omega))
    refine lv_topi (fun v2 ev2 => ?_)
    obtain rfl : v2 = (nI (d9 - k + 1) + -1) := ev2.trans ((nI_dec _).symm)
    refine lv_istore_n (lv' := [(3, .int (nI (d9 - k + 1) + -1)), (2, .int (nI k)), (1, .int (nI d9)), (0, .ref o)]) hx hb d_M_reduce_16 rfl hl (by decide) rfl (fun ls hl => ?_)
    refine lp_M_red3 (B := B) (o := o) (cu := cu) (te := te) (tp := tp) (tn := tn) (hd := hd) (hv9 := hv9) (n := n) (mv0 := mv0) (mv1 := mv1) (mv2 := mv2) (mv3 := mv3) (mv4 := mv4) (mv12 := mv12) (mv13 := mv13) (mv14 := mv14) (mv15 := mv15) (mv16 := mv16) (mv17 := mv17) (mv18 := mv18) (mv19 := mv19) (mv20 := mv20) (mv21 := mv21) (mv22 := mv22) (mv23 := mv23) (mv24 := mv24) (mv25 := mv25) (mv26 := mv26) (mv27 := mv27) (mv28 := mv28) (mv29 := mv29) (mv30 := mv30) (tf := tf) (tpf := tpf) (tnf := tnf) (hf := hf) (hif := hif) (h := h) (z := z) (mo := mo) (co := co) (z2 := z2) (mo2 := mo2) (co2 := co2) (ld := ld) (a9 := k) (d9 := d9) (CU := CU) hx hb hml hg hown hK (Nat.le_trans (Nat.le_of_ble_eq_true rfl) hRf) (Nat.le_trans (Nat.le_of_ble_eq_true rfl) hRl) (by omega) (by omega) hM hd9 (by omega) (d9 - k + 1) CU1 S H _ ls (by omega) (fun q hq => by rw [← hrd q hq, mR_s (show k ≤ d9 by omega)]) hout h_o h_cu h_te h_tp h_tn h_hd h_hv9 hfr hI (lv_sub hl [0, 1, 2, 3] rfl) (fun CU2 S3 H4 locs ls hrd2 hout2 j_o j_cu j_te j_tp j_tn j_hd j_hv9 hfr hI hl => ?_)
    refine lv_iinc (v := (nI k + (-1))) (lv' := [(2, .int (nI k + (-1))), (3, .int (nI 0 + -1)), (1, .int (nI d9)), (0, .ref o)]) hx hb d_M_reduce_108 hl (k := 1) rfl (rfl) (by decide) rfl (fun ls hl => ?_)
    refine lv_goto (tgt := 9) hx hb d_M_reduce_111 (by decide) ?_
    exact ih CU2 S3 H4 locs ls (by omega) (fun q hq => by rw [← hrd2 q hq]; unfold mR; rw [if_pos (show k ≤ d9 by omega)]; rfl) hout2 j_o j_cu j_te j_tp j_tn j_hd j_hv9 hfr hI (lv_sub hl [0, 2, 3] rfl) kx
set_option maxHeartbeats 4000000 in
set_option maxRecDepth 100000 in
theorem lp_M_red1 {p : Program} {l : Launch} {e : Env} {R : Room} {s : State} {m : MethodId} {args : Array Value} {below : List Frame} {meth : Method} {c : Code} {Q : State → Prop} {D : mp_G} {g : Nat → ClassId} {A : Nat → Prop} {cells slots : Nat} (hx : p.tables.exec = Jvm.exec) (hb : c.code = b_M_reduce) (hml : c.maxLocals = 6) (hg : ∀ w ∈ gw, w.before args s = true) (hown : s.vm.findClass R_M = some m.cls) (hK : mp_K D classes (tys g) s) (hRf : 3 ≤ R.frames) (hRl : 67 ≤ R.locals) (hRc : cells ≤ R.cells) (hRs : slots ≤ R.slots) {B : mp_M} {o cu te tp tn hd hv9 n : Nat} {mv0 mv1 mv2 mv3 mv4 mv12 mv13 mv14 mv15 mv16 mv17 mv18 mv19 mv20 mv21 mv22 mv23 mv24 mv25 mv26 mv27 mv28 mv29 mv30 : Value} {tf tpf tnf hf hif : Nat → Int32} {h : Nat → m3} {z : Nat → Nat} {mo : Nat → Nat → m3} {co : Nat → Nat → fF} {z2 : Nat → Nat} {mo2 : Nat → Nat → m3} {co2 : Nat → Nat → fF} {ld : Nat → fF} {CU : Nat → fF} (hM : lsM n h z mo co z2 mo2 co2 ld tf tpf tnf hf hif) : ∀ (k : Nat) (CU1 : Nat → fF) (S : mp_M) (H : Heap) (locs : List Loc) (ls : Array Slot), k ≤ 28 → (∀ q, q < tr3 28 → rd n h z mo co (tr3 k) (rwC CU1) q = rd n h z mo co (tr3 28) (rwC CU) q) → (∀ j, (∀ q, q < tr3 28 → j ≠ cl3 (Ep q)) → CU1 j = CU j) → S o = some (2000, .inr (10, [mv0, mv1, mv2, mv3, mv4, .int (nI n), .ref te, .ref tp, .ref tn, .ref hd, .ref hv9, .ref cu, mv12, mv13, mv14, mv15, mv16, mv17, mv18, mv19, mv20, mv21, mv22, mv23, mv24, mv25, mv26, mv27, mv28, mv29, mv30])) → S cu = some (2007, .inl ((g 0), 21952, .inl (fun j => nI (CU1 j).val))) → S te = some (2002, .inl ((g 0), 12, .inl tf)) → S tp = some (2003, .inl ((g 0), 12000, .inl tpf)) → S tn = some (2004, .inl ((g 0), 12000, .inl tnf)) → S hd = some (2005, .inl ((g 0), 12, .inl hf)) → S hv9 = some (2006, .inl ((g 0), 12, .inl hif)) → (∀ b t e9, B b = some (t, e9) → (t ≠ 2007) → S b = some (t, e9)) → mp_I D classes A s.heap S H locs → lv_has ls 6 [(1, .int (nI k + -1)), (0, .ref o)] → (∀ (CU1 : Nat → fF) (S : mp_M) (H : Heap) (locs : List Loc) (ls : Array Slot), (∀ q, q < tr3 28 → rd n h z mo co (tr3 0) (rwC CU1) q = rd n h z mo co (tr3 28) (rwC CU) q) → (∀ j, (∀ q, q < tr3 28 → j ≠ cl3 (Ep q)) → CU1 j = CU j) → S o = some (2000, .inr (10, [mv0, mv1, mv2, mv3, mv4, .int (nI n), .ref te, .ref tp, .ref tn, .ref hd, .ref hv9, .ref cu, mv12, mv13, mv14, mv15, mv16, mv17, mv18, mv19, mv20, mv21, mv22, mv23, mv24, mv25, mv26, mv27, mv28, mv29, mv30])) → S cu = some (2007, .inl ((g 0), 21952, .inl (fun j => nI (CU1 j).val))) → S te = some (2002, .inl ((g 0), 12, .inl tf)) → S tp = some (2003, .inl ((g 0), 12000, .inl tpf)) → S tn = some (2004, .inl ((g 0), 12000, .inl tnf)) → S hd = some (2005, .inl ((g 0), 12, .inl hf)) → S hv9 = some (2006, .inl ((g 0), 12, .inl hif)) → (∀ b t e9, B b = some (t, e9) → (t ≠ 2007) → S b = some (t, e9)) → mp_I D classes A s.heap S H locs → lv_has ls 6 [(1, .int (nI 0 + -1)), (0, .ref o)] → W p l e R s m args below meth c H locs cells slots Q (F0 m 120 ls [])) → W p l e R s m args below meth c H locs cells slots Q (F0 m 3 ls []) := by
  intro k
  induction k with
  | zero =>
    intro CU1 S H locs ls hi hrd hout h_o h_cu h_te h_tp h_tn h_hd h_hv9 hfr hI hl kx
    refine lv_iload_n hx hb d_M_reduce_3 rfl (lv_at hl 0 rfl) ?_
    refine lv_if_lt (tgt := 120) hx hb d_M_reduce_4 (by decide) (fun _ => ?_) (fun h9 => absurd (by decide) h9)
    exact kx CU1 S H locs ls hrd hout h_o h_cu h_te h_tp h_tn h_hd h_hv9 hfr hI (lv_sub hl [0, 1] rfl)
  | succ k ih =>
    intro CU1 S H locs ls hi hrd hout h_o h_cu h_te h_tp h_tn h_hd h_hv9 hfr hI hl kx
    rw [nI_dec] at hl
    refine lv_iload_n hx hb d_M_reduce_3 rfl (lv_at hl 0 rfl) ?_
    refine lv_if_lt (tgt := 120) hx hb d_M_reduce_4 (by decide) (fun h9 => absurd h9 (nI_pos (by omega))) (fun _ => ?_)
    refine lv_iload_n hx hb d_M_reduce_7 rfl (lv_at hl 0 rfl) ?_
    refine lv_topi (fun v1 ev1 => ?_)
    obtain rfl : v1 = (nI (k + 1) + -1) := ev1.trans ((nI_dec _).symm)
    refine lv_istore_n (lv' := [(2, .int (nI (k + 1) + -1)), (1, .int (nI k)), (0, .ref o)]) hx hb d_M_reduce_8 rfl hl (by decide) rfl (fun ls hl => ?_)
    refine lp_M_red2 (B := B) (o := o) (cu := cu) (te := te) (tp := tp) (tn := tn) (hd := hd) (hv9 := hv9) (n := n) (mv0 := mv0) (mv1 := mv1) (mv2 := mv2) (mv3 := mv3) (mv4 := mv4) (mv12 := mv12) (mv13 := mv13) (mv14 := mv14) (mv15 := mv15) (mv16 := mv16) (mv17 := mv17) (mv18 := mv18) (mv19 := mv19) (mv20 := mv20) (mv21 := mv21) (mv22 := mv22) (mv23 := mv23) (mv24 := mv24) (mv25 := mv25) (mv26 := mv26) (mv27 := mv27) (mv28 := mv28) (mv29 := mv29) (mv30 := mv30) (tf := tf) (tpf := tpf) (tnf := tnf) (hf := hf) (hif := hif) (h := h) (z := z) (mo := mo) (co := co) (z2 := z2) (mo2 := mo2) (co2 := co2) (ld := ld) (d9 := k) (CU := CU) hx hb hml hg hown hK (Nat.le_trans (Nat.le_of_ble_eq_true rfl) hRf) (Nat.le_trans (Nat.le_of_ble_eq_true rfl) hRl) (by omega) (by omega) hM (by omega) (k + 1) CU1 S H _ ls (Nat.le_refl _) (fun q hq => by rw [← hrd q hq, mR_d]) hout h_o h_cu h_te h_tp h_tn h_hd h_hv9 hfr hI (lv_sub hl [0, 1, 2] rfl) (fun CU2 S2 H3 locs ls hrd2 hout2 j_o j_cu j_te j_tp j_tn j_hd j_hv9 hfr hI hl => ?_)
    refine lv_iinc (v := (nI k + (-1))) (lv' := [(1, .int (nI k + (-1))), (2, .int (nI 0 + -1)), (0, .ref o)]) hx hb d_M_reduce_114 hl (k := 1) rfl (rfl) (by decide) rfl (fun ls hl => ?_)
    refine lv_goto (tgt := 3) hx hb d_M_reduce_117 (by decide) ?_
    exact ih CU2 S2 H3 locs ls (by omega) (fun q hq => by rw [← hrd2 q hq, mR_0]) hout2 j_o j_cu j_te j_tp j_tn j_hd j_hv9 hfr hI (lv_sub hl [0, 2] rfl) kx
set_option maxHeartbeats 4000000 in
set_option maxRecDepth 100000 in
/-- the cube is reduced -/
theorem c_M_reduce (l : Launch) (D : mp_G) (g : Nat → ClassId) (S : mp_M) (sz : Nat) (o cu te tp tn hd hv9 n : Nat) (mv0 mv1 mv2 mv3 mv4 mv12 mv13 mv14 mv15 mv16 mv17 mv18 mv19 mv20 mv21 mv22 mv23 mv24 mv25 mv26 mv27 mv28 mv29 mv30 : Value) (tf tpf tnf hf hif : Nat → Int32) (h : Nat → m3) (z : Nat → Nat) (mo : Nat → Nat → m3) (co : Nat → Nat → fF) (z2 : Nat → Nat) (mo2 : Nat → Nat → m3) (co2 : Nat → Nat → fF) (ld : Nat → fF) (CU : Nat → fF) (h_o : S o = some (2000, .inr (10, [mv0, mv1, mv2, mv3, mv4, .int (nI n), .ref te, .ref tp, .ref tn, .ref hd, .ref hv9, .ref cu, mv12, mv13, mv14, mv15, mv16, mv17, mv18, mv19, mv20, mv21, mv22, mv23, mv24, mv25, mv26, mv27, mv28, mv29, mv30]))) (h_cu : S cu = some (2007, .inl ((g 0), 21952, .inl (fun j => nI (CU j).val)))) (h_te : S te = some (2002, .inl ((g 0), 12, .inl tf))) (h_tp : S tp = some (2003, .inl ((g 0), 12000, .inl tpf))) (h_tn : S tn = some (2004, .inl ((g 0), 12000, .inl tnf))) (h_hd : S hd = some (2005, .inl ((g 0), 12, .inl hf))) (h_hv9 : S hv9 = some (2006, .inl ((g 0), 12, .inl hif))) (hM : lsM n h z mo co z2 mo2 co2 ld tf tpf tnf hf hif) : Met l y_M_reduce w_M_reduce ({ frames := 3, cells := 0, slots := 0, locals := 67 }) (va_Pc [.ref o] (mp_B0 D classes (tys g) S sz)) (va_Qv (fun (S1 : mp_M) => ∃ CU1 : Nat → fF, S1 cu = some (2007, .inl ((g 0), 21952, .inl (fun j => nI (CU1 j).val))) ∧ (∀ q, q < tr3 28 → rwC CU1 q = rd n h z mo co (tr3 28) (rwC CU) q) ∧ (∀ j, (∀ q, q < tr3 28 → j ≠ cl3 (Ep q)) → CU1 j = CU j) ∧ (∀ b t e9, S b = some (t, e9) → (t ≠ 2007) → S1 b = some (t, e9))) (mp_B1 D classes S sz) (mp_A S sz)) 0 0 (mp_A S sz) := by
  refine Met.ofW (cc := b_M_reduce) (maxL := 6) (ret := none) (by decide) rfl ?_
  intro p e s m args below meth c s₁ B hml hv
  obtain ⟨rfl, hsz, hH, hK⟩ := hv
  have hx := B.exec
  have hb := B.bytes
  have hr := B.returns
  have hts := atoms_spec (ws := w_M_reduce) B.pre
  have hg : ∀ w ∈ gw, w.before _ s = true := fun w h => hts w (List.mem_cons_of_mem _ h)
  have hown : s.vm.findClass R_M = some m.cls := findClass_of_methodNamed B.named
  have hlocks := B.notSynchronized
  subst hsz
  have hI := mp_I.start hH
  have hl := lv_entry ([.ref o]) (n := 6) (Nat.le_of_ble_eq_true rfl)
  rw [lg_entry_eq]
  generalize (lg_sl ([.ref o]) ++ List.replicate (6 - (lg_sl ([.ref o])).length) Slot.unset).toArray = ls at hl ⊢
  have hl : lv_has ls 6 [(0, .ref o)] := hl
  have hfr : ∀ b t e9, S b = some (t, e9) → (t ≠ 2007) → S b = some (t, e9) := fun _ _ _ h9 _ => h9
  refine lv_bipush (v := nI 27) hx hb d_M_reduce_0 (by decide) ?_
  refine lv_topi (fun v1 ev1 => ?_)
  obtain rfl : v1 = (nI 28 + -1) := ev1.trans (by decide)
  refine lv_istore_n (lv' := [(1, .int (nI 28 + -1)), (0, .ref o)]) hx hb d_M_reduce_2 rfl hl (by decide) rfl (fun ls hl => ?_)
  refine lp_M_red1 (B := S) (o := o) (cu := cu) (te := te) (tp := tp) (tn := tn) (hd := hd) (hv9 := hv9) (n := n) (mv0 := mv0) (mv1 := mv1) (mv2 := mv2) (mv3 := mv3) (mv4 := mv4) (mv12 := mv12) (mv13 := mv13) (mv14 := mv14) (mv15 := mv15) (mv16 := mv16) (mv17 := mv17) (mv18 := mv18) (mv19 := mv19) (mv20 := mv20) (mv21 := mv21) (mv22 := mv22) (mv23 := mv23) (mv24 := mv24) (mv25 := mv25) (mv26 := mv26) (mv27 := mv27) (mv28 := mv28) (mv29 := mv29) (mv30 := mv30) (tf := tf) (tpf := tpf) (tnf := tnf) (hf := hf) (hif := hif) (h := h) (z := z) (mo := mo) (co := co) (z2 := z2) (mo2 := mo2) (co2 := co2) (ld := ld) (CU := CU) hx hb hml hg hown hK (Nat.le_of_ble_eq_true rfl) (Nat.le_of_ble_eq_true rfl) (Nat.le_of_ble_eq_true rfl) (Nat.le_of_ble_eq_true rfl) hM 28 CU S s.heap _ ls (Nat.le_refl _) (fun _ _ => rfl) (fun _ _ => rfl) h_o h_cu h_te h_tp h_tn h_hd h_hv9 hfr hI (lv_sub hl [0, 1] rfl) (fun CU1 S2 H3 locs ls hrd hout j_o j_cu j_te j_tp j_tn j_hd j_hv9 hfr hI hl => ?_)
  refine mp_vret hx hb hr hlocks hI (Nat.le_of_ble_eq_true rfl) (Nat.le_of_ble_eq_true rfl) ?_ d_M_reduce_120
  exact ⟨CU1, j_cu, fun q hq => hrd q hq, hout, hfr⟩
