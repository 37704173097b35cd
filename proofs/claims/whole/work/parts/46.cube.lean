def cl3 (u : m3) : Nat := clN u.1 u.2.1 u.2.2
theorem cl3_ad (t u : m3) : cl3 u + cl3 t = cl3 (ad3 t u) := by unfold cl3 clN; simp only [ad3]; omega
theorem cl3_lt {u : m3} (h : u.1 < 28 ∧ u.2.1 < 28 ∧ u.2.2 < 28) : cl3 u < 21952 := by unfold cl3 clN; omega
theorem cl3_inj {u v : m3} (hu : u.1 < 28 ∧ u.2.1 < 28 ∧ u.2.2 < 28) (hv : v.1 < 28 ∧ v.2.1 < 28 ∧ v.2.2 < 28) (h : cl3 u = cl3 v) : u = v := by
  unfold cl3 clN at h; exact m3_ext (by omega) (by omega) (by omega)
theorem fv_sub (a b : fF) : (a.val + (32003 - b.val)) % 32003 = (a - b).val := fv_mod (by rw [fc_add, fc_of, fc_ng]; grind)
theorem fv_mul (a b : fF) : a.val * b.val % 32003 = (a * b).val := fv_mod (by rw [fc_mul, fc_of, fc_of])
theorem fv_add (a b : fF) : (a.val + b.val) % 32003 = (a + b).val := fv_mod (by rw [fc_add, fc_of, fc_of])
/-- a multiple is taken off in the cube, i terms so far -/
def cuF (mo : Nat → m3) (co : Nat → fF) (t : m3) (y : fF) (CU : Nat → fF) (i : Nat) : Nat → fF := fun j => CU j - y * sm i (fun k => if j = cl3 (ad3 t (mo k)) then co k else 0)
theorem cuF_0 (mo : Nat → m3) (co : Nat → fF) (t : m3) (y : fF) (CU : Nat → fF) : cuF mo co t y CU 0 = CU := by funext j; unfold cuF; rw [sm_0]; grind
theorem cuF_up {mo : Nat → m3} {co : Nat → fF} {t : m3} {y : fF} {CU : Nat → fF} {i : Nat} : va_up (cuF mo co t y CU i) (cl3 (ad3 t (mo i))) (cuF mo co t y CU i (cl3 (ad3 t (mo i))) - y * co i) = cuF mo co t y CU (i + 1) := by
  funext j
  by_cases e : j = cl3 (ad3 t (mo i))
  · rw [e, mp_us]; unfold cuF; rw [sm_s, if_pos rfl]; grind
  · rw [mp_un e]; unfold cuF; rw [sm_s, if_neg e]; grind

theorem d_M_empty_0 : decode b_M_empty 0 = .ok (.iconst 0, 1) := by decide +kernel
theorem d_M_empty_1 : decode b_M_empty 1 = .ok (.istore_n 1, 1) := by decide +kernel
theorem d_M_empty_2 : decode b_M_empty 2 = .ok (.iload_n 1, 1) := by decide +kernel
theorem d_M_empty_3 : decode b_M_empty 3 = .ok (.sipush 21952, 3) := by decide +kernel
theorem d_M_empty_6 : decode b_M_empty 6 = .ok (.if_icmp .ge 16, 3) := by decide +kernel
theorem d_M_empty_9 : decode b_M_empty 9 = .ok (.aload_n 0, 1) := by decide +kernel
theorem d_M_empty_10 : decode b_M_empty 10 = .ok (.getfield 29, 3) := by decide +kernel
theorem d_M_empty_13 : decode b_M_empty 13 = .ok (.iload_n 1, 1) := by decide +kernel
theorem d_M_empty_14 : decode b_M_empty 14 = .ok (.iconst 0, 1) := by decide +kernel
theorem d_M_empty_15 : decode b_M_empty 15 = .ok (.iastore, 1) := by decide +kernel
theorem d_M_empty_16 : decode b_M_empty 16 = .ok (.iinc 1 1, 3) := by decide +kernel
theorem d_M_empty_19 : decode b_M_empty 19 = .ok (.goto (-17), 3) := by decide +kernel
theorem d_M_empty_22 : decode b_M_empty 22 = .ok (.return_, 1) := by decide +kernel
theorem d_M_takeOff_0 : decode b_M_takeOff 0 = .ok (.sipush 1000, 3) := by decide +kernel
theorem d_M_takeOff_3 : decode b_M_takeOff 3 = .ok (.iload_n 1, 1) := by decide +kernel
theorem d_M_takeOff_4 : decode b_M_takeOff 4 = .ok (.imul, 1) := by decide +kernel
theorem d_M_takeOff_5 : decode b_M_takeOff 5 = .ok (.istore 4, 2) := by decide +kernel
theorem d_M_takeOff_7 : decode b_M_takeOff 7 = .ok (.iload 4, 2) := by decide +kernel
theorem d_M_takeOff_9 : decode b_M_takeOff 9 = .ok (.sipush 1000, 3) := by decide +kernel
theorem d_M_takeOff_12 : decode b_M_takeOff 12 = .ok (.iload_n 1, 1) := by decide +kernel
theorem d_M_takeOff_13 : decode b_M_takeOff 13 = .ok (.imul, 1) := by decide +kernel
theorem d_M_takeOff_14 : decode b_M_takeOff 14 = .ok (.aload_n 0, 1) := by decide +kernel
theorem d_M_takeOff_15 : decode b_M_takeOff 15 = .ok (.getfield 14, 3) := by decide +kernel
theorem d_M_takeOff_18 : decode b_M_takeOff 18 = .ok (.iload_n 1, 1) := by decide +kernel
theorem d_M_takeOff_19 : decode b_M_takeOff 19 = .ok (.iaload, 1) := by decide +kernel
theorem d_M_takeOff_20 : decode b_M_takeOff 20 = .ok (.iadd, 1) := by decide +kernel
theorem d_M_takeOff_21 : decode b_M_takeOff 21 = .ok (.if_icmp .ge 51, 3) := by decide +kernel
theorem d_M_takeOff_24 : decode b_M_takeOff 24 = .ok (.aload_n 0, 1) := by decide +kernel
theorem d_M_takeOff_25 : decode b_M_takeOff 25 = .ok (.getfield 17, 3) := by decide +kernel
theorem d_M_takeOff_28 : decode b_M_takeOff 28 = .ok (.iload 4, 2) := by decide +kernel
theorem d_M_takeOff_30 : decode b_M_takeOff 30 = .ok (.iaload, 1) := by decide +kernel
theorem d_M_takeOff_31 : decode b_M_takeOff 31 = .ok (.invokestatic 139, 3) := by decide +kernel
theorem d_M_takeOff_34 : decode b_M_takeOff 34 = .ok (.iload_n 3, 1) := by decide +kernel
theorem d_M_takeOff_35 : decode b_M_takeOff 35 = .ok (.iadd, 1) := by decide +kernel
theorem d_M_takeOff_36 : decode b_M_takeOff 36 = .ok (.istore 5, 2) := by decide +kernel
theorem d_M_takeOff_38 : decode b_M_takeOff 38 = .ok (.aload_n 0, 1) := by decide +kernel
theorem d_M_takeOff_39 : decode b_M_takeOff 39 = .ok (.getfield 29, 3) := by decide +kernel
theorem d_M_takeOff_42 : decode b_M_takeOff 42 = .ok (.iload 5, 2) := by decide +kernel
theorem d_M_takeOff_44 : decode b_M_takeOff 44 = .ok (.aload_n 0, 1) := by decide +kernel
theorem d_M_takeOff_45 : decode b_M_takeOff 45 = .ok (.getfield 29, 3) := by decide +kernel
theorem d_M_takeOff_48 : decode b_M_takeOff 48 = .ok (.iload 5, 2) := by decide +kernel
theorem d_M_takeOff_50 : decode b_M_takeOff 50 = .ok (.iaload, 1) := by decide +kernel
theorem d_M_takeOff_51 : decode b_M_takeOff 51 = .ok (.iload_n 2, 1) := by decide +kernel
theorem d_M_takeOff_52 : decode b_M_takeOff 52 = .ok (.aload_n 0, 1) := by decide +kernel
theorem d_M_takeOff_53 : decode b_M_takeOff 53 = .ok (.getfield 20, 3) := by decide +kernel
theorem d_M_takeOff_56 : decode b_M_takeOff 56 = .ok (.iload 4, 2) := by decide +kernel
theorem d_M_takeOff_58 : decode b_M_takeOff 58 = .ok (.iaload, 1) := by decide +kernel
theorem d_M_takeOff_59 : decode b_M_takeOff 59 = .ok (.invokestatic 87, 3) := by decide +kernel
theorem d_M_takeOff_62 : decode b_M_takeOff 62 = .ok (.invokestatic 142, 3) := by decide +kernel
theorem d_M_takeOff_65 : decode b_M_takeOff 65 = .ok (.iastore, 1) := by decide +kernel
theorem d_M_takeOff_66 : decode b_M_takeOff 66 = .ok (.iinc 4 1, 3) := by decide +kernel
theorem d_M_takeOff_69 : decode b_M_takeOff 69 = .ok (.goto (-62), 3) := by decide +kernel
theorem d_M_takeOff_72 : decode b_M_takeOff 72 = .ok (.return_, 1) := by decide +kernel
set_option maxHeartbeats 4000000 in
set_option maxRecDepth 100000 in
theorem lp_M_empty {p : Program} {l : Launch} {e : Env} {R : Room} {s : State} {m : MethodId} {args : Array Value} {below : List Frame} {meth : Method} {c : Code} {Q : State → Prop} {D : mp_G} {g : Nat → ClassId} {A : Nat → Prop} {cells slots : Nat} (hx : p.tables.exec = Jvm.exec) (hb : c.code = b_M_empty) (hml : c.maxLocals = 2) (hg : ∀ w ∈ gw, w.before args s = true) (hown : s.vm.findClass R_M = some m.cls) (hK : mp_K D classes (tys g) s) (hRf : 0 ≤ R.frames) (hRl : 0 ≤ R.locals) (hRc : cells ≤ R.cells) (hRs : slots ≤ R.slots) {B : mp_M} {o cu : Nat} {mv0 mv1 mv2 mv3 mv4 mv5 mv6 mv7 mv8 mv9 mv10 mv12 mv13 mv14 mv15 mv16 mv17 mv18 mv19 mv20 mv21 mv22 mv23 mv24 mv25 mv26 mv27 mv28 mv29 mv30 : Value} {CU : Nat → fF}  : ∀ (k : Nat) (i : Nat) (S : mp_M) (H : Heap) (locs : List Loc) (ls : Array Slot), i + k = 21952 → S o = some (2000, .inr (10, [mv0, mv1, mv2, mv3, mv4, mv5, mv6, mv7, mv8, mv9, mv10, .ref cu, mv12, mv13, mv14, mv15, mv16, mv17, mv18, mv19, mv20, mv21, mv22, mv23, mv24, mv25, mv26, mv27, mv28, mv29, mv30])) → S cu = some (2007, .inl ((g 0), 21952, .inl (fun j => nI ((mgF i zR CU) j).val))) → (∀ b t e9, B b = some (t, e9) → (t ≠ 2007) → S b = some (t, e9)) → mp_I D classes A s.heap S H locs → lv_has ls 2 [(1, .int (nI i)), (0, .ref o)] → (∀ (S : mp_M) (H : Heap) (locs : List Loc) (ls : Array Slot), S o = some (2000, .inr (10, [mv0, mv1, mv2, mv3, mv4, mv5, mv6, mv7, mv8, mv9, mv10, .ref cu, mv12, mv13, mv14, mv15, mv16, mv17, mv18, mv19, mv20, mv21, mv22, mv23, mv24, mv25, mv26, mv27, mv28, mv29, mv30])) → S cu = some (2007, .inl ((g 0), 21952, .inl (fun j => nI ((mgF 21952 zR CU) j).val))) → (∀ b t e9, B b = some (t, e9) → (t ≠ 2007) → S b = some (t, e9)) → mp_I D classes A s.heap S H locs → lv_has ls 2 [(1, .int (nI 21952)), (0, .ref o)] → W p l e R s m args below meth c H locs cells slots Q (F0 m 22 ls [])) → W p l e R s m args below meth c H locs cells slots Q (F0 m 2 ls []) := by
  intro k
  induction k with
  | zero =>
    intro i S H locs ls hi h_o h_cu hfr hI hl kx
    refine lv_iload_n hx hb d_M_empty_2 rfl (lv_at hl 0 rfl) ?_
    refine lv_sipush (v := nI 21952) hx hb d_M_empty_3 (by decide) ?_
    refine lv_icmp_ge (tgt := 22) hx hb d_M_empty_6 (by decide) (fun _ => ?_) (fun h9 => absurd ((nI_leI (by omega) (by omega)).mpr (by omega)) h9)
    obtain rfl : i = 21952 := by omega
    exact kx S H locs ls h_o h_cu hfr hI (lv_sub hl [0, 1] rfl)
  | succ k ih =>
    intro i S H locs ls hi h_o h_cu hfr hI hl kx
    refine lv_iload_n hx hb d_M_empty_2 rfl (lv_at hl 0 rfl) ?_
    refine lv_sipush (v := nI 21952) hx hb d_M_empty_3 (by decide) ?_
    refine lv_icmp_ge (tgt := 22) hx hb d_M_empty_6 (by decide) (fun h9 => absurd h9 (by rw [nI_leI (by omega) (by omega)]; omega)) (fun _ => ?_)
    refine lv_aload_n hx hb d_M_empty_9 rfl (lv_at hl 1 rfl) ?_
    refine mp_get (C := R_M) (T := F_M) (N := 31) (v := .ref cu) hx hb hg i_M hown hK.va hI h_o rfl 11 (by decide) (hg _ q_815) (fun _ h9 => h9) rfl d_M_empty_10 ?_
    refine lv_iload_n hx hb d_M_empty_13 rfl (lv_at hl 0 rfl) ?_
    refine lv_iconst (v := nI 0) hx hb d_M_empty_14 (by decide) ?_
    refine mp_iast hx hb hK.va hI 0 h_cu rfl (vp_in_nI (show i < 21952 by omega) (by omega)) d_M_empty_15 (fun S1 H2 locs e_3 hI => ?_)
    have h_cu_o := h_cu
    have e_3 : S1 = va_up S cu (some (2007, .inl ((g 0), 21952, .inl (upd (fun j => nI ((mgF i zR CU) j).val) (nI i).toNatClampNeg (nI 0))))) := e_3
    have h_o : S1 o = some (2000, .inr (10, [mv0, mv1, mv2, mv3, mv4, mv5, mv6, mv7, mv8, mv9, mv10, .ref cu, mv12, mv13, mv14, mv15, mv16, mv17, mv18, mv19, mv20, mv21, mv22, mv23, mv24, mv25, mv26, mv27, mv28, mv29, mv30])) := by rw [e_3]; exact mp_keep h_o h_cu (by decide)
    have h_cu : S1 cu = some (2007, .inl ((g 0), 21952, .inl (upd (fun j => nI ((mgF i zR CU) j).val) (nI i).toNatClampNeg (nI 0)))) := by rw [e_3]; exact mp_us _ _ _
    have hfr : ∀ b t e9, B b = some (t, e9) → (t ≠ 2007) → S1 b = some (t, e9) := fun b t e9 h9 k0 => by rw [e_3]; exact mp_keep (hfr b t e9 h9 k0) h_cu_o (by omega)
    have h_cu := h_cu
    rw [nI_clamp (by omega), nIv_up0] at h_cu
    have e9h_cu : (fun j => nI (va_up (mgF i zR CU) i 0 j).val) = (fun j => nI ((mgF (i + 1) zR CU) j).val) := by rw [← mgF_up]; rfl
    rw [e9h_cu] at h_cu
    refine lv_iinc (v := nI (i + 1)) (lv' := [(1, .int (nI (i + 1))), (0, .ref o)]) hx hb d_M_empty_16 hl (k := 0) rfl (nI_1 _) (by decide) rfl (fun ls hl => ?_)
    refine lv_goto (tgt := 2) hx hb d_M_empty_19 (by decide) ?_
    exact ih (i + 1) S1 H2 locs ls (by omega) h_o h_cu hfr hI (lv_sub hl [0, 1] rfl) kx
set_option maxHeartbeats 4000000 in
set_option maxRecDepth 100000 in
/-- the cube is emptied -/
theorem c_M_empty (l : Launch) (D : mp_G) (g : Nat → ClassId) (S : mp_M) (sz : Nat) (o cu : Nat) (mv0 mv1 mv2 mv3 mv4 mv5 mv6 mv7 mv8 mv9 mv10 mv12 mv13 mv14 mv15 mv16 mv17 mv18 mv19 mv20 mv21 mv22 mv23 mv24 mv25 mv26 mv27 mv28 mv29 mv30 : Value) (CU : Nat → fF) (h_o : S o = some (2000, .inr (10, [mv0, mv1, mv2, mv3, mv4, mv5, mv6, mv7, mv8, mv9, mv10, .ref cu, mv12, mv13, mv14, mv15, mv16, mv17, mv18, mv19, mv20, mv21, mv22, mv23, mv24, mv25, mv26, mv27, mv28, mv29, mv30]))) (h_cu : S cu = some (2007, .inl ((g 0), 21952, .inl (fun j => nI (CU j).val))))  : Met l y_M_empty w_M_empty ({ frames := 0, cells := 0, slots := 0, locals := 0 }) (va_Pc [.ref o] (mp_B0 D classes (tys g) S sz)) (va_Qv (fun (S1 : mp_M) => S1 cu = some (2007, .inl ((g 0), 21952, .inl (fun j => nI ((mgF 21952 zR CU) j).val))) ∧ (∀ b t e9, S b = some (t, e9) → (t ≠ 2007) → S1 b = some (t, e9))) (mp_B1 D classes S sz) (mp_A S sz)) 0 0 (mp_A S sz) := by
  refine Met.ofW (cc := b_M_empty) (maxL := 2) (ret := none) (by decide) rfl ?_
  intro p e s m args below meth c s₁ B hml hv
  obtain ⟨rfl, hsz, hH, hK⟩ := hv
  have hx := B.exec
  have hb := B.bytes
  have hr := B.returns
  have hts := atoms_spec (ws := w_M_empty) B.pre
  have hg : ∀ w ∈ gw, w.before _ s = true := fun w h => hts w (List.mem_cons_of_mem _ h)
  have hown : s.vm.findClass R_M = some m.cls := findClass_of_methodNamed B.named
  have hlocks := B.notSynchronized
  subst hsz
  have hI := mp_I.start hH
  have hl := lv_entry ([.ref o]) (n := 2) (Nat.le_of_ble_eq_true rfl)
  rw [lg_entry_eq]
  generalize (lg_sl ([.ref o]) ++ List.replicate (2 - (lg_sl ([.ref o])).length) Slot.unset).toArray = ls at hl ⊢
  have hl : lv_has ls 2 [(0, .ref o)] := hl
  have hfr : ∀ b t e9, S b = some (t, e9) → (t ≠ 2007) → S b = some (t, e9) := fun _ _ _ h9 _ => h9
  refine lv_iconst (v := nI 0) hx hb d_M_empty_0 (by decide) ?_
  refine lv_istore_n (lv' := [(1, .int (nI 0)), (0, .ref o)]) hx hb d_M_empty_1 rfl hl (by decide) rfl (fun ls hl => ?_)
  rw [← mgF_0 zR CU] at h_cu
  refine lp_M_empty (B := S) (o := o) (cu := cu) (mv0 := mv0) (mv1 := mv1) (mv2 := mv2) (mv3 := mv3) (mv4 := mv4) (mv5 := mv5) (mv6 := mv6) (mv7 := mv7) (mv8 := mv8) (mv9 := mv9) (mv10 := mv10) (mv12 := mv12) (mv13 := mv13) (mv14 := mv14) (mv15 := mv15) (mv16 := mv16) (mv17 := mv17) (mv18 := mv18) (mv19 := mv19) (mv20 := mv20) (mv21 := mv21) (mv22 := mv22) (mv23 := mv23) (mv24 := mv24) (mv25 := mv25) (mv26 := mv26) (mv27 := mv27) (mv28 := mv28) (mv29 := mv29) (mv30 := mv30) (CU := CU) hx hb hml hg hown hK (Nat.le_of_ble_eq_true rfl) (Nat.le_of_ble_eq_true rfl) (Nat.le_of_ble_eq_true rfl) (Nat.le_of_ble_eq_true rfl) 21952 0 S s.heap _ ls (by omega) h_o h_cu hfr hI (lv_sub hl [0, 1] rfl) (fun S1 H2 locs ls j_o j_cu hfr hI hl => ?_)
  refine mp_vret hx hb hr hlocks hI (Nat.le_of_ble_eq_true rfl) (Nat.le_of_ble_eq_true rfl) ?_ d_M_empty_22
  exact ⟨j_cu, hfr⟩
set_option maxHeartbeats 4000000 in
set_option maxRecDepth 100000 in
theorem lp_M_takeOff {p : Program} {l : Launch} {e : Env} {R : Room} {s : State} {m : MethodId} {args : Array Value} {below : List Frame} {meth : Method} {c : Code} {Q : State → Prop} {D : mp_G} {g : Nat → ClassId} {A : Nat → Prop} {cells slots : Nat} (hx : p.tables.exec = Jvm.exec) (hb : c.code = b_M_takeOff) (hml : c.maxLocals = 6) (hg : ∀ w ∈ gw, w.before args s = true) (hown : s.vm.findClass R_M = some m.cls) (hK : mp_K D classes (tys g) s) (hRf : 2 ≤ R.frames) (hRl : 42 ≤ R.locals) (hRc : cells ≤ R.cells) (hRs : slots ≤ R.slots) {B : mp_M} {o cu te tp tn f z : Nat} {mv0 mv1 mv2 mv3 mv4 mv5 mv9 mv10 mv12 mv13 mv14 mv15 mv16 mv17 mv18 mv19 mv20 mv21 mv22 mv23 mv24 mv25 mv26 mv27 mv28 mv29 mv30 : Value} {tf tpf tnf : Nat → Int32} {mo : Nat → m3} {co : Nat → fF} {t : m3} {y9 : fF} {CU : Nat → fF} (hf : f < 12) (hz : z ≤ 1000) (htf : tf f = nI z) (hk : ∀ k, k < z → tpf (1000 * f + k) = nI (pN (mo k).1 (mo k).2.1 (mo k).2.2) ∧ tnf (1000 * f + k) = nI (co k).val ∧ e9 (mo k) ∧ (ad3 t (mo k)).1 < 28 ∧ (ad3 t (mo k)).2.1 < 28 ∧ (ad3 t (mo k)).2.2 < 28) (ht : cl3 t < 2 ^ 30) : ∀ (k : Nat) (i : Nat) (S : mp_M) (H : Heap) (locs : List Loc) (ls : Array Slot), i + k = z → S o = some (2000, .inr (10, [mv0, mv1, mv2, mv3, mv4, mv5, .ref te, .ref tp, .ref tn, mv9, mv10, .ref cu, mv12, mv13, mv14, mv15, mv16, mv17, mv18, mv19, mv20, mv21, mv22, mv23, mv24, mv25, mv26, mv27, mv28, mv29, mv30])) → S cu = some (2007, .inl ((g 0), 21952, .inl (fun j => nI ((cuF mo co t y9 CU i) j).val))) → S te = some (2002, .inl ((g 0), 12, .inl tf)) → S tp = some (2003, .inl ((g 0), 12000, .inl tpf)) → S tn = some (2004, .inl ((g 0), 12000, .inl tnf)) → (∀ b t e9, B b = some (t, e9) → (t ≠ 2007) → S b = some (t, e9)) → mp_I D classes A s.heap S H locs → lv_has ls 6 [(4, .int (nI (1000 * f + i))), (3, .int (nI (cl3 t))), (2, .int (nI (y9).val)), (1, .int (nI f)), (0, .ref o)] → (∀ (S : mp_M) (H : Heap) (locs : List Loc) (ls : Array Slot), S o = some (2000, .inr (10, [mv0, mv1, mv2, mv3, mv4, mv5, .ref te, .ref tp, .ref tn, mv9, mv10, .ref cu, mv12, mv13, mv14, mv15, mv16, mv17, mv18, mv19, mv20, mv21, mv22, mv23, mv24, mv25, mv26, mv27, mv28, mv29, mv30])) → S cu = some (2007, .inl ((g 0), 21952, .inl (fun j => nI ((cuF mo co t y9 CU z) j).val))) → S te = some (2002, .inl ((g 0), 12, .inl tf)) → S tp = some (2003, .inl ((g 0), 12000, .inl tpf)) → S tn = some (2004, .inl ((g 0), 12000, .inl tnf)) → (∀ b t e9, B b = some (t, e9) → (t ≠ 2007) → S b = some (t, e9)) → mp_I D classes A s.heap S H locs → lv_has ls 6 [(4, .int (nI (1000 * f + z))), (3, .int (nI (cl3 t))), (2, .int (nI (y9).val)), (1, .int (nI f)), (0, .ref o)] → W p l e R s m args below meth c H locs cells slots Q (F0 m 72 ls [])) → W p l e R s m args below meth c H locs cells slots Q (F0 m 7 ls []) := by
  intro k
  induction k with
  | zero =>
    intro i S H locs ls hi h_o h_cu h_te h_tp h_tn hfr hI hl kx
    refine lv_iload hx hb d_M_takeOff_7 (lv_at hl 0 rfl) ?_
    refine lv_sipush (v := nI 1000) hx hb d_M_takeOff_9 (by decide) ?_
    refine lv_iload_n hx hb d_M_takeOff_12 rfl (lv_at hl 3 rfl) ?_
    refine lv_imul hx hb d_M_takeOff_13 ?_
    refine lv_topi (fun v1 ev1 => ?_)
    obtain rfl : v1 = nI (1000 * f) := ev1.trans (pk_mul _ _)
    refine lv_aload_n hx hb d_M_takeOff_14 rfl (lv_at hl 4 rfl) ?_
    refine mp_get (C := R_M) (T := F_M) (N := 31) (v := .ref te) hx hb hg i_M hown hK.va hI h_o rfl 6 (by decide) (hg _ q_810) (fun _ h9 => h9) rfl d_M_takeOff_15 ?_
    refine lv_iload_n hx hb d_M_takeOff_18 rfl (lv_at hl 3 rfl) ?_
    refine mp_iald hx hb hK.va hI 0 h_te rfl (vp_in_nI (show f < 12 by omega) (by omega)) d_M_takeOff_19 ?_
    refine lv_topi (fun v2 ev2 => ?_)
    obtain rfl : v2 = nI z := ev2.trans (by rw [nI_clamp (by omega)]; exact htf)
    refine lv_iadd hx hb d_M_takeOff_20 ?_
    refine lv_topi (fun v3 ev3 => ?_)
    obtain rfl : v3 = nI ((1000 * f) + z) := ev3.trans (nI_add _ _)
    refine lv_icmp_ge (tgt := 72) hx hb d_M_takeOff_21 (by decide) (fun _ => ?_) (fun h9 => absurd ((nI_leI (by omega) (by omega)).mpr (by omega)) h9)
    obtain rfl : i = z := by omega
    exact kx S H locs ls h_o h_cu h_te h_tp h_tn hfr hI (lv_sub hl [0, 1, 2, 3, 4] rfl)
  | succ k ih =>
    intro i S H locs ls hi h_o h_cu h_te h_tp h_tn hfr hI hl kx
    refine lv_iload hx hb d_M_takeOff_7 (lv_at hl 0 rfl) ?_
    refine lv_sipush (v := nI 1000) hx hb d_M_takeOff_9 (by decide) ?_
    refine lv_iload_n hx hb d_M_takeOff_12 rfl (lv_at hl 3 rfl) ?_
    refine lv_imul hx hb d_M_takeOff_13 ?_
    refine lv_topi (fun v1 ev1 => ?_)
    obtain rfl : v1 = nI (1000 * f) := ev1.trans (pk_mul _ _)
    refine lv_aload_n hx hb d_M_takeOff_14 rfl (lv_at hl 4 rfl) ?_
    refine mp_get (C := R_M) (T := F_M) (N := 31) (v := .ref te) hx hb hg i_M hown hK.va hI h_o rfl 6 (by decide) (hg _ q_810) (fun _ h9 => h9) rfl d_M_takeOff_15 ?_
    refine lv_iload_n hx hb d_M_takeOff_18 rfl (lv_at hl 3 rfl) ?_
    refine mp_iald hx hb hK.va hI 0 h_te rfl (vp_in_nI (show f < 12 by omega) (by omega)) d_M_takeOff_19 ?_
    refine lv_topi (fun v2 ev2 => ?_)
    obtain rfl : v2 = nI z := ev2.trans (by rw [nI_clamp (by omega)]; exact htf)
    refine lv_iadd hx hb d_M_takeOff_20 ?_
    refine lv_topi (fun v3 ev3 => ?_)
    obtain rfl : v3 = nI ((1000 * f) + z) := ev3.trans (nI_add _ _)
    refine lv_icmp_ge (tgt := 72) hx hb d_M_takeOff_21 (by decide) (fun h9 => absurd h9 (by rw [nI_leI (by omega) (by omega)]; omega)) (fun _ => ?_)
    obtain ⟨k1, k2, ⟨e1, e2, e3⟩, k4⟩ := hk i (by omega)
    have hcl := cl3_lt k4
    refine lv_aload_n hx hb d_M_takeOff_24 rfl (lv_at hl 4 rfl) ?_
    refine mp_get (C := R_M) (T := F_M) (N := 31) (v := .ref tp) hx hb hg i_M hown hK.va hI h_o rfl 7 (by decide) (hg _ q_811) (fun _ h9 => h9) rfl d_M_takeOff_25 ?_
    refine lv_iload hx hb d_M_takeOff_28 (lv_at hl 0 rfl) ?_
    refine mp_iald hx hb hK.va hI 0 h_tp rfl (vp_in_nI (show 1000 * f + i < 12000 by omega) (by omega)) d_M_takeOff_30 ?_
    refine lv_topi (fun v4 ev4 => ?_)
    obtain rfl : v4 = nI (pN (mo i).1 (mo i).2.1 (mo i).2.2) := ev4.trans (by rw [nI_clamp (by omega)]; exact k1)
    refine mp_calli hI (va_runS (As := [.int (nI (pN (mo i).1 (mo i).2.1 (mo i).2.2))]) (rest := []) ⟨hx, hb, hml, hown, hg⟩ (c_M_cellOf l D g S _ (pN (mo i).1 (mo i).2.1 (mo i).2.2) (pN_lt e1 e2 e3)) ⟨(callB_of 1 hg (wd_goodG q_983) rfl rfl rfl (hg _ q_5) (hg _ q_981) (by decide +kernel) ⟨Nat.le_trans (Nat.le_of_ble_eq_true rfl) hRf, Nat.le_trans (Nat.le_of_ble_eq_true rfl) hRl⟩), hg _ q_982⟩ (mp_pre hI hK [.int (nI (pN (mo i).1 (mo i).2.1 (mo i).2.2))]) rfl rfl hl.1 rfl (lv_room (Nat.le_of_ble_eq_true rfl)) d_M_takeOff_31 ⟨by omega, by omega⟩) (fun r8 S5 H6 locs p_7 hI => ?_)
    obtain ⟨er8, eS9⟩ := p_7
    rw [eS9] at hI
    have er8 : r8 = nI (clN (eN (pN (mo i).1 (mo i).2.1 (mo i).2.2) 0) (eN (pN (mo i).1 (mo i).2.1 (mo i).2.2) 1) (eN (pN (mo i).1 (mo i).2.1 (mo i).2.2) 2)) := er8
    subst er8
    refine lv_topi (fun v10 ev10 => ?_)
    obtain rfl : v10 = nI (cl3 (mo i)) := ev10.trans (by rw [pN_0 e1 e2 e3, pN_1 e1 e2 e3, pN_2 e1 e2 e3]; rfl)
    refine lv_iload_n hx hb d_M_takeOff_34 rfl (lv_at hl 1 rfl) ?_
    refine lv_iadd hx hb d_M_takeOff_35 ?_
    refine lv_topi (fun v11 ev11 => ?_)
    obtain rfl : v11 = nI ((cl3 (mo i)) + (cl3 t)) := ev11.trans (nI_add _ _)
    refine lv_topi (fun v12 ev12 => ?_)
    obtain rfl : v12 = nI (cl3 (ad3 t (mo i))) := ev12.trans (congrArg nI (cl3_ad t (mo i)))
    refine lv_istore (lv' := [(5, .int (nI (cl3 (ad3 t (mo i))))), (4, .int (nI (1000 * f + i))), (3, .int (nI (cl3 t))), (2, .int (nI (y9).val)), (1, .int (nI f)), (0, .ref o)]) hx hb d_M_takeOff_36 hl (by decide) rfl (fun ls hl => ?_)
    refine lv_aload_n hx hb d_M_takeOff_38 rfl (lv_at hl 5 rfl) ?_
    refine mp_get (C := R_M) (T := F_M) (N := 31) (v := .ref cu) hx hb hg i_M hown hK.va hI h_o rfl 11 (by decide) (hg _ q_815) (fun _ h9 => h9) rfl d_M_takeOff_39 ?_
    refine lv_iload hx hb d_M_takeOff_42 (lv_at hl 0 rfl) ?_
    refine lv_aload_n hx hb d_M_takeOff_44 rfl (lv_at hl 5 rfl) ?_
    refine mp_get (C := R_M) (T := F_M) (N := 31) (v := .ref cu) hx hb hg i_M hown hK.va hI h_o rfl 11 (by decide) (hg _ q_815) (fun _ h9 => h9) rfl d_M_takeOff_45 ?_
    refine lv_iload hx hb d_M_takeOff_48 (lv_at hl 0 rfl) ?_
    refine mp_iald hx hb hK.va hI 0 h_cu rfl (vp_in_nI (show cl3 (ad3 t (mo i)) < 21952 by omega) (by omega)) d_M_takeOff_50 ?_
    refine lv_topi (fun v13 ev13 => ?_)
    obtain rfl : v13 = nI ((cuF mo co t y9 CU i) (cl3 (ad3 t (mo i)))).val := ev13.trans (by rw [nI_clamp (by omega)])
    refine lv_iload_n hx hb d_M_takeOff_51 rfl (lv_at hl 3 rfl) ?_
    refine lv_aload_n hx hb d_M_takeOff_52 rfl (lv_at hl 5 rfl) ?_
    refine mp_get (C := R_M) (T := F_M) (N := 31) (v := .ref tn) hx hb hg i_M hown hK.va hI h_o rfl 8 (by decide) (hg _ q_812) (fun _ h9 => h9) rfl d_M_takeOff_53 ?_
    refine lv_iload hx hb d_M_takeOff_56 (lv_at hl 1 rfl) ?_
    refine mp_iald hx hb hK.va hI 0 h_tn rfl (vp_in_nI (show 1000 * f + i < 12000 by omega) (by omega)) d_M_takeOff_58 ?_
    refine lv_topi (fun v14 ev14 => ?_)
    obtain rfl : v14 = nI (co i).val := ev14.trans (by rw [nI_clamp (by omega)]; exact k2)
    refine mp_calli hI (va_runS (As := [.int (nI (y9).val), .int (nI (co i).val)]) (rest := [.int (nI ((cuF mo co t y9 CU i) (cl3 (ad3 t (mo i)))).val), .int (nI (cl3 (ad3 t (mo i)))), .ref cu]) ⟨hx, hb, hml, hown, hg⟩ (c_M_times l D g S _ (y9).val (co i).val (by omega) (by omega)) ⟨(callB_of 2 hg (wd_goodG q_927) rfl rfl rfl (hg _ q_5) (hg _ q_925) (by decide +kernel) ⟨Nat.le_trans (Nat.le_of_ble_eq_true rfl) hRf, Nat.le_trans (Nat.le_of_ble_eq_true rfl) hRl⟩), hg _ q_926⟩ (mp_pre hI hK [.int (nI (y9).val), .int (nI (co i).val)]) rfl rfl hl.1 rfl (lv_room (Nat.le_of_ble_eq_true rfl)) d_M_takeOff_59 ⟨by omega, by omega⟩) (fun r18 S15 H16 locs p_17 hI => ?_)
    obtain ⟨er18, eS19⟩ := p_17
    rw [eS19] at hI
    have er18 : r18 = nI ((y9).val * (co i).val % 32003) := er18
    subst er18
    refine lv_topi (fun v20 ev20 => ?_)
    obtain rfl : v20 = nI (y9 * (co i)).val := ev20.trans (congrArg nI (fv_mul _ _))
    refine mp_calli hI (va_runS (As := [.int (nI ((cuF mo co t y9 CU i) (cl3 (ad3 t (mo i)))).val), .int (nI (y9 * (co i)).val)]) (rest := [.int (nI (cl3 (ad3 t (mo i)))), .ref cu]) ⟨hx, hb, hml, hown, hg⟩ (c_M_less l D g S _ ((cuF mo co t y9 CU i) (cl3 (ad3 t (mo i)))).val (y9 * co i).val (by omega) (by omega)) ⟨(callB_of 2 hg (wd_goodG q_980) rfl rfl rfl (hg _ q_5) (hg _ q_978) (by decide +kernel) ⟨Nat.le_trans (Nat.le_of_ble_eq_true rfl) hRf, Nat.le_trans (Nat.le_of_ble_eq_true rfl) hRl⟩), hg _ q_979⟩ (mp_pre hI hK [.int (nI ((cuF mo co t y9 CU i) (cl3 (ad3 t (mo i)))).val), .int (nI (y9 * (co i)).val)]) rfl rfl hl.1 rfl (lv_room (Nat.le_of_ble_eq_true rfl)) d_M_takeOff_62 ⟨by omega, by omega⟩) (fun r24 S21 H22 locs p_23 hI => ?_)
    obtain ⟨er24, eS25⟩ := p_23
    rw [eS25] at hI
    have er24 : r24 = nI ((((cuF mo co t y9 CU i) (cl3 (ad3 t (mo i)))).val + (32003 - (y9 * co i).val)) % 32003) := er24
    subst er24
    refine lv_topi (fun v26 ev26 => ?_)
    obtain rfl : v26 = nI (((cuF mo co t y9 CU i) (cl3 (ad3 t (mo i)))) - (y9 * co i)).val := ev26.trans (congrArg nI (fv_sub _ _))
    refine mp_iast hx hb hK.va hI 0 h_cu rfl (vp_in_nI (show cl3 (ad3 t (mo i)) < 21952 by omega) (by omega)) d_M_takeOff_65 (fun S27 H28 locs e_29 hI => ?_)
    have h_cu_o := h_cu
    have e_29 : S27 = va_up S cu (some (2007, .inl ((g 0), 21952, .inl (upd (fun j => nI ((cuF mo co t y9 CU i) j).val) (nI (cl3 (ad3 t (mo i)))).toNatClampNeg (nI (((cuF mo co t y9 CU i) (cl3 (ad3 t (mo i)))) - (y9 * co i)).val))))) := e_29
    have h_o : S27 o = some (2000, .inr (10, [mv0, mv1, mv2, mv3, mv4, mv5, .ref te, .ref tp, .ref tn, mv9, mv10, .ref cu, mv12, mv13, mv14, mv15, mv16, mv17, mv18, mv19, mv20, mv21, mv22, mv23, mv24, mv25, mv26, mv27, mv28, mv29, mv30])) := by rw [e_29]; exact mp_keep h_o h_cu (by decide)
    have h_te : S27 te = some (2002, .inl ((g 0), 12, .inl tf)) := by rw [e_29]; exact mp_keep h_te h_cu (by decide)
    have h_tp : S27 tp = some (2003, .inl ((g 0), 12000, .inl tpf)) := by rw [e_29]; exact mp_keep h_tp h_cu (by decide)
    have h_tn : S27 tn = some (2004, .inl ((g 0), 12000, .inl tnf)) := by rw [e_29]; exact mp_keep h_tn h_cu (by decide)
    have h_cu : S27 cu = some (2007, .inl ((g 0), 21952, .inl (upd (fun j => nI ((cuF mo co t y9 CU i) j).val) (nI (cl3 (ad3 t (mo i)))).toNatClampNeg (nI (((cuF mo co t y9 CU i) (cl3 (ad3 t (mo i)))) - (y9 * co i)).val)))) := by rw [e_29]; exact mp_us _ _ _
    have hfr : ∀ b t e9, B b = some (t, e9) → (t ≠ 2007) → S27 b = some (t, e9) := fun b t e9 h9 k0 => by rw [e_29]; exact mp_keep (hfr b t e9 h9 k0) h_cu_o (by omega)
    rw [nI_clamp (by omega), nIv_up] at h_cu
    have e9h_cu : (fun j => nI (va_up (cuF mo co t y9 CU i) (cl3 (ad3 t (mo i))) (((cuF mo co t y9 CU i) (cl3 (ad3 t (mo i)))) - (y9 * co i)) j).val) = (fun j => nI ((cuF mo co t y9 CU (i + 1)) j).val) := by rw [cuF_up]
    rw [e9h_cu] at h_cu
    refine lv_iinc (v := nI ((1000 * f + i) + 1)) (lv' := [(4, .int (nI ((1000 * f + i) + 1))), (5, .int (nI (cl3 (ad3 t (mo i))))), (3, .int (nI (cl3 t))), (2, .int (nI (y9).val)), (1, .int (nI f)), (0, .ref o)]) hx hb d_M_takeOff_66 hl (k := 1) rfl (nI_1 _) (by decide) rfl (fun ls hl => ?_)
    refine lv_goto (tgt := 7) hx hb d_M_takeOff_69 (by decide) ?_
    exact ih (i + 1) S27 H28 locs ls (by omega) h_o h_cu h_te h_tp h_tn hfr hI (lv_sub hl [0, 2, 3, 4, 5] rfl) kx
set_option maxHeartbeats 4000000 in
set_option maxRecDepth 100000 in
/-- a multiple is taken off -/
theorem c_M_takeOff (l : Launch) (D : mp_G) (g : Nat → ClassId) (S : mp_M) (sz : Nat) (o cu te tp tn f z : Nat) (mv0 mv1 mv2 mv3 mv4 mv5 mv9 mv10 mv12 mv13 mv14 mv15 mv16 mv17 mv18 mv19 mv20 mv21 mv22 mv23 mv24 mv25 mv26 mv27 mv28 mv29 mv30 : Value) (tf tpf tnf : Nat → Int32) (mo : Nat → m3) (co : Nat → fF) (t : m3) (y9 : fF) (CU : Nat → fF) (h_o : S o = some (2000, .inr (10, [mv0, mv1, mv2, mv3, mv4, mv5, .ref te, .ref tp, .ref tn, mv9, mv10, .ref cu, mv12, mv13, mv14, mv15, mv16, mv17, mv18, mv19, mv20, mv21, mv22, mv23, mv24, mv25, mv26, mv27, mv28, mv29, mv30]))) (h_cu : S cu = some (2007, .inl ((g 0), 21952, .inl (fun j => nI (CU j).val)))) (h_te : S te = some (2002, .inl ((g 0), 12, .inl tf))) (h_tp : S tp = some (2003, .inl ((g 0), 12000, .inl tpf))) (h_tn : S tn = some (2004, .inl ((g 0), 12000, .inl tnf))) (hf : f < 12) (hz : z ≤ 1000) (htf : tf f = nI z) (hk : ∀ k, k < z → tpf (1000 * f + k) = nI (pN (mo k).1 (mo k).2.1 (mo k).2.2) ∧ tnf (1000 * f + k) = nI (co k).val ∧ e9 (mo k) ∧ (ad3 t (mo k)).1 < 28 ∧ (ad3 t (mo k)).2.1 < 28 ∧ (ad3 t (mo k)).2.2 < 28) (ht : cl3 t < 2 ^ 30) : Met l y_M_takeOff w_M_takeOff ({ frames := 2, cells := 0, slots := 0, locals := 42 }) (va_Pc [.ref o, .int (nI f), .int (nI (y9).val), .int (nI (cl3 t))] (mp_B0 D classes (tys g) S sz)) (va_Qv (fun (S1 : mp_M) => S1 cu = some (2007, .inl ((g 0), 21952, .inl (fun j => nI ((cuF mo co t y9 CU z) j).val))) ∧ (∀ b t e9, S b = some (t, e9) → (t ≠ 2007) → S1 b = some (t, e9))) (mp_B1 D classes S sz) (mp_A S sz)) 0 0 (mp_A S sz) := by
  refine Met.ofW (cc := b_M_takeOff) (maxL := 6) (ret := none) (by decide) rfl ?_
  intro p e s m args below meth c s₁ B hml hv
  obtain ⟨rfl, hsz, hH, hK⟩ := hv
  have hx := B.exec
  have hb := B.bytes
  have hr := B.returns
  have hts := atoms_spec (ws := w_M_takeOff) B.pre
  have hg : ∀ w ∈ gw, w.before _ s = true := fun w h => hts w (List.mem_cons_of_mem _ h)
  have hown : s.vm.findClass R_M = some m.cls := findClass_of_methodNamed B.named
  have hlocks := B.notSynchronized
  subst hsz
  have hI := mp_I.start hH
  have hl := lv_entry ([.ref o, .int (nI f), .int (nI (y9).val), .int (nI (cl3 t))]) (n := 6) (Nat.le_of_ble_eq_true rfl)
  rw [lg_entry_eq]
  generalize (lg_sl ([.ref o, .int (nI f), .int (nI (y9).val), .int (nI (cl3 t))]) ++ List.replicate (6 - (lg_sl ([.ref o, .int (nI f), .int (nI (y9).val), .int (nI (cl3 t))])).length) Slot.unset).toArray = ls at hl ⊢
  have hl : lv_has ls 6 [(0, .ref o), (1, .int (nI f)), (2, .int (nI (y9).val)), (3, .int (nI (cl3 t)))] := hl
  have hfr : ∀ b t e9, S b = some (t, e9) → (t ≠ 2007) → S b = some (t, e9) := fun _ _ _ h9 _ => h9
  refine lv_sipush (v := nI 1000) hx hb d_M_takeOff_0 (by decide) ?_
  refine lv_iload_n hx hb d_M_takeOff_3 rfl (lv_at hl 1 rfl) ?_
  refine lv_imul hx hb d_M_takeOff_4 ?_
  refine lv_topi (fun v1 ev1 => ?_)
  obtain rfl : v1 = nI (1000 * f) := ev1.trans (pk_mul _ _)
  refine lv_istore (lv' := [(4, .int (nI (1000 * f))), (0, .ref o), (1, .int (nI f)), (2, .int (nI (y9).val)), (3, .int (nI (cl3 t)))]) hx hb d_M_takeOff_5 hl (by decide) rfl (fun ls hl => ?_)
  rw [← cuF_0 mo co t y9 CU] at h_cu
  refine lp_M_takeOff (B := S) (o := o) (cu := cu) (te := te) (tp := tp) (tn := tn) (f := f) (z := z) (mv0 := mv0) (mv1 := mv1) (mv2 := mv2) (mv3 := mv3) (mv4 := mv4) (mv5 := mv5) (mv9 := mv9) (mv10 := mv10) (mv12 := mv12) (mv13 := mv13) (mv14 := mv14) (mv15 := mv15) (mv16 := mv16) (mv17 := mv17) (mv18 := mv18) (mv19 := mv19) (mv20 := mv20) (mv21 := mv21) (mv22 := mv22) (mv23 := mv23) (mv24 := mv24) (mv25 := mv25) (mv26 := mv26) (mv27 := mv27) (mv28 := mv28) (mv29 := mv29) (mv30 := mv30) (tf := tf) (tpf := tpf) (tnf := tnf) (mo := mo) (co := co) (t := t) (y9 := y9) (CU := CU) hx hb hml hg hown hK (Nat.le_of_ble_eq_true rfl) (Nat.le_of_ble_eq_true rfl) (Nat.le_of_ble_eq_true rfl) (Nat.le_of_ble_eq_true rfl) hf hz htf hk ht z 0 S s.heap _ ls (by omega) h_o h_cu h_te h_tp h_tn hfr hI (lv_sub hl [0, 4, 3, 2, 1] rfl) (fun S2 H3 locs ls j_o j_cu j_te j_tp j_tn hfr hI hl => ?_)
  refine mp_vret hx hb hr hlocks hI (Nat.le_of_ble_eq_true rfl) (Nat.le_of_ble_eq_true rfl) ?_ d_M_takeOff_72
  exact ⟨j_cu, hfr⟩
