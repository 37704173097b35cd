/-- the reference's tables, as far as they are made -/
def mtI (n : Nat) (h : Nat → m3) (z : Nat → Nat) (mo : Nat → Nat → m3) (co : Nat → Nat → fF) (s : Nat) (lf : Nat → m3) (l k : Nat) (TB : Nat → fF) : Prop := ∀ a b, prD l k a b → b < s → ∀ j, j < s → TB (256 * a + 16 * j + b) = nu n h z mo co (pl3 (lf j)) (ad3 (xlT a) (lf b))
def tcI (l b i : Nat) (v TB TBv : Nat → fF) : Prop := (∀ j, j < i → TBv (256 * l + 16 * j + b) = v j) ∧ ∀ q, (∀ j, j < i → q ≠ 256 * l + 16 * j + b) → TBv q = TB q
theorem tcI_0 (l b : Nat) (v TB : Nat → fF) : tcI l b 0 v TB TB := ⟨fun j hj => absurd hj (Nat.not_lt_zero j), fun _ _ => rfl⟩
theorem tcI_up {l b i : Nat} {v TB TBv : Nat → fF} (h : tcI l b i v TB TBv) : tcI l b (i + 1) v TB (va_up TBv (256 * l + 16 * i + b) (v i)) := by
  refine ⟨fun j hj => ?_, fun q hq => ?_⟩
  · by_cases e : j = i
    · rw [e, mp_us]
    · rw [mp_un (by omega)]; exact h.1 j (by omega)
  · rw [mp_un (hq i (by omega))]; exact h.2 q (fun j hj => hq j (by omega))
theorem mtI_up {n : Nat} {h : Nat → m3} {z : Nat → Nat} {mo : Nat → Nat → m3} {co : Nat → Nat → fF} {s : Nat} {lf : Nat → m3} {l k : Nat} {v TB TBv : Nat → fF} (H : mtI n h z mo co s lf l k TB) (hs : s ≤ 16) (hk : k < s) (ht : tcI l k s v TB TBv) (hv : ∀ j, j < s → v j = nu n h z mo co (pl3 (lf j)) (ad3 (xlT l) (lf k))) : mtI n h z mo co s lf l (k + 1) TBv := by
  intro a b h1 h2 j hj
  by_cases e : a = l ∧ b = k
  · rw [e.1, e.2, ht.1 j hj]; exact hv j hj
  · rw [ht.2 _ (fun j' hj' => by omega)]
    refine H a b ?_ h2 j hj
    rcases h1 with h1 | ⟨h1, h5⟩
    · exact Or.inl h1
    · exact Or.inr ⟨h1, by omega⟩
theorem mtI_next {n : Nat} {h : Nat → m3} {z : Nat → Nat} {mo : Nat → Nat → m3} {co : Nat → Nat → fF} {s : Nat} {lf : Nat → m3} {l : Nat} {TB : Nat → fF} (H : mtI n h z mo co s lf l s TB) : mtI n h z mo co s lf (l + 1) 0 TB := by
  intro a b h1 h2 j hj
  refine H a b ?_ h2 j hj
  rcases h1 with h1 | ⟨h1, h5⟩
  · by_cases q : a = l
    · exact Or.inr ⟨q, h2⟩
    · exact Or.inl (by omega)
  · exact absurd h5 (Nat.not_lt_zero b)
theorem xl_9 {l : Nat} {u : m3} (h : u.1 ≤ 8 ∧ u.2.1 ≤ 8 ∧ u.2.2 ≤ 8) : (ad3 (xlT l) u).1 ≤ 9 ∧ (ad3 (xlT l) u).2.1 ≤ 9 ∧ (ad3 (xlT l) u).2.2 ≤ 9 := by
  unfold xlT; split
  · simp only [ad3]; omega
  · split <;> (simp only [ad3]; omega)
theorem rwC_d {u : m3} (hu : u.1 ≤ 9 ∧ u.2.1 ≤ 9 ∧ u.2.2 ≤ 9) {q : Nat} (hq : q < tr3 28) : rwC (va_up zR (cl3 u) 1) q = va_up zR (pl3 u) 1 q := by
  unfold rwC
  by_cases e : q = pl3 u
  · rw [e, mp_us, Ep_pl3, mp_us]
  · rw [mp_un e, mp_un (fun w => e (by rw [← cl3_inj (Ep28 hq) (by omega) w, pl_Ep3]))]; rfl
theorem mt_v {n : Nat} {h : Nat → m3} {z : Nat → Nat} {mo : Nat → Nat → m3} {co : Nat → Nat → fF} (hL : mL n h z mo co) {u v : m3} (hu : u.1 ≤ 9 ∧ u.2.1 ≤ 9 ∧ u.2.2 ≤ 9) (hv : v.1 ≤ 8 ∧ v.2.1 ≤ 8 ∧ v.2.2 ≤ 8) (hn : ¬ fi h v n < n) {CU1 : Nat → fF} (hr : ∀ q, q < tr3 28 → rwC CU1 q = rd n h z mo co (tr3 28) (rwC (va_up zR (cl3 u) 1)) q) : CU1 (cl3 v) = nu n h z mo co (pl3 v) u := by
  have hv28 : pl3 v < tr3 28 := pl_lt (M := 27) (show v.1 + v.2.1 + v.2.2 ≤ 27 by omega)
  have hu28 : pl3 u < tr3 28 := pl_lt (M := 27) (show u.1 + u.2.1 + u.2.2 ≤ 27 by omega)
  have h1 : CU1 (cl3 v) = rwC CU1 (pl3 v) := by unfold rwC; rw [Ep_pl3]
  rw [h1, hr _ hv28, rd_R (T := tr3 28) _ (Nat.le_refl _) (fun q hq => rwC_d hu hq) _ hv28]
  have h2 : tr3 28 = pl3 u + 1 + (tr3 28 - (pl3 u + 1)) := by omega
  rw [h2, rd_more (fun q hq => by rw [mp_un (by omega)]; rfl)]
  exact rd_nu hL (by rw [Ep_pl3]; exact hn)
theorem up_t {u : m3} (hu : u.1 ≤ 9 ∧ u.2.1 ≤ 9 ∧ u.2.2 ≤ 9) : trn 21952 (va_up zR (cl3 u) 1) := fun j hj => by
  rw [mp_un (by have := cl3_lt (u := u) (by omega); omega)]; rfl

theorem d_M_makeTables_0 : decode b_M_makeTables 0 = .ok (.iconst 0, 1) := by decide +kernel
theorem d_M_makeTables_1 : decode b_M_makeTables 1 = .ok (.istore_n 1, 1) := by decide +kernel
theorem d_M_makeTables_2 : decode b_M_makeTables 2 = .ok (.iload_n 1, 1) := by decide +kernel
theorem d_M_makeTables_3 : decode b_M_makeTables 3 = .ok (.aload_n 0, 1) := by decide +kernel
theorem d_M_makeTables_4 : decode b_M_makeTables 4 = .ok (.getfield 78, 3) := by decide +kernel
theorem d_M_makeTables_7 : decode b_M_makeTables 7 = .ok (.if_icmp .ge 117, 3) := by decide +kernel
theorem d_M_makeTables_10 : decode b_M_makeTables 10 = .ok (.iconst 0, 1) := by decide +kernel
theorem d_M_makeTables_11 : decode b_M_makeTables 11 = .ok (.istore_n 2, 1) := by decide +kernel
theorem d_M_makeTables_12 : decode b_M_makeTables 12 = .ok (.iload_n 2, 1) := by decide +kernel
theorem d_M_makeTables_13 : decode b_M_makeTables 13 = .ok (.aload_n 0, 1) := by decide +kernel
theorem d_M_makeTables_14 : decode b_M_makeTables 14 = .ok (.getfield 171, 3) := by decide +kernel
theorem d_M_makeTables_17 : decode b_M_makeTables 17 = .ok (.if_icmp .ge 101, 3) := by decide +kernel
theorem d_M_makeTables_20 : decode b_M_makeTables 20 = .ok (.aload_n 0, 1) := by decide +kernel
theorem d_M_makeTables_21 : decode b_M_makeTables 21 = .ok (.invokevirtual 155, 3) := by decide +kernel
theorem d_M_makeTables_24 : decode b_M_makeTables 24 = .ok (.aload_n 0, 1) := by decide +kernel
theorem d_M_makeTables_25 : decode b_M_makeTables 25 = .ok (.getfield 29, 3) := by decide +kernel
theorem d_M_makeTables_28 : decode b_M_makeTables 28 = .ok (.aload_n 0, 1) := by decide +kernel
theorem d_M_makeTables_29 : decode b_M_makeTables 29 = .ok (.getfield 32, 3) := by decide +kernel
theorem d_M_makeTables_32 : decode b_M_makeTables 32 = .ok (.iload_n 2, 1) := by decide +kernel
theorem d_M_makeTables_33 : decode b_M_makeTables 33 = .ok (.iaload, 1) := by decide +kernel
theorem d_M_makeTables_34 : decode b_M_makeTables 34 = .ok (.invokestatic 139, 3) := by decide +kernel
theorem d_M_makeTables_37 : decode b_M_makeTables 37 = .ok (.iload_n 1, 1) := by decide +kernel
theorem d_M_makeTables_38 : decode b_M_makeTables 38 = .ok (.ifCond .ne 7, 3) := by decide +kernel
theorem d_M_makeTables_41 : decode b_M_makeTables 41 = .ok (.iconst 1, 1) := by decide +kernel
theorem d_M_makeTables_42 : decode b_M_makeTables 42 = .ok (.goto 16, 3) := by decide +kernel
theorem d_M_makeTables_45 : decode b_M_makeTables 45 = .ok (.iload_n 1, 1) := by decide +kernel
theorem d_M_makeTables_46 : decode b_M_makeTables 46 = .ok (.iconst 1, 1) := by decide +kernel
theorem d_M_makeTables_47 : decode b_M_makeTables 47 = .ok (.if_icmp .ne 8, 3) := by decide +kernel
theorem d_M_makeTables_50 : decode b_M_makeTables 50 = .ok (.bipush 28, 2) := by decide +kernel
theorem d_M_makeTables_52 : decode b_M_makeTables 52 = .ok (.goto 6, 3) := by decide +kernel
theorem d_M_makeTables_55 : decode b_M_makeTables 55 = .ok (.sipush 784, 3) := by decide +kernel
theorem d_M_makeTables_58 : decode b_M_makeTables 58 = .ok (.iadd, 1) := by decide +kernel
theorem d_M_makeTables_59 : decode b_M_makeTables 59 = .ok (.iconst 1, 1) := by decide +kernel
theorem d_M_makeTables_60 : decode b_M_makeTables 60 = .ok (.iastore, 1) := by decide +kernel
theorem d_M_makeTables_61 : decode b_M_makeTables 61 = .ok (.aload_n 0, 1) := by decide +kernel
theorem d_M_makeTables_62 : decode b_M_makeTables 62 = .ok (.invokevirtual 158, 3) := by decide +kernel
theorem d_M_makeTables_65 : decode b_M_makeTables 65 = .ok (.iconst 0, 1) := by decide +kernel
theorem d_M_makeTables_66 : decode b_M_makeTables 66 = .ok (.istore_n 3, 1) := by decide +kernel
theorem d_M_makeTables_67 : decode b_M_makeTables 67 = .ok (.iload_n 3, 1) := by decide +kernel
theorem d_M_makeTables_68 : decode b_M_makeTables 68 = .ok (.aload_n 0, 1) := by decide +kernel
theorem d_M_makeTables_69 : decode b_M_makeTables 69 = .ok (.getfield 171, 3) := by decide +kernel
theorem d_M_makeTables_72 : decode b_M_makeTables 72 = .ok (.if_icmp .ge 40, 3) := by decide +kernel
theorem d_M_makeTables_75 : decode b_M_makeTables 75 = .ok (.aload_n 0, 1) := by decide +kernel
theorem d_M_makeTables_76 : decode b_M_makeTables 76 = .ok (.getfield 35, 3) := by decide +kernel
theorem d_M_makeTables_79 : decode b_M_makeTables 79 = .ok (.sipush 256, 3) := by decide +kernel
theorem d_M_makeTables_82 : decode b_M_makeTables 82 = .ok (.iload_n 1, 1) := by decide +kernel
theorem d_M_makeTables_83 : decode b_M_makeTables 83 = .ok (.imul, 1) := by decide +kernel
theorem d_M_makeTables_84 : decode b_M_makeTables 84 = .ok (.bipush 16, 2) := by decide +kernel
theorem d_M_makeTables_86 : decode b_M_makeTables 86 = .ok (.iload_n 3, 1) := by decide +kernel
theorem d_M_makeTables_87 : decode b_M_makeTables 87 = .ok (.imul, 1) := by decide +kernel
theorem d_M_makeTables_88 : decode b_M_makeTables 88 = .ok (.iadd, 1) := by decide +kernel
theorem d_M_makeTables_89 : decode b_M_makeTables 89 = .ok (.iload_n 2, 1) := by decide +kernel
theorem d_M_makeTables_90 : decode b_M_makeTables 90 = .ok (.iadd, 1) := by decide +kernel
theorem d_M_makeTables_91 : decode b_M_makeTables 91 = .ok (.aload_n 0, 1) := by decide +kernel
theorem d_M_makeTables_92 : decode b_M_makeTables 92 = .ok (.getfield 29, 3) := by decide +kernel
theorem d_M_makeTables_95 : decode b_M_makeTables 95 = .ok (.aload_n 0, 1) := by decide +kernel
theorem d_M_makeTables_96 : decode b_M_makeTables 96 = .ok (.getfield 32, 3) := by decide +kernel
theorem d_M_makeTables_99 : decode b_M_makeTables 99 = .ok (.iload_n 3, 1) := by decide +kernel
theorem d_M_makeTables_100 : decode b_M_makeTables 100 = .ok (.iaload, 1) := by decide +kernel
theorem d_M_makeTables_101 : decode b_M_makeTables 101 = .ok (.invokestatic 139, 3) := by decide +kernel
theorem d_M_makeTables_104 : decode b_M_makeTables 104 = .ok (.iaload, 1) := by decide +kernel
theorem d_M_makeTables_105 : decode b_M_makeTables 105 = .ok (.iastore, 1) := by decide +kernel
theorem d_M_makeTables_106 : decode b_M_makeTables 106 = .ok (.iinc 3 1, 3) := by decide +kernel
theorem d_M_makeTables_109 : decode b_M_makeTables 109 = .ok (.goto (-42), 3) := by decide +kernel
theorem d_M_makeTables_112 : decode b_M_makeTables 112 = .ok (.iinc 2 1, 3) := by decide +kernel
theorem d_M_makeTables_115 : decode b_M_makeTables 115 = .ok (.goto (-103), 3) := by decide +kernel
theorem d_M_makeTables_118 : decode b_M_makeTables 118 = .ok (.iinc 1 1, 3) := by decide +kernel
theorem d_M_makeTables_121 : decode b_M_makeTables 121 = .ok (.goto (-119), 3) := by decide +kernel
theorem d_M_makeTables_124 : decode b_M_makeTables 124 = .ok (.return_, 1) := by decide +kernel
set_option maxHeartbeats 4000000 in
set_option maxRecDepth 100000 in
theorem lp_M_tab3 {p : Program} {l : Launch} {e : Env} {R : Room} {s : State} {m : MethodId} {args : Array Value} {below : List Frame} {meth : Method} {c : Code} {Q : State → Prop} {D : mp_G} {g : Nat → ClassId} {A : Nat → Prop} {cells slots : Nat} (hx : p.tables.exec = Jvm.exec) (hb : c.code = b_M_makeTables) (hml : c.maxLocals = 4) (hg : ∀ w ∈ gw, w.before args s = true) (hown : s.vm.findClass R_M = some m.cls) (hK : mp_K D classes (tys g) s) (hRf : 4 ≤ R.frames) (hRl : 92 ≤ R.locals) (hRc : cells ≤ R.cells) (hRs : slots ≤ R.slots) {B : mp_M} {o cu te tp tn hd hv9 le ta n nl s9 : Nat} {mv1 mv2 mv3 mv4 mv12 mv13 mv17 mv18 mv19 mv20 mv21 mv22 mv23 mv24 mv25 mv26 mv27 mv28 mv29 mv30 : Value} {tf tpf tnf hf hif : Nat → Int32} {h : Nat → m3} {z : Nat → Nat} {mo : Nat → Nat → m3} {co : Nat → Nat → fF} {z2 : Nat → Nat} {mo2 : Nat → Nat → m3} {co2 : Nat → Nat → fF} {ld : Nat → fF} {LF : Nat → Nat} {lf : Nat → m3} {l9 b9 : Nat} {CU TB : Nat → fF} (hM : lsM n h z mo co z2 mo2 co2 ld tf tpf tnf hf hif) (hs : s9 ≤ 16) (hnl : nl ≤ 3) (hlf : ∀ k, k < s9 → LF k = pN (lf k).1 (lf k).2.1 (lf k).2.2 ∧ ((lf k).1 ≤ 8 ∧ (lf k).2.1 ≤ 8 ∧ (lf k).2.2 ≤ 8) ∧ ¬ fi h (lf k) n < n) (hl9 : l9 < 3) (hb9 : b9 < s9) : ∀ (k : Nat) (i : Nat) (TV : Nat → fF) (S : mp_M) (H : Heap) (locs : List Loc) (ls : Array Slot), i + k = s9 → (tcI l9 b9 i (fun j => CU (cl3 (lf j))) TB TV) → S o = some (2000, .inr (10, [.int (nI nl), mv1, mv2, mv3, mv4, .int (nI n), .ref te, .ref tp, .ref tn, .ref hd, .ref hv9, .ref cu, mv12, mv13, .int (nI s9), .ref le, .ref ta, mv17, mv18, mv19, mv20, mv21, mv22, mv23, mv24, mv25, mv26, mv27, mv28, mv29, mv30])) → S cu = some (2007, .inl ((g 0), 21952, .inl (fun j => nI (CU j).val))) → S te = some (2002, .inl ((g 0), 12, .inl tf)) → S tp = some (2003, .inl ((g 0), 12000, .inl tpf)) → S tn = some (2004, .inl ((g 0), 12000, .inl tnf)) → S hd = some (2005, .inl ((g 0), 12, .inl hf)) → S hv9 = some (2006, .inl ((g 0), 12, .inl hif)) → S le = some (2008, .inl ((g 0), 17, .inl (fun j => nI (LF j)))) → S ta = some (2009, .inl ((g 0), 768, .inl (fun j => nI (TV j).val))) → (∀ b t e9, B b = some (t, e9) → (t ≠ 2007) → (t ≠ 2009) → S b = some (t, e9)) → mp_I D classes A s.heap S H locs → lv_has ls 4 [(3, .int (nI i)), (2, .int (nI b9)), (1, .int (nI l9)), (0, .ref o)] → (∀ (TV : Nat → fF) (S : mp_M) (H : Heap) (locs : List Loc) (ls : Array Slot), (tcI l9 b9 s9 (fun j => CU (cl3 (lf j))) TB TV) → S o = some (2000, .inr (10, [.int (nI nl), mv1, mv2, mv3, mv4, .int (nI n), .ref te, .ref tp, .ref tn, .ref hd, .ref hv9, .ref cu, mv12, mv13, .int (nI s9), .ref le, .ref ta, mv17, mv18, mv19, mv20, mv21, mv22, mv23, mv24, mv25, mv26, mv27, mv28, mv29, mv30])) → S cu = some (2007, .inl ((g 0), 21952, .inl (fun j => nI (CU j).val))) → S te = some (2002, .inl ((g 0), 12, .inl tf)) → S tp = some (2003, .inl ((g 0), 12000, .inl tpf)) → S tn = some (2004, .inl ((g 0), 12000, .inl tnf)) → S hd = some (2005, .inl ((g 0), 12, .inl hf)) → S hv9 = some (2006, .inl ((g 0), 12, .inl hif)) → S le = some (2008, .inl ((g 0), 17, .inl (fun j => nI (LF j)))) → S ta = some (2009, .inl ((g 0), 768, .inl (fun j => nI (TV j).val))) → (∀ b t e9, B b = some (t, e9) → (t ≠ 2007) → (t ≠ 2009) → S b = some (t, e9)) → mp_I D classes A s.heap S H locs → lv_has ls 4 [(3, .int (nI s9)), (2, .int (nI b9)), (1, .int (nI l9)), (0, .ref o)] → W p l e R s m args below meth c H locs cells slots Q (F0 m 112 ls [])) → W p l e R s m args below meth c H locs cells slots Q (F0 m 67 ls []) := by
  intro k
  induction k with
  | zero =>
    intro i TV S H locs ls hi htc h_o h_cu h_te h_tp h_tn h_hd h_hv9 h_le h_ta hfr hI hl kx
    refine lv_iload_n hx hb d_M_makeTables_67 rfl (lv_at hl 0 rfl) ?_
    refine lv_aload_n hx hb d_M_makeTables_68 rfl (lv_at hl 3 rfl) ?_
    refine mp_get (C := R_M) (T := F_M) (N := 31) (v := .int (nI s9)) hx hb hg i_M hown hK.va hI h_o rfl 14 (by decide) (hg _ q_818) (fun _ h9 => h9) rfl d_M_makeTables_69 ?_
    refine lv_icmp_ge (tgt := 112) hx hb d_M_makeTables_72 (by decide) (fun _ => ?_) (fun h9 => absurd ((nI_leI (by omega) (by omega)).mpr (by omega)) h9)
    obtain rfl : i = s9 := by omega
    exact kx TV S H locs ls htc h_o h_cu h_te h_tp h_tn h_hd h_hv9 h_le h_ta hfr hI (lv_sub hl [0, 1, 2, 3] rfl)
  | succ k ih =>
    intro i TV S H locs ls hi htc h_o h_cu h_te h_tp h_tn h_hd h_hv9 h_le h_ta hfr hI hl kx
    obtain ⟨k1, ⟨k2, k3, k4⟩, k5⟩ := hlf i (by omega)
    have hcl := cl3_lt (u := lf i) (by omega)
    refine lv_iload_n hx hb d_M_makeTables_67 rfl (lv_at hl 0 rfl) ?_
    refine lv_aload_n hx hb d_M_makeTables_68 rfl (lv_at hl 3 rfl) ?_
    refine mp_get (C := R_M) (T := F_M) (N := 31) (v := .int (nI s9)) hx hb hg i_M hown hK.va hI h_o rfl 14 (by decide) (hg _ q_818) (fun _ h9 => h9) rfl d_M_makeTables_69 ?_
    refine lv_icmp_ge (tgt := 112) hx hb d_M_makeTables_72 (by decide) (fun h9 => absurd h9 (by rw [nI_leI (by omega) (by omega)]; omega)) (fun _ => ?_)
    refine lv_aload_n hx hb d_M_makeTables_75 rfl (lv_at hl 3 rfl) ?_
    refine mp_get (C := R_M) (T := F_M) (N := 31) (v := .ref ta) hx hb hg i_M hown hK.va hI h_o rfl 16 (by decide) (hg _ q_820) (fun _ h9 => h9) rfl d_M_makeTables_76 ?_
    refine lv_sipush (v := nI 256) hx hb d_M_makeTables_79 (by decide) ?_
    refine lv_iload_n hx hb d_M_makeTables_82 rfl (lv_at hl 2 rfl) ?_
    refine lv_imul hx hb d_M_makeTables_83 ?_
    refine lv_topi (fun v1 ev1 => ?_)
    obtain rfl : v1 = nI (256 * l9) := ev1.trans (pk_mul _ _)
    refine lv_bipush (v := nI 16) hx hb d_M_makeTables_84 (by decide) ?_
    refine lv_iload_n hx hb d_M_makeTables_86 rfl (lv_at hl 0 rfl) ?_
    refine lv_imul hx hb d_M_makeTables_87 ?_
    refine lv_topi (fun v2 ev2 => ?_)
    obtain rfl : v2 = nI (16 * i) := ev2.trans (pk_mul _ _)
    refine lv_iadd hx hb d_M_makeTables_88 ?_
    refine lv_topi (fun v3 ev3 => ?_)
    obtain rfl : v3 = nI ((256 * l9) + (16 * i)) := ev3.trans (nI_add _ _)
    refine lv_iload_n hx hb d_M_makeTables_89 rfl (lv_at hl 1 rfl) ?_
    refine lv_iadd hx hb d_M_makeTables_90 ?_
    refine lv_topi (fun v4 ev4 => ?_)
    obtain rfl : v4 = nI (((256 * l9) + (16 * i)) + b9) := ev4.trans (nI_add _ _)
    refine lv_aload_n hx hb d_M_makeTables_91 rfl (lv_at hl 3 rfl) ?_
    refine mp_get (C := R_M) (T := F_M) (N := 31) (v := .ref cu) hx hb hg i_M hown hK.va hI h_o rfl 11 (by decide) (hg _ q_815) (fun _ h9 => h9) rfl d_M_makeTables_92 ?_
    refine lv_aload_n hx hb d_M_makeTables_95 rfl (lv_at hl 3 rfl) ?_
    refine mp_get (C := R_M) (T := F_M) (N := 31) (v := .ref le) hx hb hg i_M hown hK.va hI h_o rfl 15 (by decide) (hg _ q_819) (fun _ h9 => h9) rfl d_M_makeTables_96 ?_
    refine lv_iload_n hx hb d_M_makeTables_99 rfl (lv_at hl 0 rfl) ?_
    refine mp_iald hx hb hK.va hI 0 h_le rfl (vp_in_nI (show i < 17 by omega) (by omega)) d_M_makeTables_100 ?_
    refine lv_topi (fun v5 ev5 => ?_)
    obtain rfl : v5 = nI (pN (lf i).1 (lf i).2.1 (lf i).2.2) := ev5.trans (by rw [nI_clamp (by omega), k1])
    refine mp_calli hI (va_runS (As := [.int (nI (pN (lf i).1 (lf i).2.1 (lf i).2.2))]) (rest := [.ref cu, .int (nI (((256 * l9) + (16 * i)) + b9)), .ref ta]) ⟨hx, hb, hml, hown, hg⟩ (c_M_cellOf l D g S _ (pN (lf i).1 (lf i).2.1 (lf i).2.2) (pN_lt (show (lf i).1 ≤ 9 by omega) (show (lf i).2.1 ≤ 9 by omega) (show (lf i).2.2 ≤ 9 by omega))) ⟨(callB_of 1 hg (wd_goodG q_983) rfl rfl rfl (hg _ q_5) (hg _ q_981) (by decide +kernel) ⟨Nat.le_trans (Nat.le_of_ble_eq_true rfl) hRf, Nat.le_trans (Nat.le_of_ble_eq_true rfl) hRl⟩), hg _ q_982⟩ (mp_pre hI hK [.int (nI (pN (lf i).1 (lf i).2.1 (lf i).2.2))]) rfl rfl hl.1 rfl (lv_room (Nat.le_of_ble_eq_true rfl)) d_M_makeTables_101 ⟨by omega, by omega⟩) (fun r9 S6 H7 locs p_8 hI => ?_)
    obtain ⟨er9, eS10⟩ := p_8
    rw [eS10] at hI
    have er9 : r9 = nI (clN (eN (pN (lf i).1 (lf i).2.1 (lf i).2.2) 0) (eN (pN (lf i).1 (lf i).2.1 (lf i).2.2) 1) (eN (pN (lf i).1 (lf i).2.1 (lf i).2.2) 2)) := er9
    subst er9
    refine lv_topi (fun v11 ev11 => ?_)
    obtain rfl : v11 = nI (cl3 (lf i)) := ev11.trans (by rw [pN_0 (show (lf i).1 ≤ 9 by omega) (show (lf i).2.1 ≤ 9 by omega) (show (lf i).2.2 ≤ 9 by omega), pN_1 (show (lf i).1 ≤ 9 by omega) (show (lf i).2.1 ≤ 9 by omega) (show (lf i).2.2 ≤ 9 by omega), pN_2 (show (lf i).1 ≤ 9 by omega) (show (lf i).2.1 ≤ 9 by omega) (show (lf i).2.2 ≤ 9 by omega)]; rfl)
    refine mp_iald hx hb hK.va hI 0 h_cu rfl (vp_in_nI (show cl3 (lf i) < 21952 by omega) (by omega)) d_M_makeTables_104 ?_
    refine lv_topi (fun v12 ev12 => ?_)
    obtain rfl : v12 = nI (CU (cl3 (lf i))).val := ev12.trans (by rw [nI_clamp (by omega)])
    refine mp_iast hx hb hK.va hI 0 h_ta rfl (vp_in_nI (show ((256 * l9) + (16 * i)) + b9 < 768 by omega) (by omega)) d_M_makeTables_105 (fun S13 H14 locs e_15 hI => ?_)
    have h_ta_o := h_ta
    have e_15 : S13 = va_up S ta (some (2009, .inl ((g 0), 768, .inl (upd (fun j => nI (TV j).val) (nI (((256 * l9) + (16 * i)) + b9)).toNatClampNeg (nI (CU (cl3 (lf i))).val))))) := e_15
    have h_o : S13 o = some (2000, .inr (10, [.int (nI nl), mv1, mv2, mv3, mv4, .int (nI n), .ref te, .ref tp, .ref tn, .ref hd, .ref hv9, .ref cu, mv12, mv13, .int (nI s9), .ref le, .ref ta, mv17, mv18, mv19, mv20, mv21, mv22, mv23, mv24, mv25, mv26, mv27, mv28, mv29, mv30])) := by rw [e_15]; exact mp_keep h_o h_ta (by decide)
    have h_cu : S13 cu = some (2007, .inl ((g 0), 21952, .inl (fun j => nI (CU j).val))) := by rw [e_15]; exact mp_keep h_cu h_ta (by decide)
    have h_te : S13 te = some (2002, .inl ((g 0), 12, .inl tf)) := by rw [e_15]; exact mp_keep h_te h_ta (by decide)
    have h_tp : S13 tp = some (2003, .inl ((g 0), 12000, .inl tpf)) := by rw [e_15]; exact mp_keep h_tp h_ta (by decide)
    have h_tn : S13 tn = some (2004, .inl ((g 0), 12000, .inl tnf)) := by rw [e_15]; exact mp_keep h_tn h_ta (by decide)
    have h_hd : S13 hd = some (2005, .inl ((g 0), 12, .inl hf)) := by rw [e_15]; exact mp_keep h_hd h_ta (by decide)
    have h_hv9 : S13 hv9 = some (2006, .inl ((g 0), 12, .inl hif)) := by rw [e_15]; exact mp_keep h_hv9 h_ta (by decide)
    have h_le : S13 le = some (2008, .inl ((g 0), 17, .inl (fun j => nI (LF j)))) := by rw [e_15]; exact mp_keep h_le h_ta (by decide)
    have h_ta : S13 ta = some (2009, .inl ((g 0), 768, .inl (upd (fun j => nI (TV j).val) (nI (((256 * l9) + (16 * i)) + b9)).toNatClampNeg (nI (CU (cl3 (lf i))).val)))) := by rw [e_15]; exact mp_us _ _ _
    have hfr : ∀ b t e9, B b = some (t, e9) → (t ≠ 2007) → (t ≠ 2009) → S13 b = some (t, e9) := fun b t e9 h9 k0 k1 => by rw [e_15]; exact mp_keep (hfr b t e9 h9 k0 k1) h_ta_o (by omega)
    rw [nI_clamp (by omega), nIv_up] at h_ta
    refine lv_iinc (v := nI (i + 1)) (lv' := [(3, .int (nI (i + 1))), (2, .int (nI b9)), (1, .int (nI l9)), (0, .ref o)]) hx hb d_M_makeTables_106 hl (k := 0) rfl (nI_1 _) (by decide) rfl (fun ls hl => ?_)
    refine lv_goto (tgt := 67) hx hb d_M_makeTables_109 (by decide) ?_
    exact ih (i + 1) (va_up TV (256 * l9 + 16 * i + b9) (CU (cl3 (lf i)))) S13 H14 locs ls (by omega) (tcI_up htc) h_o h_cu h_te h_tp h_tn h_hd h_hv9 h_le h_ta hfr hI (lv_sub hl [0, 1, 2, 3] rfl) kx
set_option maxHeartbeats 4000000 in
set_option maxRecDepth 100000 in
theorem lp_M_tab2 {p : Program} {l : Launch} {e : Env} {R : Room} {s : State} {m : MethodId} {args : Array Value} {below : List Frame} {meth : Method} {c : Code} {Q : State → Prop} {D : mp_G} {g : Nat → ClassId} {A : Nat → Prop} {cells slots : Nat} (hx : p.tables.exec = Jvm.exec) (hb : c.code = b_M_makeTables) (hml : c.maxLocals = 4) (hg : ∀ w ∈ gw, w.before args s = true) (hown : s.vm.findClass R_M = some m.cls) (hK : mp_K D classes (tys g) s) (hRf : 4 ≤ R.frames) (hRl : 92 ≤ R.locals) (hRc : cells ≤ R.cells) (hRs : slots ≤ R.slots) {B : mp_M} {o cu te tp tn hd hv9 le ta n nl s9 : Nat} {mv1 mv2 mv3 mv4 mv12 mv13 mv17 mv18 mv19 mv20 mv21 mv22 mv23 mv24 mv25 mv26 mv27 mv28 mv29 mv30 : Value} {tf tpf tnf hf hif : Nat → Int32} {h : Nat → m3} {z : Nat → Nat} {mo : Nat → Nat → m3} {co : Nat → Nat → fF} {z2 : Nat → Nat} {mo2 : Nat → Nat → m3} {co2 : Nat → Nat → fF} {ld : Nat → fF} {LF : Nat → Nat} {lf : Nat → m3} {l9 : Nat} (hM : lsM n h z mo co z2 mo2 co2 ld tf tpf tnf hf hif) (hs : s9 ≤ 16) (hnl : nl ≤ 3) (hlf : ∀ k, k < s9 → LF k = pN (lf k).1 (lf k).2.1 (lf k).2.2 ∧ ((lf k).1 ≤ 8 ∧ (lf k).2.1 ≤ 8 ∧ (lf k).2.2 ≤ 8) ∧ ¬ fi h (lf k) n < n) (hl9 : l9 < 3) : ∀ (k : Nat) (i : Nat) (TB : Nat → fF) (CU : Nat → fF) (S : mp_M) (H : Heap) (locs : List Loc) (ls : Array Slot), i + k = s9 → (mtI n h z mo co s9 lf l9 i TB) → (trn 21952 CU) → S o = some (2000, .inr (10, [.int (nI nl), mv1, mv2, mv3, mv4, .int (nI n), .ref te, .ref tp, .ref tn, .ref hd, .ref hv9, .ref cu, mv12, mv13, .int (nI s9), .ref le, .ref ta, mv17, mv18, mv19, mv20, mv21, mv22, mv23, mv24, mv25, mv26, mv27, mv28, mv29, mv30])) → S cu = some (2007, .inl ((g 0), 21952, .inl (fun j => nI (CU j).val))) → S te = some (2002, .inl ((g 0), 12, .inl tf)) → S tp = some (2003, .inl ((g 0), 12000, .inl tpf)) → S tn = some (2004, .inl ((g 0), 12000, .inl tnf)) → S hd = some (2005, .inl ((g 0), 12, .inl hf)) → S hv9 = some (2006, .inl ((g 0), 12, .inl hif)) → S le = some (2008, .inl ((g 0), 17, .inl (fun j => nI (LF j)))) → S ta = some (2009, .inl ((g 0), 768, .inl (fun j => nI (TB j).val))) → (∀ b t e9, B b = some (t, e9) → (t ≠ 2007) → (t ≠ 2009) → S b = some (t, e9)) → mp_I D classes A s.heap S H locs → lv_has ls 4 [(2, .int (nI i)), (1, .int (nI l9)), (0, .ref o)] → (∀ (TB : Nat → fF) (CU : Nat → fF) (S : mp_M) (H : Heap) (locs : List Loc) (ls : Array Slot), (mtI n h z mo co s9 lf l9 s9 TB) → (trn 21952 CU) → S o = some (2000, .inr (10, [.int (nI nl), mv1, mv2, mv3, mv4, .int (nI n), .ref te, .ref tp, .ref tn, .ref hd, .ref hv9, .ref cu, mv12, mv13, .int (nI s9), .ref le, .ref ta, mv17, mv18, mv19, mv20, mv21, mv22, mv23, mv24, mv25, mv26, mv27, mv28, mv29, mv30])) → S cu = some (2007, .inl ((g 0), 21952, .inl (fun j => nI (CU j).val))) → S te = some (2002, .inl ((g 0), 12, .inl tf)) → S tp = some (2003, .inl ((g 0), 12000, .inl tpf)) → S tn = some (2004, .inl ((g 0), 12000, .inl tnf)) → S hd = some (2005, .inl ((g 0), 12, .inl hf)) → S hv9 = some (2006, .inl ((g 0), 12, .inl hif)) → S le = some (2008, .inl ((g 0), 17, .inl (fun j => nI (LF j)))) → S ta = some (2009, .inl ((g 0), 768, .inl (fun j => nI (TB j).val))) → (∀ b t e9, B b = some (t, e9) → (t ≠ 2007) → (t ≠ 2009) → S b = some (t, e9)) → mp_I D classes A s.heap S H locs → lv_has ls 4 [(2, .int (nI s9)), (1, .int (nI l9)), (0, .ref o)] → W p l e R s m args below meth c H locs cells slots Q (F0 m 118 ls [])) → W p l e R s m args below meth c H locs cells slots Q (F0 m 12 ls []) := by
  intro k
  induction k with
  | zero =>
    intro i TB CU S H locs ls hi hmt tCU h_o h_cu h_te h_tp h_tn h_hd h_hv9 h_le h_ta hfr hI hl kx
    refine lv_iload_n hx hb d_M_makeTables_12 rfl (lv_at hl 0 rfl) ?_
    refine lv_aload_n hx hb d_M_makeTables_13 rfl (lv_at hl 2 rfl) ?_
    refine mp_get (C := R_M) (T := F_M) (N := 31) (v := .int (nI s9)) hx hb hg i_M hown hK.va hI h_o rfl 14 (by decide) (hg _ q_818) (fun _ h9 => h9) rfl d_M_makeTables_14 ?_
    refine lv_icmp_ge (tgt := 118) hx hb d_M_makeTables_17 (by decide) (fun _ => ?_) (fun h9 => absurd ((nI_leI (by omega) (by omega)).mpr (by omega)) h9)
    obtain rfl : i = s9 := by omega
    exact kx TB CU S H locs ls hmt tCU h_o h_cu h_te h_tp h_tn h_hd h_hv9 h_le h_ta hfr hI (lv_sub hl [0, 1, 2] rfl)
  | succ k ih =>
    intro i TB CU S H locs ls hi hmt tCU h_o h_cu h_te h_tp h_tn h_hd h_hv9 h_le h_ta hfr hI hl kx
    obtain ⟨k1, ⟨k2, k3, k4⟩, k5⟩ := hlf i (by omega)
    refine lv_iload_n hx hb d_M_makeTables_12 rfl (lv_at hl 0 rfl) ?_
    refine lv_aload_n hx hb d_M_makeTables_13 rfl (lv_at hl 2 rfl) ?_
    refine mp_get (C := R_M) (T := F_M) (N := 31) (v := .int (nI s9)) hx hb hg i_M hown hK.va hI h_o rfl 14 (by decide) (hg _ q_818) (fun _ h9 => h9) rfl d_M_makeTables_14 ?_
    refine lv_icmp_ge (tgt := 118) hx hb d_M_makeTables_17 (by decide) (fun h9 => absurd h9 (by rw [nI_leI (by omega) (by omega)]; omega)) (fun _ => ?_)
    refine lv_aload_n hx hb d_M_makeTables_20 rfl (lv_at hl 2 rfl) ?_
    refine mp_callv hI (va_runV (As := []) (rest := []) ⟨hx, hb, hml, hown, hg⟩ (c_M_empty l D g S _ o cu (.int (nI nl)) mv1 mv2 mv3 mv4 (.int (nI n)) (.ref te) (.ref tp) (.ref tn) (.ref hd) (.ref hv9) mv12 mv13 (.int (nI s9)) (.ref le) (.ref ta) mv17 mv18 mv19 mv20 mv21 mv22 mv23 mv24 mv25 mv26 mv27 mv28 mv29 mv30 CU h_o h_cu) ⟨(callB_of 0 hg (wd_goodG q_977) rfl rfl rfl (hg _ q_5) (hg _ q_974) (by decide +kernel) ⟨Nat.le_trans (Nat.le_of_ble_eq_true rfl) hRf, Nat.le_trans (Nat.le_of_ble_eq_true rfl) hRl⟩), hg _ q_976, hg _ qs_30⟩ (mp_preV (C := R_M) (T := F_M) hI hK h_o rfl []) rfl rfl hl.1 rfl (lv_room (Nat.le_of_ble_eq_true rfl)) d_M_makeTables_21 ⟨by omega, by omega⟩) (fun S1 H2 locs p_3 hI => ?_)
    obtain ⟨q_cu, fq⟩ := p_3
    rw [mgF_t (zR_t 21952) tCU] at q_cu
    have h_o : S1 o = some (2000, .inr (10, [.int (nI nl), mv1, mv2, mv3, mv4, .int (nI n), .ref te, .ref tp, .ref tn, .ref hd, .ref hv9, .ref cu, mv12, mv13, .int (nI s9), .ref le, .ref ta, mv17, mv18, mv19, mv20, mv21, mv22, mv23, mv24, mv25, mv26, mv27, mv28, mv29, mv30])) := fq o _ _ h_o (by omega)
    have h_te : S1 te = some (2002, .inl ((g 0), 12, .inl tf)) := fq te _ _ h_te (by omega)
    have h_tp : S1 tp = some (2003, .inl ((g 0), 12000, .inl tpf)) := fq tp _ _ h_tp (by omega)
    have h_tn : S1 tn = some (2004, .inl ((g 0), 12000, .inl tnf)) := fq tn _ _ h_tn (by omega)
    have h_hd : S1 hd = some (2005, .inl ((g 0), 12, .inl hf)) := fq hd _ _ h_hd (by omega)
    have h_hv9 : S1 hv9 = some (2006, .inl ((g 0), 12, .inl hif)) := fq hv9 _ _ h_hv9 (by omega)
    have h_le : S1 le = some (2008, .inl ((g 0), 17, .inl (fun j => nI (LF j)))) := fq le _ _ h_le (by omega)
    have h_ta : S1 ta = some (2009, .inl ((g 0), 768, .inl (fun j => nI (TB j).val))) := fq ta _ _ h_ta (by omega)
    have hfr : ∀ b t e9, B b = some (t, e9) → (t ≠ 2007) → (t ≠ 2009) → S1 b = some (t, e9) := fun b t e9 h9 k0 k1 => by have h8 := hfr b t e9 h9 k0 k1; exact fq b _ _ h8 (by omega)
    have h_cu := q_cu
    refine lv_aload_n hx hb d_M_makeTables_24 rfl (lv_at hl 2 rfl) ?_
    refine mp_get (C := R_M) (T := F_M) (N := 31) (v := .ref cu) hx hb hg i_M hown hK.va hI h_o rfl 11 (by decide) (hg _ q_815) (fun _ h9 => h9) rfl d_M_makeTables_25 ?_
    refine lv_aload_n hx hb d_M_makeTables_28 rfl (lv_at hl 2 rfl) ?_
    refine mp_get (C := R_M) (T := F_M) (N := 31) (v := .ref le) hx hb hg i_M hown hK.va hI h_o rfl 15 (by decide) (hg _ q_819) (fun _ h9 => h9) rfl d_M_makeTables_29 ?_
    refine lv_iload_n hx hb d_M_makeTables_32 rfl (lv_at hl 0 rfl) ?_
    refine mp_iald hx hb hK.va hI 0 h_le rfl (vp_in_nI (show i < 17 by omega) (by omega)) d_M_makeTables_33 ?_
    refine lv_topi (fun v5 ev5 => ?_)
    obtain rfl : v5 = nI (pN (lf i).1 (lf i).2.1 (lf i).2.2) := ev5.trans (by rw [nI_clamp (by omega), k1])
    refine mp_calli hI (va_runS (As := [.int (nI (pN (lf i).1 (lf i).2.1 (lf i).2.2))]) (rest := [.ref cu]) ⟨hx, hb, hml, hown, hg⟩ (c_M_cellOf l D g S1 _ (pN (lf i).1 (lf i).2.1 (lf i).2.2) (pN_lt (show (lf i).1 ≤ 9 by omega) (show (lf i).2.1 ≤ 9 by omega) (show (lf i).2.2 ≤ 9 by omega))) ⟨(callB_of 1 hg (wd_goodG q_983) rfl rfl rfl (hg _ q_5) (hg _ q_981) (by decide +kernel) ⟨Nat.le_trans (Nat.le_of_ble_eq_true rfl) hRf, Nat.le_trans (Nat.le_of_ble_eq_true rfl) hRl⟩), hg _ q_982⟩ (mp_pre hI hK [.int (nI (pN (lf i).1 (lf i).2.1 (lf i).2.2))]) rfl rfl hl.1 rfl (lv_room (Nat.le_of_ble_eq_true rfl)) d_M_makeTables_34 ⟨by omega, by omega⟩) (fun r9 S6 H7 locs p_8 hI => ?_)
    obtain ⟨er9, eS10⟩ := p_8
    rw [eS10] at hI
    have er9 : r9 = nI (clN (eN (pN (lf i).1 (lf i).2.1 (lf i).2.2) 0) (eN (pN (lf i).1 (lf i).2.1 (lf i).2.2) 1) (eN (pN (lf i).1 (lf i).2.1 (lf i).2.2) 2)) := er9
    subst er9
    refine lv_topi (fun v11 ev11 => ?_)
    obtain rfl : v11 = nI (cl3 (lf i)) := ev11.trans (by rw [pN_0 (show (lf i).1 ≤ 9 by omega) (show (lf i).2.1 ≤ 9 by omega) (show (lf i).2.2 ≤ 9 by omega), pN_1 (show (lf i).1 ≤ 9 by omega) (show (lf i).2.1 ≤ 9 by omega) (show (lf i).2.2 ≤ 9 by omega), pN_2 (show (lf i).1 ≤ 9 by omega) (show (lf i).2.1 ≤ 9 by omega) (show (lf i).2.2 ≤ 9 by omega)]; rfl)
    rcases (show l9 = 0 ∨ l9 = 1 ∨ l9 = 2 by omega) with rfl | rfl | rfl
    · have hu9 := xl_9 (l := 0) (u := lf i) ⟨k2, k3, k4⟩
      have hcl := cl3_lt (u := (ad3 (xlT 0) (lf i))) (by omega)
      refine lv_iload_n hx hb d_M_makeTables_37 rfl (lv_at hl 1 rfl) ?_
      refine lv_if_ne (tgt := 45) hx hb d_M_makeTables_38 (by decide) (fun h9 => absurd h9 (by decide)) (fun _ => ?_)
      refine lv_iconst (v := nI 1) hx hb d_M_makeTables_41 (by decide) ?_
      refine lv_goto (tgt := 58) hx hb d_M_makeTables_42 (by decide) ?_
      refine lv_iadd hx hb d_M_makeTables_58 ?_
      refine lv_topi (fun v12 ev12 => ?_)
      obtain rfl : v12 = nI ((cl3 (lf i)) + 1) := ev12.trans (nI_add _ _)
      refine lv_topi (fun v13 ev13 => ?_)
      obtain rfl : v13 = nI (cl3 (ad3 (xlT 0) (lf i))) := ev13.trans (congrArg nI (cl3_ad (xlT 0) (lf i)))
      refine lv_iconst (v := nI 1) hx hb d_M_makeTables_59 (by decide) ?_
      refine mp_iast hx hb hK.va hI 0 h_cu rfl (vp_in_nI (show cl3 (ad3 (xlT 0) (lf i)) < 21952 by omega) (by omega)) d_M_makeTables_60 (fun S14 H15 locs e_16 hI => ?_)
      have h_cu_o := h_cu
      have e_16 : S14 = va_up S1 cu (some (2007, .inl ((g 0), 21952, .inl (upd (fun j => nI (zR j).val) (nI (cl3 (ad3 (xlT 0) (lf i)))).toNatClampNeg (nI 1))))) := e_16
      have h_o : S14 o = some (2000, .inr (10, [.int (nI nl), mv1, mv2, mv3, mv4, .int (nI n), .ref te, .ref tp, .ref tn, .ref hd, .ref hv9, .ref cu, mv12, mv13, .int (nI s9), .ref le, .ref ta, mv17, mv18, mv19, mv20, mv21, mv22, mv23, mv24, mv25, mv26, mv27, mv28, mv29, mv30])) := by rw [e_16]; exact mp_keep h_o h_cu (by decide)
      have h_te : S14 te = some (2002, .inl ((g 0), 12, .inl tf)) := by rw [e_16]; exact mp_keep h_te h_cu (by decide)
      have h_tp : S14 tp = some (2003, .inl ((g 0), 12000, .inl tpf)) := by rw [e_16]; exact mp_keep h_tp h_cu (by decide)
      have h_tn : S14 tn = some (2004, .inl ((g 0), 12000, .inl tnf)) := by rw [e_16]; exact mp_keep h_tn h_cu (by decide)
      have h_hd : S14 hd = some (2005, .inl ((g 0), 12, .inl hf)) := by rw [e_16]; exact mp_keep h_hd h_cu (by decide)
      have h_hv9 : S14 hv9 = some (2006, .inl ((g 0), 12, .inl hif)) := by rw [e_16]; exact mp_keep h_hv9 h_cu (by decide)
      have h_le : S14 le = some (2008, .inl ((g 0), 17, .inl (fun j => nI (LF j)))) := by rw [e_16]; exact mp_keep h_le h_cu (by decide)
      have h_ta : S14 ta = some (2009, .inl ((g 0), 768, .inl (fun j => nI (TB j).val))) := by rw [e_16]; exact mp_keep h_ta h_cu (by decide)
      have h_cu : S14 cu = some (2007, .inl ((g 0), 21952, .inl (upd (fun j => nI (zR j).val) (nI (cl3 (ad3 (xlT 0) (lf i)))).toNatClampNeg (nI 1)))) := by rw [e_16]; exact mp_us _ _ _
      have hfr : ∀ b t e9, B b = some (t, e9) → (t ≠ 2007) → (t ≠ 2009) → S14 b = some (t, e9) := fun b t e9 h9 k0 k1 => by rw [e_16]; exact mp_keep (hfr b t e9 h9 k0 k1) h_cu_o (by omega)
      have h_cu := h_cu
      rw [nI_clamp (by omega), nIv_up1] at h_cu
      refine lv_aload_n hx hb d_M_makeTables_61 rfl (lv_at hl 2 rfl) ?_
      refine mp_callv hI (va_runV (As := []) (rest := []) ⟨hx, hb, hml, hown, hg⟩ (c_M_reduce l D g S14 _ o cu te tp tn hd hv9 n (.int (nI nl)) mv1 mv2 mv3 mv4 mv12 mv13 (.int (nI s9)) (.ref le) (.ref ta) mv17 mv18 mv19 mv20 mv21 mv22 mv23 mv24 mv25 mv26 mv27 mv28 mv29 mv30 tf tpf tnf hf hif h z mo co z2 mo2 co2 ld (va_up zR (cl3 (ad3 (xlT 0) (lf i))) 1) h_o h_cu h_te h_tp h_tn h_hd h_hv9 hM) ⟨(callB_of 0 hg (wd_goodG q_994) rfl rfl rfl (hg _ q_5) (hg _ q_991) (by decide +kernel) ⟨Nat.le_trans (Nat.le_of_ble_eq_true rfl) hRf, Nat.le_trans (Nat.le_of_ble_eq_true rfl) hRl⟩), hg _ q_993, hg _ qs_32⟩ (mp_preV (C := R_M) (T := F_M) hI hK h_o rfl []) rfl rfl hl.1 rfl (lv_room (Nat.le_of_ble_eq_true rfl)) d_M_makeTables_62 ⟨by omega, by omega⟩) (fun S17 H18 locs p_19 hI => ?_)
      obtain ⟨CU1, q_cu, hr1, hr2, fq⟩ := p_19
      have h_o : S17 o = some (2000, .inr (10, [.int (nI nl), mv1, mv2, mv3, mv4, .int (nI n), .ref te, .ref tp, .ref tn, .ref hd, .ref hv9, .ref cu, mv12, mv13, .int (nI s9), .ref le, .ref ta, mv17, mv18, mv19, mv20, mv21, mv22, mv23, mv24, mv25, mv26, mv27, mv28, mv29, mv30])) := fq o _ _ h_o (by omega)
      have h_te : S17 te = some (2002, .inl ((g 0), 12, .inl tf)) := fq te _ _ h_te (by omega)
      have h_tp : S17 tp = some (2003, .inl ((g 0), 12000, .inl tpf)) := fq tp _ _ h_tp (by omega)
      have h_tn : S17 tn = some (2004, .inl ((g 0), 12000, .inl tnf)) := fq tn _ _ h_tn (by omega)
      have h_hd : S17 hd = some (2005, .inl ((g 0), 12, .inl hf)) := fq hd _ _ h_hd (by omega)
      have h_hv9 : S17 hv9 = some (2006, .inl ((g 0), 12, .inl hif)) := fq hv9 _ _ h_hv9 (by omega)
      have h_le : S17 le = some (2008, .inl ((g 0), 17, .inl (fun j => nI (LF j)))) := fq le _ _ h_le (by omega)
      have h_ta : S17 ta = some (2009, .inl ((g 0), 768, .inl (fun j => nI (TB j).val))) := fq ta _ _ h_ta (by omega)
      have hfr : ∀ b t e9, B b = some (t, e9) → (t ≠ 2007) → (t ≠ 2009) → S17 b = some (t, e9) := fun b t e9 h9 k0 k1 => by have h8 := hfr b t e9 h9 k0 k1; exact fq b _ _ h8 (by omega)
      have h_cu := q_cu
      have tC : trn 21952 CU1 := fun j hj => by rw [hr2 j (fun q hq w9 => by have := cl3_lt (Ep28 hq); omega)]; exact up_t hu9 j hj
      refine lv_iconst (v := nI 0) hx hb d_M_makeTables_65 (by decide) ?_
      refine lv_istore_n (lv' := [(3, .int (nI 0)), (2, .int (nI i)), (1, .int (nI 0)), (0, .ref o)]) hx hb d_M_makeTables_66 rfl hl (by decide) rfl (fun ls hl => ?_)
      refine lp_M_tab3 (B := B) (o := o) (cu := cu) (te := te) (tp := tp) (tn := tn) (hd := hd) (hv9 := hv9) (le := le) (ta := ta) (n := n) (nl := nl) (s9 := s9) (mv1 := mv1) (mv2 := mv2) (mv3 := mv3) (mv4 := mv4) (mv12 := mv12) (mv13 := mv13) (mv17 := mv17) (mv18 := mv18) (mv19 := mv19) (mv20 := mv20) (mv21 := mv21) (mv22 := mv22) (mv23 := mv23) (mv24 := mv24) (mv25 := mv25) (mv26 := mv26) (mv27 := mv27) (mv28 := mv28) (mv29 := mv29) (mv30 := mv30) (tf := tf) (tpf := tpf) (tnf := tnf) (hf := hf) (hif := hif) (h := h) (z := z) (mo := mo) (co := co) (z2 := z2) (mo2 := mo2) (co2 := co2) (ld := ld) (LF := LF) (lf := lf) (l9 := 0) (b9 := i) (CU := CU1) (TB := TB) hx hb hml hg hown hK (Nat.le_trans (Nat.le_of_ble_eq_true rfl) hRf) (Nat.le_trans (Nat.le_of_ble_eq_true rfl) hRl) (by omega) (by omega) hM hs hnl hlf (by decide) (by omega) s9 0 TB S17 H18 _ ls (by omega) (tcI_0 _ _ _ _) h_o h_cu h_te h_tp h_tn h_hd h_hv9 h_le h_ta hfr hI (lv_sub hl [0, 1, 2, 3] rfl) (fun TV S21 H22 locs ls htc j_o j_cu j_te j_tp j_tn j_hd j_hv9 j_le j_ta hfr hI hl => ?_)
      refine lv_iinc (v := nI (i + 1)) (lv' := [(2, .int (nI (i + 1))), (3, .int (nI s9)), (1, .int (nI 0)), (0, .ref o)]) hx hb d_M_makeTables_112 hl (k := 1) rfl (nI_1 _) (by decide) rfl (fun ls hl => ?_)
      refine lv_goto (tgt := 12) hx hb d_M_makeTables_115 (by decide) ?_
      exact ih (i + 1) TV CU1 S21 H22 locs ls (by omega) (mtI_up hmt hs (by omega) htc (fun j hj => mt_v hM.1 hu9 (hlf j hj).2.1 (hlf j hj).2.2 hr1)) tC j_o j_cu j_te j_tp j_tn j_hd j_hv9 j_le j_ta hfr hI (lv_sub hl [0, 2, 3] rfl) kx
    · have hu9 := xl_9 (l := 1) (u := lf i) ⟨k2, k3, k4⟩
      have hcl := cl3_lt (u := (ad3 (xlT 1) (lf i))) (by omega)
      refine lv_iload_n hx hb d_M_makeTables_37 rfl (lv_at hl 1 rfl) ?_
      refine lv_if_ne (tgt := 45) hx hb d_M_makeTables_38 (by decide) (fun _ => ?_) (fun h9 => absurd h9 (by decide))
      refine lv_iload_n hx hb d_M_makeTables_45 rfl (lv_at hl 1 rfl) ?_
      refine lv_iconst (v := nI 1) hx hb d_M_makeTables_46 (by decide) ?_
      refine lv_icmp_ne (tgt := 55) hx hb d_M_makeTables_47 (by decide) (fun h9 => absurd h9 (by decide)) (fun _ => ?_)
      refine lv_bipush (v := nI 28) hx hb d_M_makeTables_50 (by decide) ?_
      refine lv_goto (tgt := 58) hx hb d_M_makeTables_52 (by decide) ?_
      refine lv_iadd hx hb d_M_makeTables_58 ?_
      refine lv_topi (fun v23 ev23 => ?_)
      obtain rfl : v23 = nI ((cl3 (lf i)) + 28) := ev23.trans (nI_add _ _)
      refine lv_topi (fun v24 ev24 => ?_)
      obtain rfl : v24 = nI (cl3 (ad3 (xlT 1) (lf i))) := ev24.trans (congrArg nI (cl3_ad (xlT 1) (lf i)))
      refine lv_iconst (v := nI 1) hx hb d_M_makeTables_59 (by decide) ?_
      refine mp_iast hx hb hK.va hI 0 h_cu rfl (vp_in_nI (show cl3 (ad3 (xlT 1) (lf i)) < 21952 by omega) (by omega)) d_M_makeTables_60 (fun S25 H26 locs e_27 hI => ?_)
      have h_cu_o := h_cu
      have e_27 : S25 = va_up S1 cu (some (2007, .inl ((g 0), 21952, .inl (upd (fun j => nI (zR j).val) (nI (cl3 (ad3 (xlT 1) (lf i)))).toNatClampNeg (nI 1))))) := e_27
      have h_o : S25 o = some (2000, .inr (10, [.int (nI nl), mv1, mv2, mv3, mv4, .int (nI n), .ref te, .ref tp, .ref tn, .ref hd, .ref hv9, .ref cu, mv12, mv13, .int (nI s9), .ref le, .ref ta, mv17, mv18, mv19, mv20, mv21, mv22, mv23, mv24, mv25, mv26, mv27, mv28, mv29, mv30])) := by rw [e_27]; exact mp_keep h_o h_cu (by decide)
      have h_te : S25 te = some (2002, .inl ((g 0), 12, .inl tf)) := by rw [e_27]; exact mp_keep h_te h_cu (by decide)
      have h_tp : S25 tp = some (2003, .inl ((g 0), 12000, .inl tpf)) := by rw [e_27]; exact mp_keep h_tp h_cu (by decide)
      have h_tn : S25 tn = some (2004, .inl ((g 0), 12000, .inl tnf)) := by rw [e_27]; exact mp_keep h_tn h_cu (by decide)
      have h_hd : S25 hd = some (2005, .inl ((g 0), 12, .inl hf)) := by rw [e_27]; exact mp_keep h_hd h_cu (by decide)
      have h_hv9 : S25 hv9 = some (2006, .inl ((g 0), 12, .inl hif)) := by rw [e_27]; exact mp_keep h_hv9 h_cu (by decide)
      have h_le : S25 le = some (2008, .inl ((g 0), 17, .inl (fun j => nI (LF j)))) := by rw [e_27]; exact mp_keep h_le h_cu (by decide)
      have h_ta : S25 ta = some (2009, .inl ((g 0), 768, .inl (fun j => nI (TB j).val))) := by rw [e_27]; exact mp_keep h_ta h_cu (by decide)
      have h_cu : S25 cu = some (2007, .inl ((g 0), 21952, .inl (upd (fun j => nI (zR j).val) (nI (cl3 (ad3 (xlT 1) (lf i)))).toNatClampNeg (nI 1)))) := by rw [e_27]; exact mp_us _ _ _
      have hfr : ∀ b t e9, B b = some (t, e9) → (t ≠ 2007) → (t ≠ 2009) → S25 b = some (t, e9) := fun b t e9 h9 k0 k1 => by rw [e_27]; exact mp_keep (hfr b t e9 h9 k0 k1) h_cu_o (by omega)
      have h_cu := h_cu
      rw [nI_clamp (by omega), nIv_up1] at h_cu
      refine lv_aload_n hx hb d_M_makeTables_61 rfl (lv_at hl 2 rfl) ?_
      refine mp_callv hI (va_runV (As := []) (rest := []) ⟨hx, hb, hml, hown, hg⟩ (c_M_reduce l D g S25 _ o cu te tp tn hd hv9 n (.int (nI nl)) mv1 mv2 mv3 mv4 mv12 mv13 (.int (nI s9)) (.ref le) (.ref ta) mv17 mv18 mv19 mv20 mv21 mv22 mv23 mv24 mv25 mv26 mv27 mv28 mv29 mv30 tf tpf tnf hf hif h z mo co z2 mo2 co2 ld (va_up zR (cl3 (ad3 (xlT 1) (lf i))) 1) h_o h_cu h_te h_tp h_tn h_hd h_hv9 hM) ⟨(callB_of 0 hg (wd_goodG q_994) rfl rfl rfl (hg _ q_5) (hg _ q_991) (by decide +kernel) ⟨Nat.le_trans (Nat.le_of_ble_eq_true rfl) hRf, Nat.le_trans (Nat.le_of_ble_eq_true rfl) hRl⟩), hg _ q_993, hg _ qs_32⟩ (mp_preV (C := R_M) (T := F_M) hI hK h_o rfl []) rfl rfl hl.1 rfl (lv_room (Nat.le_of_ble_eq_true rfl)) d_M_makeTables_62 ⟨by omega, by omega⟩) (fun S28 H29 locs p_30 hI => ?_)
      obtain ⟨CU1, q_cu, hr1, hr2, fq⟩ := p_30
      have h_o : S28 o = some (2000, .inr (10, [.int (nI nl), mv1, mv2, mv3, mv4, .int (nI n), .ref te, .ref tp, .ref tn, .ref hd, .ref hv9, .ref cu, mv12, mv13, .int (nI s9), .ref le, .ref ta, mv17, mv18, mv19, mv20, mv21, mv22, mv23, mv24, mv25, mv26, mv27, mv28, mv29, mv30])) := fq o _ _ h_o (by omega)
      have h_te : S28 te = some (2002, .inl ((g 0), 12, .inl tf)) := fq te _ _ h_te (by omega)
      have h_tp : S28 tp = some (2003, .inl ((g 0), 12000, .inl tpf)) := fq tp _ _ h_tp (by omega)
      have h_tn : S28 tn = some (2004, .inl ((g 0), 12000, .inl tnf)) := fq tn _ _ h_tn (by omega)
      have h_hd : S28 hd = some (2005, .inl ((g 0), 12, .inl hf)) := fq hd _ _ h_hd (by omega)
      have h_hv9 : S28 hv9 = some (2006, .inl ((g 0), 12, .inl hif)) := fq hv9 _ _ h_hv9 (by omega)
      have h_le : S28 le = some (2008, .inl ((g 0), 17, .inl (fun j => nI (LF j)))) := fq le _ _ h_le (by omega)
      have h_ta : S28 ta = some (2009, .inl ((g 0), 768, .inl (fun j => nI (TB j).val))) := fq ta _ _ h_ta (by omega)
      have hfr : ∀ b t e9, B b = some (t, e9) → (t ≠ 2007) → (t ≠ 2009) → S28 b = some (t, e9) := fun b t e9 h9 k0 k1 => by have h8 := hfr b t e9 h9 k0 k1; exact fq b _ _ h8 (by omega)
      have h_cu := q_cu
      have tC : trn 21952 CU1 := fun j hj => by rw [hr2 j (fun q hq w9 => by have := cl3_lt (Ep28 hq); omega)]; exact up_t hu9 j hj
      refine lv_iconst (v := nI 0) hx hb d_M_makeTables_65 (by decide) ?_
      refine lv_istore_n (lv' := [(3, .int (nI 0)), (2, .int (nI i)), (1, .int (nI 1)), (0, .ref o)]) hx hb d_M_makeTables_66 rfl hl (by decide) rfl (fun ls hl => ?_)
      refine lp_M_tab3 (B := B) (o := o) (cu := cu) (te := te) (tp := tp) (tn := tn) (hd := hd) (hv9 := hv9) (le := le) (ta := ta) (n := n) (nl := nl) (s9 := s9) (mv1 := mv1) (mv2 := mv2) (mv3 := mv3) (mv4 := mv4) (mv12 := mv12) (mv13 := mv13) (mv17 := mv17) (mv18 := mv18) (mv19 := mv19) (mv20 := mv20) (mv21 := mv21) (mv22 := mv22) (mv23 := mv23) (mv24 := mv24) (mv25 := mv25) (mv26 := mv26) (mv27 := mv27) (mv28 := mv28) (mv29 := mv29) (mv30 := mv30) (tf := tf) (tpf := tpf) (tnf := tnf) (hf := hf) (hif := hif) (h := h) (z := z) (mo := mo) (co := co) (z2 := z2) (mo2 := mo2) (co2 := co2) (ld := ld) (LF := LF) (lf := lf) (l9 := 1) (b9 := i) (CU := CU1) (TB := TB) hx hb hml hg hown hK (Nat.le_trans (Nat.le_of_ble_eq_true rfl) hRf) (Nat.le_trans (Nat.le_of_ble_eq_true rfl) hRl) (by omega) (by omega) hM hs hnl hlf (by decide) (by omega) s9 0 TB S28 H29 _ ls (by omega) (tcI_0 _ _ _ _) h_o h_cu h_te h_tp h_tn h_hd h_hv9 h_le h_ta hfr hI (lv_sub hl [0, 1, 2, 3] rfl) (fun TV S32 H33 locs ls htc j_o j_cu j_te j_tp j_tn j_hd j_hv9 j_le j_ta hfr hI hl => ?_)
      refine lv_iinc (v := nI (i + 1)) (lv' := [(2, .int (nI (i + 1))), (3, .int (nI s9)), (1, .int (nI 1)), (0, .ref o)]) hx hb d_M_makeTables_112 hl (k := 1) rfl (nI_1 _) (by decide) rfl (fun ls hl => ?_)
      refine lv_goto (tgt := 12) hx hb d_M_makeTables_115 (by decide) ?_
      exact ih (i + 1) TV CU1 S32 H33 locs ls (by omega) (mtI_up hmt hs (by omega) htc (fun j hj => mt_v hM.1 hu9 (hlf j hj).2.1 (hlf j hj).2.2 hr1)) tC j_o j_cu j_te j_tp j_tn j_hd j_hv9 j_le j_ta hfr hI (lv_sub hl [0, 2, 3] rfl) kx
    · have hu9 := xl_9 (l := 2) (u := lf i) ⟨k2, k3, k4⟩
      have hcl := cl3_lt (u := (ad3 (xlT 2) (lf i))) (by omega)
      refine lv_iload_n hx hb d_M_makeTables_37 rfl (lv_at hl 1 rfl) ?_
      refine lv_if_ne (tgt := 45) hx hb d_M_makeTables_38 (by decide) (fun _ => ?_) (fun h9 => absurd h9 (by decide))
      refine lv_iload_n hx hb d_M_makeTables_45 rfl (lv_at hl 1 rfl) ?_
      refine lv_iconst (v := nI 1) hx hb d_M_makeTables_46 (by decide) ?_
      refine lv_icmp_ne (tgt := 55) hx hb d_M_makeTables_47 (by decide) (fun _ => ?_) (fun h9 => absurd h9 (by decide))
      refine lv_sipush (v := nI 784) hx hb d_M_makeTables_55 (by decide) ?_
      refine lv_iadd hx hb d_M_makeTables_58 ?_
      refine lv_topi (fun v34 ev34 => ?_)
      obtain rfl : v34 = nI ((cl3 (lf i)) + 784) := ev34.trans (nI_add _ _)
      refine lv_topi (fun v35 ev35 => ?_)
      obtain rfl : v35 = nI (cl3 (ad3 (xlT 2) (lf i))) := ev35.trans (congrArg nI (cl3_ad (xlT 2) (lf i)))
      refine lv_iconst (v := nI 1) hx hb d_M_makeTables_59 (by decide) ?_
      refine mp_iast hx hb hK.va hI 0 h_cu rfl (vp_in_nI (show cl3 (ad3 (xlT 2) (lf i)) < 21952 by omega) (by omega)) d_M_makeTables_60 (fun S36 H37 locs e_38 hI => ?_)
      have h_cu_o := h_cu
      have e_38 : S36 = va_up S1 cu (some (2007, .inl ((g 0), 21952, .inl (upd (fun j => nI (zR j).val) (nI (cl3 (ad3 (xlT 2) (lf i)))).toNatClampNeg (nI 1))))) := e_38
      have h_o : S36 o = some (2000, .inr (10, [.int (nI nl), mv1, mv2, mv3, mv4, .int (nI n), .ref te, .ref tp, .ref tn, .ref hd, .ref hv9, .ref cu, mv12, mv13, .int (nI s9), .ref le, .ref ta, mv17, mv18, mv19, mv20, mv21, mv22, mv23, mv24, mv25, mv26, mv27, mv28, mv29, mv30])) := by rw [e_38]; exact mp_keep h_o h_cu (by decide)
      have h_te : S36 te = some (2002, .inl ((g 0), 12, .inl tf)) := by rw [e_38]; exact mp_keep h_te h_cu (by decide)
      have h_tp : S36 tp = some (2003, .inl ((g 0), 12000, .inl tpf)) := by rw [e_38]; exact mp_keep h_tp h_cu (by decide)
      have h_tn : S36 tn = some (2004, .inl ((g 0), 12000, .inl tnf)) := by rw [e_38]; exact mp_keep h_tn h_cu (by decide)
      have h_hd : S36 hd = some (2005, .inl ((g 0), 12, .inl hf)) := by rw [e_38]; exact mp_keep h_hd h_cu (by decide)
      have h_hv9 : S36 hv9 = some (2006, .inl ((g 0), 12, .inl hif)) := by rw [e_38]; exact mp_keep h_hv9 h_cu (by decide)
      have h_le : S36 le = some (2008, .inl ((g 0), 17, .inl (fun j => nI (LF j)))) := by rw [e_38]; exact mp_keep h_le h_cu (by decide)
      have h_ta : S36 ta = some (2009, .inl ((g 0), 768, .inl (fun j => nI (TB j).val))) := by rw [e_38]; exact mp_keep h_ta h_cu (by decide)
      have h_cu : S36 cu = some (2007, .inl ((g 0), 21952, .inl (upd (fun j => nI (zR j).val) (nI (cl3 (ad3 (xlT 2) (lf i)))).toNatClampNeg (nI 1)))) := by rw [e_38]; exact mp_us _ _ _
      have hfr : ∀ b t e9, B b = some (t, e9) → (t ≠ 2007) → (t ≠ 2009) → S36 b = some (t, e9) := fun b t e9 h9 k0 k1 => by rw [e_38]; exact mp_keep (hfr b t e9 h9 k0 k1) h_cu_o (by omega)
      have h_cu := h_cu
      rw [nI_clamp (by omega), nIv_up1] at h_cu
      refine lv_aload_n hx hb d_M_makeTables_61 rfl (lv_at hl 2 rfl) ?_
      refine mp_callv hI (va_runV (As := []) (rest := []) ⟨hx, hb, hml, hown, hg⟩ (c_M_reduce l D g S36 _ o cu te tp tn hd hv9 n (.int (nI nl)) mv1 mv2 mv3 mv4 mv12 mv13 (.int (nI s9)) (.ref le) (.ref ta) mv17 mv18 mv19 mv20 mv21 mv22 mv23 mv24 mv25 mv26 mv27 mv28 mv29 mv30 tf tpf tnf hf hif h z mo co z2 mo2 co2 ld (va_up zR (cl3 (ad3 (xlT 2) (lf i))) 1) h_o h_cu h_te h_tp h_tn h_hd h_hv9 hM) ⟨(callB_of 0 hg (wd_goodG q_994) rfl rfl rfl (hg _ q_5) (hg _ q_991) (by decide +kernel) ⟨Nat.le_trans (Nat.le_of_ble_eq_true rfl) hRf, Nat.le_trans (Nat.le_of_ble_eq_true rfl) hRl⟩), hg _ q_993, hg _ qs_32⟩ (mp_preV (C := R_M) (T := F_M) hI hK h_o rfl []) rfl rfl hl.1 rfl (lv_room (Nat.le_of_ble_eq_true rfl)) d_M_makeTables_62 ⟨by omega, by omega⟩) (fun S39 H40 locs p_41 hI => ?_)
      obtain ⟨CU1, q_cu, hr1, hr2, fq⟩ := p_41
      have h_o : S39 o = some (2000, .inr (10, [.int (nI nl), mv1, mv2, mv3, mv4, .int (nI n), .ref te, .ref tp, .ref tn, .ref hd, .ref hv9, .ref cu, mv12, mv13, .int (nI s9), .ref le, .ref ta, mv17, mv18, mv19, mv20, mv21, mv22, mv23, mv24, mv25, mv26, mv27, mv28, mv29, mv30])) := fq o _ _ h_o (by omega)
      have h_te : S39 te = some (2002, .inl ((g 0), 12, .inl tf)) := fq te _ _ h_te (by omega)
      have h_tp : S39 tp = some (2003, .inl ((g 0), 12000, .inl tpf)) := fq tp _ _ h_tp (by omega)
      have h_tn : S39 tn = some (2004, .inl ((g 0), 12000, .inl tnf)) := fq tn _ _ h_tn (by omega)
      have h_hd : S39 hd = some (2005, .inl ((g 0), 12, .inl hf)) := fq hd _ _ h_hd (by omega)
      have h_hv9 : S39 hv9 = some (2006, .inl ((g 0), 12, .inl hif)) := fq hv9 _ _ h_hv9 (by omega)
      have h_le : S39 le = some (2008, .inl ((g 0), 17, .inl (fun j => nI (LF j)))) := fq le _ _ h_le (by omega)
      have h_ta : S39 ta = some (2009, .inl ((g 0), 768, .inl (fun j => nI (TB j).val))) := fq ta _ _ h_ta (by omega)
      have hfr : ∀ b t e9, B b = some (t, e9) → (t ≠ 2007) → (t ≠ 2009) → S39 b = some (t, e9) := fun b t e9 h9 k0 k1 => by have h8 := hfr b t e9 h9 k0 k1; exact fq b _ _ h8 (by omega)
      have h_cu := q_cu
      have tC : trn 21952 CU1 := fun j hj => by rw [hr2 j (fun q hq w9 => by have := cl3_lt (Ep28 hq); omega)]; exact up_t hu9 j hj
      refine lv_iconst (v := nI 0) hx hb d_M_makeTables_65 (by decide) ?_
      refine lv_istore_n (lv' := [(3, .int (nI 0)), (2, .int (nI i)), (1, .int (nI 2)), (0, .ref o)]) hx hb d_M_makeTables_66 rfl hl (by decide) rfl (fun ls hl => ?_)
      refine lp_M_tab3 (B := B) (o := o) (cu := cu) (te := te) (tp := tp) (tn := tn) (hd := hd) (hv9 := hv9) (le := le) (ta := ta) (n := n) (nl := nl) (s9 := s9) (mv1 := mv1) (mv2 := mv2) (mv3 := mv3) (mv4 := mv4) (mv12 := mv12) (mv13 := mv13) (mv17 := mv17) (mv18 := mv18) (mv19 := mv19) (mv20 := mv20) (mv21 := mv21) (mv22 := mv22) (mv23 := mv23) (mv24 := mv24) (mv25 := mv25) (mv26 := mv26) (mv27 := mv27) (mv28 := mv28) (mv29 := mv29) (mv30 := mv30) (tf := tf) (tpf := tpf) (tnf := tnf) (hf := hf) (hif := hif) (h := h) (z := z) (mo := mo) (co := co) (z2 := z2) (mo2 := mo2) (co2 := co2) (ld := ld) (LF := LF) (lf := lf) (l9 := 2) (b9 := i) (CU := CU1) (TB := TB) hx hb hml hg hown hK (Nat.le_trans (Nat.le_of_ble_eq_true rfl) hRf) (Nat.le_trans (Nat.le_of_ble_eq_true rfl) hRl) (by omega) (by omega) hM hs hnl hlf (by decide) (by omega) s9 0 TB S39 H40 _ ls (by omega) (tcI_0 _ _ _ _) h_o h_cu h_te h_tp h_tn h_hd h_hv9 h_le h_ta hfr hI (lv_sub hl [0, 1, 2, 3] rfl) (fun TV S43 H44 locs ls htc j_o j_cu j_te j_tp j_tn j_hd j_hv9 j_le j_ta hfr hI hl => ?_)
      refine lv_iinc (v := nI (i + 1)) (lv' := [(2, .int (nI (i + 1))), (3, .int (nI s9)), (1, .int (nI 2)), (0, .ref o)]) hx hb d_M_makeTables_112 hl (k := 1) rfl (nI_1 _) (by decide) rfl (fun ls hl => ?_)
      refine lv_goto (tgt := 12) hx hb d_M_makeTables_115 (by decide) ?_
      exact ih (i + 1) TV CU1 S43 H44 locs ls (by omega) (mtI_up hmt hs (by omega) htc (fun j hj => mt_v hM.1 hu9 (hlf j hj).2.1 (hlf j hj).2.2 hr1)) tC j_o j_cu j_te j_tp j_tn j_hd j_hv9 j_le j_ta hfr hI (lv_sub hl [0, 2, 3] rfl) kx
set_option maxHeartbeats 4000000 in
set_option maxRecDepth 100000 in
theorem lp_M_tab1 {p : Program} {l : Launch} {e : Env} {R : Room} {s : State} {m : MethodId} {args : Array Value} {below : List Frame} {meth : Method} {c : Code} {Q : State → Prop} {D : mp_G} {g : Nat → ClassId} {A : Nat → Prop} {cells slots : Nat} (hx : p.tables.exec = Jvm.exec) (hb : c.code = b_M_makeTables) (hml : c.maxLocals = 4) (hg : ∀ w ∈ gw, w.before args s = true) (hown : s.vm.findClass R_M = some m.cls) (hK : mp_K D classes (tys g) s) (hRf : 4 ≤ R.frames) (hRl : 92 ≤ R.locals) (hRc : cells ≤ R.cells) (hRs : slots ≤ R.slots) {B : mp_M} {o cu te tp tn hd hv9 le ta n nl s9 : Nat} {mv1 mv2 mv3 mv4 mv12 mv13 mv17 mv18 mv19 mv20 mv21 mv22 mv23 mv24 mv25 mv26 mv27 mv28 mv29 mv30 : Value} {tf tpf tnf hf hif : Nat → Int32} {h : Nat → m3} {z : Nat → Nat} {mo : Nat → Nat → m3} {co : Nat → Nat → fF} {z2 : Nat → Nat} {mo2 : Nat → Nat → m3} {co2 : Nat → Nat → fF} {ld : Nat → fF} {LF : Nat → Nat} {lf : Nat → m3} (hM : lsM n h z mo co z2 mo2 co2 ld tf tpf tnf hf hif) (hs : s9 ≤ 16) (hnl : nl ≤ 3) (hlf : ∀ k, k < s9 → LF k = pN (lf k).1 (lf k).2.1 (lf k).2.2 ∧ ((lf k).1 ≤ 8 ∧ (lf k).2.1 ≤ 8 ∧ (lf k).2.2 ≤ 8) ∧ ¬ fi h (lf k) n < n) : ∀ (k : Nat) (i : Nat) (TB : Nat → fF) (CU : Nat → fF) (S : mp_M) (H : Heap) (locs : List Loc) (ls : Array Slot), i + k = nl → (mtI n h z mo co s9 lf i 0 TB) → (trn 21952 CU) → S o = some (2000, .inr (10, [.int (nI nl), mv1, mv2, mv3, mv4, .int (nI n), .ref te, .ref tp, .ref tn, .ref hd, .ref hv9, .ref cu, mv12, mv13, .int (nI s9), .ref le, .ref ta, mv17, mv18, mv19, mv20, mv21, mv22, mv23, mv24, mv25, mv26, mv27, mv28, mv29, mv30])) → S cu = some (2007, .inl ((g 0), 21952, .inl (fun j => nI (CU j).val))) → S te = some (2002, .inl ((g 0), 12, .inl tf)) → S tp = some (2003, .inl ((g 0), 12000, .inl tpf)) → S tn = some (2004, .inl ((g 0), 12000, .inl tnf)) → S hd = some (2005, .inl ((g 0), 12, .inl hf)) → S hv9 = some (2006, .inl ((g 0), 12, .inl hif)) → S le = some (2008, .inl ((g 0), 17, .inl (fun j => nI (LF j)))) → S ta = some (2009, .inl ((g 0), 768, .inl (fun j => nI (TB j).val))) → (∀ b t e9, B b = some (t, e9) → (t ≠ 2007) → (t ≠ 2009) → S b = some (t, e9)) → mp_I D classes A s.heap S H locs → lv_has ls 4 [(1, .int (nI i)), (0, .ref o)] → (∀ (TB : Nat → fF) (CU : Nat → fF) (S : mp_M) (H : Heap) (locs : List Loc) (ls : Array Slot), (mtI n h z mo co s9 lf nl 0 TB) → (trn 21952 CU) → S o = some (2000, .inr (10, [.int (nI nl), mv1, mv2, mv3, mv4, .int (nI n), .ref te, .ref tp, .ref tn, .ref hd, .ref hv9, .ref cu, mv12, mv13, .int (nI s9), .ref le, .ref ta, mv17, mv18, mv19, mv20, mv21, mv22, mv23, mv24, mv25, mv26, mv27, mv28, mv29, mv30])) → S cu = some (2007, .inl ((g 0), 21952, .inl (fun j => nI (CU j).val))) → S te = some (2002, .inl ((g 0), 12, .inl tf)) → S tp = some (2003, .inl ((g 0), 12000, .inl tpf)) → S tn = some (2004, .inl ((g 0), 12000, .inl tnf)) → S hd = some (2005, .inl ((g 0), 12, .inl hf)) → S hv9 = some (2006, .inl ((g 0), 12, .inl hif)) → S le = some (2008, .inl ((g 0), 17, .inl (fun j => nI (LF j)))) → S ta = some (2009, .inl ((g 0), 768, .inl (fun j => nI (TB j).val))) → (∀ b t e9, B b = some (t, e9) → (t ≠ 2007) → (t ≠ 2009) → S b = some (t, e9)) → mp_I D classes A s.heap S H locs → lv_has ls 4 [(1, .int (nI nl)), (0, .ref o)] → W p l e R s m args below meth c H locs cells slots Q (F0 m 124 ls [])) → W p l e R s m args below meth c H locs cells slots Q (F0 m 2 ls []) := by
  intro k
  induction k with
  | zero =>
    intro i TB CU S H locs ls hi hmt tCU h_o h_cu h_te h_tp h_tn h_hd h_hv9 h_le h_ta hfr hI hl kx
    refine lv_iload_n hx hb d_M_makeTables_2 rfl (lv_at hl 0 rfl) ?_
    refine lv_aload_n hx hb d_M_makeTables_3 rfl (lv_at hl 1 rfl) ?_
    refine mp_get (C := R_M) (T := F_M) (N := 31) (v := .int (nI nl)) hx hb hg i_M hown hK.va hI h_o rfl 0 (by decide) (hg _ q_804) (fun _ h9 => h9) rfl d_M_makeTables_4 ?_
    refine lv_icmp_ge (tgt := 124) hx hb d_M_makeTables_7 (by decide) (fun _ => ?_) (fun h9 => absurd ((nI_leI (by omega) (by omega)).mpr (by omega)) h9)
    obtain rfl : i = nl := by omega
    exact kx TB CU S H locs ls hmt tCU h_o h_cu h_te h_tp h_tn h_hd h_hv9 h_le h_ta hfr hI (lv_sub hl [0, 1] rfl)
  | succ k ih =>
    intro i TB CU S H locs ls hi hmt tCU h_o h_cu h_te h_tp h_tn h_hd h_hv9 h_le h_ta hfr hI hl kx
    refine lv_iload_n hx hb d_M_makeTables_2 rfl (lv_at hl 0 rfl) ?_
    refine lv_aload_n hx hb d_M_makeTables_3 rfl (lv_at hl 1 rfl) ?_
    refine mp_get (C := R_M) (T := F_M) (N := 31) (v := .int (nI nl)) hx hb hg i_M hown hK.va hI h_o rfl 0 (by decide) (hg _ q_804) (fun _ h9 => h9) rfl d_M_makeTables_4 ?_
    refine lv_icmp_ge (tgt := 124) hx hb d_M_makeTables_7 (by decide) (fun h9 => absurd h9 (by rw [nI_leI (by omega) (by omega)]; omega)) (fun _ => ?_)
    refine lv_iconst (v := nI 0) hx hb d_M_makeTables_10 (by decide) ?_
    refine lv_istore_n (lv' := [(2, .int (nI 0)), (1, .int (nI i)), (0, .ref o)]) hx hb d_M_makeTables_11 rfl hl (by decide) rfl (fun ls hl => ?_)
    refine lp_M_tab2 (B := B) (o := o) (cu := cu) (te := te) (tp := tp) (tn := tn) (hd := hd) (hv9 := hv9) (le := le) (ta := ta) (n := n) (nl := nl) (s9 := s9) (mv1 := mv1) (mv2 := mv2) (mv3 := mv3) (mv4 := mv4) (mv12 := mv12) (mv13 := mv13) (mv17 := mv17) (mv18 := mv18) (mv19 := mv19) (mv20 := mv20) (mv21 := mv21) (mv22 := mv22) (mv23 := mv23) (mv24 := mv24) (mv25 := mv25) (mv26 := mv26) (mv27 := mv27) (mv28 := mv28) (mv29 := mv29) (mv30 := mv30) (tf := tf) (tpf := tpf) (tnf := tnf) (hf := hf) (hif := hif) (h := h) (z := z) (mo := mo) (co := co) (z2 := z2) (mo2 := mo2) (co2 := co2) (ld := ld) (LF := LF) (lf := lf) (l9 := i) hx hb hml hg hown hK (Nat.le_trans (Nat.le_of_ble_eq_true rfl) hRf) (Nat.le_trans (Nat.le_of_ble_eq_true rfl) hRl) (by omega) (by omega) hM hs hnl hlf (by omega) s9 0 TB CU S H _ ls (by omega) hmt tCU h_o h_cu h_te h_tp h_tn h_hd h_hv9 h_le h_ta hfr hI (lv_sub hl [0, 1, 2] rfl) (fun TB2 CU2 S1 H2 locs ls hm2 tC2 j_o j_cu j_te j_tp j_tn j_hd j_hv9 j_le j_ta hfr hI hl => ?_)
    refine lv_iinc (v := nI (i + 1)) (lv' := [(1, .int (nI (i + 1))), (2, .int (nI s9)), (0, .ref o)]) hx hb d_M_makeTables_118 hl (k := 1) rfl (nI_1 _) (by decide) rfl (fun ls hl => ?_)
    refine lv_goto (tgt := 2) hx hb d_M_makeTables_121 (by decide) ?_
    exact ih (i + 1) TB2 CU2 S1 H2 locs ls (by omega) (mtI_next hm2) tC2 j_o j_cu j_te j_tp j_tn j_hd j_hv9 j_le j_ta hfr hI (lv_sub hl [0, 2] rfl) kx
set_option maxHeartbeats 4000000 in
set_option maxRecDepth 100000 in
/-- the tables, in the reference -/
theorem c_M_makeTables (l : Launch) (D : mp_G) (g : Nat → ClassId) (S : mp_M) (sz : Nat) (o cu te tp tn hd hv9 le ta n nl s9 : Nat) (mv1 mv2 mv3 mv4 mv12 mv13 mv17 mv18 mv19 mv20 mv21 mv22 mv23 mv24 mv25 mv26 mv27 mv28 mv29 mv30 : Value) (tf tpf tnf hf hif : Nat → Int32) (h : Nat → m3) (z : Nat → Nat) (mo : Nat → Nat → m3) (co : Nat → Nat → fF) (z2 : Nat → Nat) (mo2 : Nat → Nat → m3) (co2 : Nat → Nat → fF) (ld : Nat → fF) (LF : Nat → Nat) (lf : Nat → m3) (CU TB : Nat → fF) (h_o : S o = some (2000, .inr (10, [.int (nI nl), mv1, mv2, mv3, mv4, .int (nI n), .ref te, .ref tp, .ref tn, .ref hd, .ref hv9, .ref cu, mv12, mv13, .int (nI s9), .ref le, .ref ta, mv17, mv18, mv19, mv20, mv21, mv22, mv23, mv24, mv25, mv26, mv27, mv28, mv29, mv30]))) (h_cu : S cu = some (2007, .inl ((g 0), 21952, .inl (fun j => nI (CU j).val)))) (h_te : S te = some (2002, .inl ((g 0), 12, .inl tf))) (h_tp : S tp = some (2003, .inl ((g 0), 12000, .inl tpf))) (h_tn : S tn = some (2004, .inl ((g 0), 12000, .inl tnf))) (h_hd : S hd = some (2005, .inl ((g 0), 12, .inl hf))) (h_hv9 : S hv9 = some (2006, .inl ((g 0), 12, .inl hif))) (h_le : S le = some (2008, .inl ((g 0), 17, .inl (fun j => nI (LF j))))) (h_ta : S ta = some (2009, .inl ((g 0), 768, .inl (fun j => nI (TB j).val)))) (hM : lsM n h z mo co z2 mo2 co2 ld tf tpf tnf hf hif) (hs : s9 ≤ 16) (hnl : nl ≤ 3) (hlf : ∀ k, k < s9 → LF k = pN (lf k).1 (lf k).2.1 (lf k).2.2 ∧ ((lf k).1 ≤ 8 ∧ (lf k).2.1 ≤ 8 ∧ (lf k).2.2 ≤ 8) ∧ ¬ fi h (lf k) n < n) (tCU : trn 21952 CU) : Met l y_M_makeTables w_M_makeTables ({ frames := 4, cells := 0, slots := 0, locals := 92 }) (va_Pc [.ref o] (mp_B0 D classes (tys g) S sz)) (va_Qv (fun (S1 : mp_M) => ∃ CU1 TB1 : Nat → fF, S1 cu = some (2007, .inl ((g 0), 21952, .inl (fun j => nI (CU1 j).val))) ∧ S1 ta = some (2009, .inl ((g 0), 768, .inl (fun j => nI (TB1 j).val))) ∧ trn 21952 CU1 ∧ mtI n h z mo co s9 lf nl 0 TB1 ∧ (∀ b t e9, S b = some (t, e9) → (t ≠ 2007) → (t ≠ 2009) → S1 b = some (t, e9))) (mp_B1 D classes S sz) (mp_A S sz)) 0 0 (mp_A S sz) := by
  refine Met.ofW (cc := b_M_makeTables) (maxL := 4) (ret := none) (by decide) rfl ?_
  intro p e s m args below meth c s₁ B hml hv
  obtain ⟨rfl, hsz, hH, hK⟩ := hv
  have hx := B.exec
  have hb := B.bytes
  have hr := B.returns
  have hts := atoms_spec (ws := w_M_makeTables) B.pre
  have hg : ∀ w ∈ gw, w.before _ s = true := fun w h => hts w (List.mem_cons_of_mem _ h)
  have hown : s.vm.findClass R_M = some m.cls := findClass_of_methodNamed B.named
  have hlocks := B.notSynchronized
  subst hsz
  have hI := mp_I.start hH
  have hl := lv_entry ([.ref o]) (n := 4) (Nat.le_of_ble_eq_true rfl)
  rw [lg_entry_eq]
  generalize (lg_sl ([.ref o]) ++ List.replicate (4 - (lg_sl ([.ref o])).length) Slot.unset).toArray = ls at hl ⊢
  have hl : lv_has ls 4 [(0, .ref o)] := hl
  have hfr : ∀ b t e9, S b = some (t, e9) → (t ≠ 2007) → (t ≠ 2009) → S b = some (t, e9) := fun _ _ _ h9 _ _ => h9
  refine lv_iconst (v := nI 0) hx hb d_M_makeTables_0 (by decide) ?_
  refine lv_istore_n (lv' := [(1, .int (nI 0)), (0, .ref o)]) hx hb d_M_makeTables_1 rfl hl (by decide) rfl (fun ls hl => ?_)
  refine lp_M_tab1 (B := S) (o := o) (cu := cu) (te := te) (tp := tp) (tn := tn) (hd := hd) (hv9 := hv9) (le := le) (ta := ta) (n := n) (nl := nl) (s9 := s9) (mv1 := mv1) (mv2 := mv2) (mv3 := mv3) (mv4 := mv4) (mv12 := mv12) (mv13 := mv13) (mv17 := mv17) (mv18 := mv18) (mv19 := mv19) (mv20 := mv20) (mv21 := mv21) (mv22 := mv22) (mv23 := mv23) (mv24 := mv24) (mv25 := mv25) (mv26 := mv26) (mv27 := mv27) (mv28 := mv28) (mv29 := mv29) (mv30 := mv30) (tf := tf) (tpf := tpf) (tnf := tnf) (hf := hf) (hif := hif) (h := h) (z := z) (mo := mo) (co := co) (z2 := z2) (mo2 := mo2) (co2 := co2) (ld := ld) (LF := LF) (lf := lf) hx hb hml hg hown hK (Nat.le_of_ble_eq_true rfl) (Nat.le_of_ble_eq_true rfl) (Nat.le_of_ble_eq_true rfl) (Nat.le_of_ble_eq_true rfl) hM hs hnl hlf nl 0 TB CU S s.heap _ ls (by omega) (fun a b h9 => absurd h9 (fun q9 => q9.elim (Nat.not_lt_zero a) (fun q8 => Nat.not_lt_zero b q8.2))) tCU h_o h_cu h_te h_tp h_tn h_hd h_hv9 h_le h_ta hfr hI (lv_sub hl [0, 1] rfl) (fun TB1 CU1 S1 H2 locs ls hm1 tC1 j_o j_cu j_te j_tp j_tn j_hd j_hv9 j_le j_ta hfr hI hl => ?_)
  refine mp_vret hx hb hr hlocks hI (Nat.le_of_ble_eq_true rfl) (Nat.le_of_ble_eq_true rfl) ?_ d_M_makeTables_124
  exact ⟨CU1, TB1, j_cu, j_ta, tC1, hm1, hfr⟩
