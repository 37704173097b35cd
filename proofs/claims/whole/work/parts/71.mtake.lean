/-! The reference's take. -/
theorem ab_pl (p q : Nat) : abN p q ↔ pl3 (Em q) < pl3 (Em p) := by
  have e : ∀ p, Em p = (p % 10, p / 10 % 10, p / 100) := fun _ => rfl
  constructor
  · intro h
    apply pl_lo
    rw [e, e]; unfold abN dN eN at h; simp at h ⊢; omega
  · intro h
    have := pl_hi h
    rw [e, e] at this; unfold abN dN eN; simp at this ⊢; omega
theorem colS_le {P : Nat → Prop} {Q n : Nat} {u : Nat → Nat} (H : colS P Q n u) : n ≤ Q := pig Q n u (fun i hi => (H.1 i hi).1) (fun i j hi hj e => by
  rcases Nat.lt_trichotomy i j with q | q | q
  · have := H.2.1 i j q hj; omega
  · exact q
  · have := H.2.1 j i q hi; omega)
def tkI (c : Nat → fF) (L i n : Nat) (v : Int32) (tp tn hv tp0 tn0 hv0 : Nat → Int32) (pj : Nat → Nat) : Prop :=
  colS (fun q => c q ≠ 0) i n pj ∧ (∀ j, j < n → tp (1000 * L + j) = nI (pj j) ∧ tn (1000 * L + j) = nI (c (pj j)).val) ∧ (∀ q, q < 1000 * L → tp q = tp0 q ∧ tn q = tn0 q) ∧ (∀ q, q ≠ L → hv q = hv0 q) ∧
  ((n = 0 ∧ v = -1 ∧ hv = hv0) ∨ ∃ t, t < n ∧ v = nI (pj t) ∧ hv L = nI (c (pj t)).val ∧ ∀ j, j < n → pl3 (Em (pj j)) ≤ pl3 (Em (pj t)))
theorem tkI_0 (c : Nat → fF) (L : Nat) (tp tn hv : Nat → Int32) (pj : Nat → Nat) : tkI c L 0 0 (-1) tp tn hv tp tn hv pj :=
  ⟨colS_0 _ _, fun j hj => absurd hj (Nat.not_lt_zero j), fun _ _ => ⟨rfl, rfl⟩, fun _ _ => rfl, Or.inl ⟨rfl, rfl, rfl⟩⟩
theorem tkI_no {c : Nat → fF} {L i n : Nat} {v : Int32} {tp tn hv tp0 tn0 hv0 : Nat → Int32} {pj : Nat → Nat} (H : tkI c L i n v tp tn hv tp0 tn0 hv0 pj) (hz : c i = 0) : tkI c L (i + 1) n v tp tn hv tp0 tn0 hv0 pj :=
  ⟨colS_no H.1 (fun q => q hz), H.2⟩
theorem tkI_st {c : Nat → fF} {L i n : Nat} {v : Int32} {tp tn hv tp0 tn0 hv0 : Nat → Int32} {pj : Nat → Nat} (H : tkI c L i n v tp tn hv tp0 tn0 hv0 pj) (hy : c i ≠ 0) : colS (fun q => c q ≠ 0) (i + 1) (n + 1) (va_up pj n i) ∧ (∀ j, j < n + 1 → upd tp (1000 * L + n) (nI i) (1000 * L + j) = nI (va_up pj n i j) ∧ upd tn (1000 * L + n) (nI (c i).val) (1000 * L + j) = nI (c (va_up pj n i j)).val) ∧ (∀ q, q < 1000 * L → upd tp (1000 * L + n) (nI i) q = tp0 q ∧ upd tn (1000 * L + n) (nI (c i).val) q = tn0 q) := by
  obtain ⟨h1, h2, h3, _⟩ := H
  refine ⟨colS_yes h1 hy (fun k hk => mp_un (by omega)) (mp_us _ _ _), fun j hj => ?_, fun q hq => ?_⟩
  · by_cases e : j = n
    · rw [e, pk_us, pk_us, mp_us]; exact ⟨rfl, rfl⟩
    · rw [pk_un (by omega), pk_un (by omega), mp_un e]; exact h2 j (by omega)
  · rw [pk_un (by omega), pk_un (by omega)]; exact h3 q hq
theorem tkI_top {c : Nat → fF} {L i n : Nat} {v : Int32} {tp tn hv tp0 tn0 hv0 : Nat → Int32} {pj : Nat → Nat} (H : tkI c L i n v tp tn hv tp0 tn0 hv0 pj) (hy : c i ≠ 0) (hm : ∀ j, j < n → pl3 (Em (pj j)) ≤ pl3 (Em i)) : tkI c L (i + 1) (n + 1) (nI i) (upd tp (1000 * L + n) (nI i)) (upd tn (1000 * L + n) (nI (c i).val)) (upd hv L (nI (c i).val)) tp0 tn0 hv0 (va_up pj n i) := by
  obtain ⟨a1, a2, a3⟩ := tkI_st H hy
  refine ⟨a1, a2, a3, fun q hq => by rw [pk_un hq]; exact H.2.2.2.1 q hq, Or.inr ⟨n, Nat.lt_succ_self n, by rw [mp_us], by rw [pk_us, mp_us], fun j hj => ?_⟩⟩
  rw [mp_us]
  by_cases e : j = n
  · rw [e, mp_us]; exact Nat.le_refl _
  · rw [mp_un e]; exact hm j (by omega)
theorem tkI_keep {c : Nat → fF} {L i n t : Nat} {v : Int32} {tp tn hv tp0 tn0 hv0 : Nat → Int32} {pj : Nat → Nat} (H : tkI c L i n v tp tn hv tp0 tn0 hv0 pj) (hy : c i ≠ 0) (ht : t < n) (hv9 : v = nI (pj t)) (hh : hv L = nI (c (pj t)).val) (hm : ∀ j, j < n → pl3 (Em (pj j)) ≤ pl3 (Em (pj t))) (hle : pl3 (Em i) ≤ pl3 (Em (pj t))) : tkI c L (i + 1) (n + 1) v (upd tp (1000 * L + n) (nI i)) (upd tn (1000 * L + n) (nI (c i).val)) hv tp0 tn0 hv0 (va_up pj n i) := by
  obtain ⟨a1, a2, a3⟩ := tkI_st H hy
  refine ⟨a1, a2, a3, H.2.2.2.1, Or.inr ⟨t, by omega, by rw [mp_un (by omega)]; exact hv9, by rw [mp_un (by omega)]; exact hh, fun j hj => ?_⟩⟩
  rw [mp_un (show t ≠ n by omega)]
  by_cases e : j = n
  · rw [e, mp_us]; exact hle
  · rw [mp_un e]; exact hm j (by omega)
/-- what take has done -/
def tkR (c : Nat → fF) (L L1 n : Nat) (pj : Nat → Nat) (tf tf1 tp tp1 tn tn1 hf hf1 hif hif1 : Nat → Int32) : Prop :=
  colS (fun q => c q ≠ 0) 1000 n pj ∧ (∀ j, j < n → tp1 (1000 * L + j) = nI (pj j) ∧ tn1 (1000 * L + j) = nI (c (pj j)).val) ∧ (∀ q, q < 1000 * L → tp1 q = tp q ∧ tn1 q = tn q) ∧ (∀ q, q ≠ L → tf1 q = tf q ∧ hf1 q = hf q ∧ hif1 q = hif q) ∧
  ((n = 0 ∧ L1 = L) ∨ (L1 = L + 1 ∧ ∃ t, t < n ∧ tf1 L = nI n ∧ hf1 L = nI (pj t) ∧ hif1 L = nI (iv (c (pj t))).val ∧ ∀ j, j < n → pl3 (Em (pj j)) ≤ pl3 (Em (pj t))))
theorem nI_nm9 {f : Nat} (h : f < 1000) : nI f ≠ -1 := by
  have : ∀ j : Nat, j < 1000 → nI j ≠ -1 := by decide +kernel
  exact this f h

theorem d_M_take_84 : decode b_M_take 84 = .ok (.aload_n 0, 1) := by decide +kernel
theorem d_M_take_85 : decode b_M_take 85 = .ok (.getfield 17, 3) := by decide +kernel
theorem d_M_take_88 : decode b_M_take 88 = .ok (.sipush 1000, 3) := by decide +kernel
theorem d_M_take_91 : decode b_M_take 91 = .ok (.aload_n 0, 1) := by decide +kernel
theorem d_M_take_92 : decode b_M_take 92 = .ok (.getfield 125, 3) := by decide +kernel
theorem d_M_take_95 : decode b_M_take 95 = .ok (.imul, 1) := by decide +kernel
theorem d_M_take_96 : decode b_M_take 96 = .ok (.iload_n 2, 1) := by decide +kernel
theorem d_M_take_97 : decode b_M_take 97 = .ok (.iadd, 1) := by decide +kernel
theorem d_M_take_98 : decode b_M_take 98 = .ok (.iload 4, 2) := by decide +kernel
theorem d_M_take_100 : decode b_M_take 100 = .ok (.iastore, 1) := by decide +kernel
theorem d_M_take_101 : decode b_M_take 101 = .ok (.aload_n 0, 1) := by decide +kernel
theorem d_M_take_102 : decode b_M_take 102 = .ok (.getfield 20, 3) := by decide +kernel
theorem d_M_take_105 : decode b_M_take 105 = .ok (.sipush 1000, 3) := by decide +kernel
theorem d_M_take_108 : decode b_M_take 108 = .ok (.aload_n 0, 1) := by decide +kernel
theorem d_M_take_109 : decode b_M_take 109 = .ok (.getfield 125, 3) := by decide +kernel
theorem d_M_take_112 : decode b_M_take 112 = .ok (.imul, 1) := by decide +kernel
theorem d_M_take_113 : decode b_M_take 113 = .ok (.iload_n 2, 1) := by decide +kernel
theorem d_M_take_114 : decode b_M_take 114 = .ok (.iadd, 1) := by decide +kernel
theorem d_M_take_115 : decode b_M_take 115 = .ok (.iload 5, 2) := by decide +kernel
theorem d_M_take_117 : decode b_M_take 117 = .ok (.iastore, 1) := by decide +kernel
theorem d_M_take_118 : decode b_M_take 118 = .ok (.iload_n 3, 1) := by decide +kernel
theorem d_M_take_119 : decode b_M_take 119 = .ok (.iconst (-1), 1) := by decide +kernel
theorem d_M_take_120 : decode b_M_take 120 = .ok (.if_icmp .eq 12, 3) := by decide +kernel
theorem d_M_take_123 : decode b_M_take 123 = .ok (.iload 4, 2) := by decide +kernel
theorem d_M_take_125 : decode b_M_take 125 = .ok (.iload_n 3, 1) := by decide +kernel
theorem d_M_take_126 : decode b_M_take 126 = .ok (.invokestatic 128, 3) := by decide +kernel
theorem d_M_take_129 : decode b_M_take 129 = .ok (.ifCond .eq 17, 3) := by decide +kernel
theorem d_M_take_132 : decode b_M_take 132 = .ok (.iload 4, 2) := by decide +kernel
theorem d_M_take_134 : decode b_M_take 134 = .ok (.istore_n 3, 1) := by decide +kernel
theorem d_M_take_135 : decode b_M_take 135 = .ok (.aload_n 0, 1) := by decide +kernel
theorem d_M_take_136 : decode b_M_take 136 = .ok (.getfield 26, 3) := by decide +kernel
theorem d_M_take_139 : decode b_M_take 139 = .ok (.aload_n 0, 1) := by decide +kernel
theorem d_M_take_140 : decode b_M_take 140 = .ok (.getfield 125, 3) := by decide +kernel
theorem d_M_take_143 : decode b_M_take 143 = .ok (.iload 5, 2) := by decide +kernel
theorem d_M_take_145 : decode b_M_take 145 = .ok (.iastore, 1) := by decide +kernel
theorem d_M_take_146 : decode b_M_take 146 = .ok (.iinc 2 1, 3) := by decide +kernel
theorem d_M_take_161 : decode b_M_take 161 = .ok (.aload_n 0, 1) := by decide +kernel
theorem d_M_take_162 : decode b_M_take 162 = .ok (.getfield 14, 3) := by decide +kernel
theorem d_M_take_165 : decode b_M_take 165 = .ok (.aload_n 0, 1) := by decide +kernel
theorem d_M_take_166 : decode b_M_take 166 = .ok (.getfield 125, 3) := by decide +kernel
theorem d_M_take_169 : decode b_M_take 169 = .ok (.iload_n 2, 1) := by decide +kernel
theorem d_M_take_170 : decode b_M_take 170 = .ok (.iastore, 1) := by decide +kernel
theorem d_M_take_171 : decode b_M_take 171 = .ok (.aload_n 0, 1) := by decide +kernel
theorem d_M_take_172 : decode b_M_take 172 = .ok (.getfield 23, 3) := by decide +kernel
theorem d_M_take_175 : decode b_M_take 175 = .ok (.aload_n 0, 1) := by decide +kernel
theorem d_M_take_176 : decode b_M_take 176 = .ok (.getfield 125, 3) := by decide +kernel
theorem d_M_take_179 : decode b_M_take 179 = .ok (.iload_n 3, 1) := by decide +kernel
theorem d_M_take_180 : decode b_M_take 180 = .ok (.iastore, 1) := by decide +kernel
theorem d_M_take_181 : decode b_M_take 181 = .ok (.aload_n 0, 1) := by decide +kernel
theorem d_M_take_182 : decode b_M_take 182 = .ok (.getfield 26, 3) := by decide +kernel
theorem d_M_take_185 : decode b_M_take 185 = .ok (.aload_n 0, 1) := by decide +kernel
theorem d_M_take_186 : decode b_M_take 186 = .ok (.getfield 125, 3) := by decide +kernel
theorem d_M_take_189 : decode b_M_take 189 = .ok (.aload_n 0, 1) := by decide +kernel
theorem d_M_take_190 : decode b_M_take 190 = .ok (.getfield 26, 3) := by decide +kernel
theorem d_M_take_193 : decode b_M_take 193 = .ok (.aload_n 0, 1) := by decide +kernel
theorem d_M_take_194 : decode b_M_take 194 = .ok (.getfield 125, 3) := by decide +kernel
theorem d_M_take_197 : decode b_M_take 197 = .ok (.iaload, 1) := by decide +kernel
theorem d_M_take_198 : decode b_M_take 198 = .ok (.invokestatic 112, 3) := by decide +kernel
theorem d_M_take_201 : decode b_M_take 201 = .ok (.iastore, 1) := by decide +kernel
theorem d_M_take_202 : decode b_M_take 202 = .ok (.aload_n 0, 1) := by decide +kernel
theorem d_M_take_203 : decode b_M_take 203 = .ok (.dup, 1) := by decide +kernel
theorem d_M_take_204 : decode b_M_take 204 = .ok (.getfield 125, 3) := by decide +kernel
theorem d_M_take_207 : decode b_M_take 207 = .ok (.iconst 1, 1) := by decide +kernel
theorem d_M_take_208 : decode b_M_take 208 = .ok (.iadd, 1) := by decide +kernel
theorem d_M_take_209 : decode b_M_take 209 = .ok (.putfield 125, 3) := by decide +kernel
theorem d_M_take_212 : decode b_M_take 212 = .ok (.iconst 1, 1) := by decide +kernel
theorem d_M_take_213 : decode b_M_take 213 = .ok (.ireturn, 1) := by decide +kernel
set_option maxHeartbeats 4000000 in
set_option maxRecDepth 100000 in
theorem lp_M_tk {p : Program} {l : Launch} {e : Env} {R : Room} {s : State} {m : MethodId} {args : Array Value} {below : List Frame} {meth : Method} {c : Code} {Q : State → Prop} {D : mp_G} {g : Nat → ClassId} {A : Nat → Prop} {cells slots : Nat} (hx : p.tables.exec = Jvm.exec) (hb : c.code = b_M_take) (hml : c.maxLocals = 6) (hg : ∀ w ∈ gw, w.before args s = true) (hown : s.vm.findClass R_M = some m.cls) (hK : mp_K D classes (tys g) s) (hRf : 3 ≤ R.frames) (hRl : 63 ≤ R.locals) (hRc : cells ≤ R.cells) (hRs : slots ≤ R.slots) {B : mp_M} {o pa te tp tn hd hv9 k9 tk L9 : Nat} {mv0 mv1 mv11 mv13 mv14 mv15 mv16 mv17 mv18 mv19 mv20 mv21 mv22 mv23 mv24 mv25 mv26 mv27 mv28 mv29 mv30 : Value} {PO : Nat → fF} {tf tpf tnf hf hif : Nat → Int32} (hk9 : k9 < 40) (htk : tk < 12) (hL9 : L9 < 12) : ∀ (k : Nat) (i : Nat) (n9 : Nat) (v3 : Int32) (tp1 : Nat → Int32) (tn1 : Nat → Int32) (hv1 : Nat → Int32) (pj : Nat → Nat) (S : mp_M) (H : Heap) (locs : List Loc) (ls : Array Slot), i + k = 1000 → (tkI (fun q => PO (1000 * k9 + q)) L9 i n9 v3 tp1 tn1 hv1 tpf tnf hif pj) → S o = some (2000, .inr (10, [mv0, mv1, .int (nI (tk + 1)), .int (nI 0), .ref pa, .int (nI L9), .ref te, .ref tp, .ref tn, .ref hd, .ref hv9, mv11, .int (nI 0), mv13, mv14, mv15, mv16, mv17, mv18, mv19, mv20, mv21, mv22, mv23, mv24, mv25, mv26, mv27, mv28, mv29, mv30])) → S pa = some (2001, .inl ((g 0), 40000, .inl (fun j => nI (PO j).val))) → S te = some (2002, .inl ((g 0), 12, .inl tf)) → S tp = some (2003, .inl ((g 0), 12000, .inl tp1)) → S tn = some (2004, .inl ((g 0), 12000, .inl tn1)) → S hd = some (2005, .inl ((g 0), 12, .inl hf)) → S hv9 = some (2006, .inl ((g 0), 12, .inl hv1)) → (∀ b t e9, B b = some (t, e9) → (t ≠ 2000) → (t ≠ 2002) → (t ≠ 2003) → (t ≠ 2004) → (t ≠ 2005) → (t ≠ 2006) → S b = some (t, e9)) → mp_I D classes A s.heap S H locs → lv_has ls 6 [(4, .int (nI i)), (3, .int v3), (2, .int (nI n9)), (1, .int (nI k9)), (0, .ref o)] → (∀ (n9 : Nat) (v3 : Int32) (tp1 : Nat → Int32) (tn1 : Nat → Int32) (hv1 : Nat → Int32) (pj : Nat → Nat) (S : mp_M) (H : Heap) (locs : List Loc) (ls : Array Slot), (tkI (fun q => PO (1000 * k9 + q)) L9 1000 n9 v3 tp1 tn1 hv1 tpf tnf hif pj) → S o = some (2000, .inr (10, [mv0, mv1, .int (nI (tk + 1)), .int (nI 0), .ref pa, .int (nI L9), .ref te, .ref tp, .ref tn, .ref hd, .ref hv9, mv11, .int (nI 0), mv13, mv14, mv15, mv16, mv17, mv18, mv19, mv20, mv21, mv22, mv23, mv24, mv25, mv26, mv27, mv28, mv29, mv30])) → S pa = some (2001, .inl ((g 0), 40000, .inl (fun j => nI (PO j).val))) → S te = some (2002, .inl ((g 0), 12, .inl tf)) → S tp = some (2003, .inl ((g 0), 12000, .inl tp1)) → S tn = some (2004, .inl ((g 0), 12000, .inl tn1)) → S hd = some (2005, .inl ((g 0), 12, .inl hf)) → S hv9 = some (2006, .inl ((g 0), 12, .inl hv1)) → (∀ b t e9, B b = some (t, e9) → (t ≠ 2000) → (t ≠ 2002) → (t ≠ 2003) → (t ≠ 2004) → (t ≠ 2005) → (t ≠ 2006) → S b = some (t, e9)) → mp_I D classes A s.heap S H locs → lv_has ls 6 [(4, .int (nI 1000)), (3, .int v3), (2, .int (nI n9)), (1, .int (nI k9)), (0, .ref o)] → W p l e R s m args below meth c H locs cells slots Q (F0 m 155 ls [])) → W p l e R s m args below meth c H locs cells slots Q (F0 m 56 ls []) := by
  intro k
  induction k with
  | zero =>
    intro i n9 v3 tp1 tn1 hv1 pj S H locs ls hi hti h_o h_pa h_te h_tp h_tn h_hd h_hv9 hfr hI hl kx
    refine lv_iload hx hb d_M_take_56 (lv_at hl 0 rfl) ?_
    refine lv_sipush (v := nI 1000) hx hb d_M_take_58 (by decide) ?_
    refine lv_icmp_ge (tgt := 155) hx hb d_M_take_61 (by decide) (fun _ => ?_) (fun h9 => absurd ((nI_leI (by omega) (by omega)).mpr (by omega)) h9)
    obtain rfl : i = 1000 := by omega
    exact kx n9 v3 tp1 tn1 hv1 pj S H locs ls hti h_o h_pa h_te h_tp h_tn h_hd h_hv9 hfr hI (lv_sub hl [0, 1, 2, 3, 4] rfl)
  | succ k ih =>
    intro i n9 v3 tp1 tn1 hv1 pj S H locs ls hi hti h_o h_pa h_te h_tp h_tn h_hd h_hv9 hfr hI hl kx
    have hn9 := colS_le hti.1
    refine lv_iload hx hb d_M_take_56 (lv_at hl 0 rfl) ?_
    refine lv_sipush (v := nI 1000) hx hb d_M_take_58 (by decide) ?_
    refine lv_icmp_ge (tgt := 155) hx hb d_M_take_61 (by decide) (fun h9 => absurd h9 (by rw [nI_leI (by omega) (by omega)]; omega)) (fun _ => ?_)
    refine lv_aload_n hx hb d_M_take_64 rfl (lv_at hl 4 rfl) ?_
    refine mp_get (C := R_M) (T := F_M) (N := 31) (v := .ref pa) hx hb hg i_M hown hK.va hI h_o rfl 4 (by decide) (hg _ q_808) (fun _ h9 => h9) rfl d_M_take_65 ?_
    refine lv_sipush (v := nI 1000) hx hb d_M_take_68 (by decide) ?_
    refine lv_iload_n hx hb d_M_take_71 rfl (lv_at hl 3 rfl) ?_
    refine lv_imul hx hb d_M_take_72 ?_
    refine lv_topi (fun v1 ev1 => ?_)
    obtain rfl : v1 = nI (1000 * k9) := ev1.trans (pk_mul _ _)
    refine lv_iload hx hb d_M_take_73 (lv_at hl 0 rfl) ?_
    refine lv_iadd hx hb d_M_take_75 ?_
    refine lv_topi (fun v2 ev2 => ?_)
    obtain rfl : v2 = nI ((1000 * k9) + i) := ev2.trans (nI_add _ _)
    refine mp_iald hx hb hK.va hI 0 h_pa rfl (vp_in_nI (show (1000 * k9) + i < 40000 by omega) (by omega)) d_M_take_76 ?_
    refine lv_topi (fun v3 ev3 => ?_)
    obtain rfl : v3 = nI (PO ((1000 * k9) + i)).val := ev3.trans (by rw [nI_clamp (by omega)])
    refine lv_istore (lv' := [(5, .int (nI (PO ((1000 * k9) + i)).val)), (4, .int (nI i)), (3, .int v3), (2, .int (nI n9)), (1, .int (nI k9)), (0, .ref o)]) hx hb d_M_take_77 hl (by decide) rfl (fun ls hl => ?_)
    refine lv_iload hx hb d_M_take_79 (lv_at hl 0 rfl) ?_
    refine lv_if_eq (tgt := 149) hx hb d_M_take_81 (by decide) (fun c1 => ?_) (fun c1 => ?_)
    · rw [zI_eq (by omega)] at c1
      refine lv_iinc (v := nI (i + 1)) (lv' := [(4, .int (nI (i + 1))), (5, .int (nI (PO ((1000 * k9) + i)).val)), (3, .int v3), (2, .int (nI n9)), (1, .int (nI k9)), (0, .ref o)]) hx hb d_M_take_149 hl (k := 1) rfl (nI_1 _) (by decide) rfl (fun ls hl => ?_)
      refine lv_goto (tgt := 56) hx hb d_M_take_152 (by decide) ?_
      exact ih (i + 1) n9 v3 tp1 tn1 hv1 pj S H locs ls (by omega) (tkI_no hti (Fin.ext c1)) h_o h_pa h_te h_tp h_tn h_hd h_hv9 hfr hI (lv_sub hl [0, 2, 3, 4, 5] rfl) kx
    · rw [zI_eq (by omega)] at c1
      have hy9 : PO (1000 * k9 + i) ≠ 0 := fun q9 => c1 (by rw [q9]; rfl)
      refine lv_aload_n hx hb d_M_take_84 rfl (lv_at hl 5 rfl) ?_
      refine mp_get (C := R_M) (T := F_M) (N := 31) (v := .ref tp) hx hb hg i_M hown hK.va hI h_o rfl 7 (by decide) (hg _ q_811) (fun _ h9 => h9) rfl d_M_take_85 ?_
      refine lv_sipush (v := nI 1000) hx hb d_M_take_88 (by decide) ?_
      refine lv_aload_n hx hb d_M_take_91 rfl (lv_at hl 5 rfl) ?_
      refine mp_get (C := R_M) (T := F_M) (N := 31) (v := .int (nI L9)) hx hb hg i_M hown hK.va hI h_o rfl 5 (by decide) (hg _ q_809) (fun _ h9 => h9) rfl d_M_take_92 ?_
      refine lv_imul hx hb d_M_take_95 ?_
      refine lv_topi (fun v4 ev4 => ?_)
      obtain rfl : v4 = nI (1000 * L9) := ev4.trans (pk_mul _ _)
      refine lv_iload_n hx hb d_M_take_96 rfl (lv_at hl 3 rfl) ?_
      refine lv_iadd hx hb d_M_take_97 ?_
      refine lv_topi (fun v5 ev5 => ?_)
      obtain rfl : v5 = nI ((1000 * L9) + n9) := ev5.trans (nI_add _ _)
      refine lv_iload hx hb d_M_take_98 (lv_at hl 1 rfl) ?_
      refine mp_iast hx hb hK.va hI 0 h_tp rfl (vp_in_nI (show (1000 * L9) + n9 < 12000 by omega) (by omega)) d_M_take_100 (fun S6 H7 locs e_8 hI => ?_)
      have h_tp_o := h_tp
      have e_8 : S6 = va_up S tp (some (2003, .inl ((g 0), 12000, .inl (upd tp1 (nI ((1000 * L9) + n9)).toNatClampNeg (nI i))))) := e_8
      have h_o : S6 o = some (2000, .inr (10, [mv0, mv1, .int (nI (tk + 1)), .int (nI 0), .ref pa, .int (nI L9), .ref te, .ref tp, .ref tn, .ref hd, .ref hv9, mv11, .int (nI 0), mv13, mv14, mv15, mv16, mv17, mv18, mv19, mv20, mv21, mv22, mv23, mv24, mv25, mv26, mv27, mv28, mv29, mv30])) := by rw [e_8]; exact mp_keep h_o h_tp (by decide)
      have h_pa : S6 pa = some (2001, .inl ((g 0), 40000, .inl (fun j => nI (PO j).val))) := by rw [e_8]; exact mp_keep h_pa h_tp (by decide)
      have h_te : S6 te = some (2002, .inl ((g 0), 12, .inl tf)) := by rw [e_8]; exact mp_keep h_te h_tp (by decide)
      have h_tn : S6 tn = some (2004, .inl ((g 0), 12000, .inl tn1)) := by rw [e_8]; exact mp_keep h_tn h_tp (by decide)
      have h_hd : S6 hd = some (2005, .inl ((g 0), 12, .inl hf)) := by rw [e_8]; exact mp_keep h_hd h_tp (by decide)
      have h_hv9 : S6 hv9 = some (2006, .inl ((g 0), 12, .inl hv1)) := by rw [e_8]; exact mp_keep h_hv9 h_tp (by decide)
      have h_tp : S6 tp = some (2003, .inl ((g 0), 12000, .inl (upd tp1 (nI ((1000 * L9) + n9)).toNatClampNeg (nI i)))) := by rw [e_8]; exact mp_us _ _ _
      have hfr : ∀ b t e9, B b = some (t, e9) → (t ≠ 2000) → (t ≠ 2002) → (t ≠ 2003) → (t ≠ 2004) → (t ≠ 2005) → (t ≠ 2006) → S6 b = some (t, e9) := fun b t e9 h9 k0 k1 k2 k3 k4 k5 => by rw [e_8]; exact mp_keep (hfr b t e9 h9 k0 k1 k2 k3 k4 k5) h_tp_o (by omega)
      rw [nI_clamp (by omega)] at h_tp
      refine lv_aload_n hx hb d_M_take_101 rfl (lv_at hl 5 rfl) ?_
      refine mp_get (C := R_M) (T := F_M) (N := 31) (v := .ref tn) hx hb hg i_M hown hK.va hI h_o rfl 8 (by decide) (hg _ q_812) (fun _ h9 => h9) rfl d_M_take_102 ?_
      refine lv_sipush (v := nI 1000) hx hb d_M_take_105 (by decide) ?_
      refine lv_aload_n hx hb d_M_take_108 rfl (lv_at hl 5 rfl) ?_
      refine mp_get (C := R_M) (T := F_M) (N := 31) (v := .int (nI L9)) hx hb hg i_M hown hK.va hI h_o rfl 5 (by decide) (hg _ q_809) (fun _ h9 => h9) rfl d_M_take_109 ?_
      refine lv_imul hx hb d_M_take_112 ?_
      refine lv_topi (fun v9 ev9 => ?_)
      obtain rfl : v9 = nI (1000 * L9) := ev9.trans (pk_mul _ _)
      refine lv_iload_n hx hb d_M_take_113 rfl (lv_at hl 3 rfl) ?_
      refine lv_iadd hx hb d_M_take_114 ?_
      refine lv_topi (fun v10 ev10 => ?_)
      obtain rfl : v10 = nI ((1000 * L9) + n9) := ev10.trans (nI_add _ _)
      refine lv_iload hx hb d_M_take_115 (lv_at hl 0 rfl) ?_
      refine mp_iast hx hb hK.va hI 0 h_tn rfl (vp_in_nI (show (1000 * L9) + n9 < 12000 by omega) (by omega)) d_M_take_117 (fun S11 H12 locs e_13 hI => ?_)
      have h_tn_o := h_tn
      have e_13 : S11 = va_up S6 tn (some (2004, .inl ((g 0), 12000, .inl (upd tn1 (nI ((1000 * L9) + n9)).toNatClampNeg (nI (PO ((1000 * k9) + i)).val))))) := e_13
      have h_o : S11 o = some (2000, .inr (10, [mv0, mv1, .int (nI (tk + 1)), .int (nI 0), .ref pa, .int (nI L9), .ref te, .ref tp, .ref tn, .ref hd, .ref hv9, mv11, .int (nI 0), mv13, mv14, mv15, mv16, mv17, mv18, mv19, mv20, mv21, mv22, mv23, mv24, mv25, mv26, mv27, mv28, mv29, mv30])) := by rw [e_13]; exact mp_keep h_o h_tn (by decide)
      have h_pa : S11 pa = some (2001, .inl ((g 0), 40000, .inl (fun j => nI (PO j).val))) := by rw [e_13]; exact mp_keep h_pa h_tn (by decide)
      have h_te : S11 te = some (2002, .inl ((g 0), 12, .inl tf)) := by rw [e_13]; exact mp_keep h_te h_tn (by decide)
      have h_tp : S11 tp = some (2003, .inl ((g 0), 12000, .inl (upd tp1 ((1000 * L9) + n9) (nI i)))) := by rw [e_13]; exact mp_keep h_tp h_tn (by decide)
      have h_hd : S11 hd = some (2005, .inl ((g 0), 12, .inl hf)) := by rw [e_13]; exact mp_keep h_hd h_tn (by decide)
      have h_hv9 : S11 hv9 = some (2006, .inl ((g 0), 12, .inl hv1)) := by rw [e_13]; exact mp_keep h_hv9 h_tn (by decide)
      have h_tn : S11 tn = some (2004, .inl ((g 0), 12000, .inl (upd tn1 (nI ((1000 * L9) + n9)).toNatClampNeg (nI (PO ((1000 * k9) + i)).val)))) := by rw [e_13]; exact mp_us _ _ _
      have hfr : ∀ b t e9, B b = some (t, e9) → (t ≠ 2000) → (t ≠ 2002) → (t ≠ 2003) → (t ≠ 2004) → (t ≠ 2005) → (t ≠ 2006) → S11 b = some (t, e9) := fun b t e9 h9 k0 k1 k2 k3 k4 k5 => by rw [e_13]; exact mp_keep (hfr b t e9 h9 k0 k1 k2 k3 k4 k5) h_tn_o (by omega)
      rw [nI_clamp (by omega)] at h_tn
      refine lv_iload_n hx hb d_M_take_118 rfl (lv_at hl 2 rfl) ?_
      refine lv_iconst (v := (-1)) hx hb d_M_take_119 (by decide) ?_
      rcases hti.2.2.2.2 with ⟨hn0, hv0, hv9e⟩ | ⟨t9, ht9, hv0, hh9, hm9⟩
      · subst hv0
        refine lv_icmp_eq (tgt := 132) hx hb d_M_take_120 (by decide) (fun _ => ?_) (fun h9 => absurd (rfl) h9)
        refine lv_iload hx hb d_M_take_132 (lv_at hl 1 rfl) ?_
        refine lv_istore_n (lv' := [(3, .int (nI i)), (5, .int (nI (PO ((1000 * k9) + i)).val)), (4, .int (nI i)), (2, .int (nI n9)), (1, .int (nI k9)), (0, .ref o)]) hx hb d_M_take_134 rfl hl (by decide) rfl (fun ls hl => ?_)
        refine lv_aload_n hx hb d_M_take_135 rfl (lv_at hl 5 rfl) ?_
        refine mp_get (C := R_M) (T := F_M) (N := 31) (v := .ref hv9) hx hb hg i_M hown hK.va hI h_o rfl 10 (by decide) (hg _ q_814) (fun _ h9 => h9) rfl d_M_take_136 ?_
        refine lv_aload_n hx hb d_M_take_139 rfl (lv_at hl 5 rfl) ?_
        refine mp_get (C := R_M) (T := F_M) (N := 31) (v := .int (nI L9)) hx hb hg i_M hown hK.va hI h_o rfl 5 (by decide) (hg _ q_809) (fun _ h9 => h9) rfl d_M_take_140 ?_
        refine lv_iload hx hb d_M_take_143 (lv_at hl 1 rfl) ?_
        refine mp_iast hx hb hK.va hI 0 h_hv9 rfl (vp_in_nI (show L9 < 12 by omega) (by omega)) d_M_take_145 (fun S14 H15 locs e_16 hI => ?_)
        have h_hv9_o := h_hv9
        have e_16 : S14 = va_up S11 hv9 (some (2006, .inl ((g 0), 12, .inl (upd hv1 (nI L9).toNatClampNeg (nI (PO ((1000 * k9) + i)).val))))) := e_16
        have h_o : S14 o = some (2000, .inr (10, [mv0, mv1, .int (nI (tk + 1)), .int (nI 0), .ref pa, .int (nI L9), .ref te, .ref tp, .ref tn, .ref hd, .ref hv9, mv11, .int (nI 0), mv13, mv14, mv15, mv16, mv17, mv18, mv19, mv20, mv21, mv22, mv23, mv24, mv25, mv26, mv27, mv28, mv29, mv30])) := by rw [e_16]; exact mp_keep h_o h_hv9 (by decide)
        have h_pa : S14 pa = some (2001, .inl ((g 0), 40000, .inl (fun j => nI (PO j).val))) := by rw [e_16]; exact mp_keep h_pa h_hv9 (by decide)
        have h_te : S14 te = some (2002, .inl ((g 0), 12, .inl tf)) := by rw [e_16]; exact mp_keep h_te h_hv9 (by decide)
        have h_tp : S14 tp = some (2003, .inl ((g 0), 12000, .inl (upd tp1 ((1000 * L9) + n9) (nI i)))) := by rw [e_16]; exact mp_keep h_tp h_hv9 (by decide)
        have h_tn : S14 tn = some (2004, .inl ((g 0), 12000, .inl (upd tn1 ((1000 * L9) + n9) (nI (PO ((1000 * k9) + i)).val)))) := by rw [e_16]; exact mp_keep h_tn h_hv9 (by decide)
        have h_hd : S14 hd = some (2005, .inl ((g 0), 12, .inl hf)) := by rw [e_16]; exact mp_keep h_hd h_hv9 (by decide)
        have h_hv9 : S14 hv9 = some (2006, .inl ((g 0), 12, .inl (upd hv1 (nI L9).toNatClampNeg (nI (PO ((1000 * k9) + i)).val)))) := by rw [e_16]; exact mp_us _ _ _
        have hfr : ∀ b t e9, B b = some (t, e9) → (t ≠ 2000) → (t ≠ 2002) → (t ≠ 2003) → (t ≠ 2004) → (t ≠ 2005) → (t ≠ 2006) → S14 b = some (t, e9) := fun b t e9 h9 k0 k1 k2 k3 k4 k5 => by rw [e_16]; exact mp_keep (hfr b t e9 h9 k0 k1 k2 k3 k4 k5) h_hv9_o (by omega)
        rw [nI_clamp (by omega)] at h_hv9
        refine lv_iinc (v := nI (n9 + 1)) (lv' := [(2, .int (nI (n9 + 1))), (3, .int (nI i)), (5, .int (nI (PO ((1000 * k9) + i)).val)), (4, .int (nI i)), (1, .int (nI k9)), (0, .ref o)]) hx hb d_M_take_146 hl (k := 3) rfl (nI_1 _) (by decide) rfl (fun ls hl => ?_)
        refine lv_iinc (v := nI (i + 1)) (lv' := [(4, .int (nI (i + 1))), (2, .int (nI (n9 + 1))), (3, .int (nI i)), (5, .int (nI (PO ((1000 * k9) + i)).val)), (1, .int (nI k9)), (0, .ref o)]) hx hb d_M_take_149 hl (k := 3) rfl (nI_1 _) (by decide) rfl (fun ls hl => ?_)
        refine lv_goto (tgt := 56) hx hb d_M_take_152 (by decide) ?_
        exact ih (i + 1) (n9 + 1) (nI i) (upd tp1 (1000 * L9 + n9) (nI i)) (upd tn1 (1000 * L9 + n9) (nI (PO (1000 * k9 + i)).val)) (upd hv1 L9 (nI (PO (1000 * k9 + i)).val)) (va_up pj n9 i) S14 H15 locs ls (by omega) (tkI_top hti hy9 (fun j hj => absurd hj (by omega))) h_o h_pa h_te h_tp h_tn h_hd h_hv9 hfr hI (lv_sub hl [0, 2, 1, 4, 5] rfl) kx
      · have hp9 := (hti.1.1 t9 ht9).1
        subst hv0
        refine lv_icmp_eq (tgt := 132) hx hb d_M_take_120 (by decide) (fun h9 => absurd h9 (nI_nm9 (by omega))) (fun _ => ?_)
        refine lv_iload hx hb d_M_take_123 (lv_at hl 1 rfl) ?_
        refine lv_iload_n hx hb d_M_take_125 rfl (lv_at hl 2 rfl) ?_
        refine mp_calli hI (va_runS (As := [.int (nI i), .int (nI (pj t9))]) (rest := []) ⟨hx, hb, hml, hown, hg⟩ (c_M_isAbove l D g S11 _ i (pj t9) (by omega) (by omega)) ⟨(callB_of 2 hg (wd_goodG q_937) rfl rfl rfl (hg _ q_5) (hg _ q_935) (by decide +kernel) ⟨Nat.le_trans (Nat.le_of_ble_eq_true rfl) hRf, Nat.le_trans (Nat.le_of_ble_eq_true rfl) hRl⟩), hg _ q_936⟩ (mp_pre hI hK [.int (nI i), .int (nI (pj t9))]) rfl rfl hl.1 rfl (lv_room (Nat.le_of_ble_eq_true rfl)) d_M_take_126 ⟨by omega, by omega⟩) (fun r20 S17 H18 locs p_19 hI => ?_)
        obtain ⟨er20, eS21⟩ := p_19
        rw [eS21] at hI
        rcases er20 with ⟨hab, rfl⟩ | ⟨hab, rfl⟩
        · refine lv_if_eq (tgt := 146) hx hb d_M_take_129 (by decide) (fun h9 => absurd h9 (by decide)) (fun _ => ?_)
          refine lv_iload hx hb d_M_take_132 (lv_at hl 1 rfl) ?_
          refine lv_istore_n (lv' := [(3, .int (nI i)), (5, .int (nI (PO ((1000 * k9) + i)).val)), (4, .int (nI i)), (2, .int (nI n9)), (1, .int (nI k9)), (0, .ref o)]) hx hb d_M_take_134 rfl hl (by decide) rfl (fun ls hl => ?_)
          refine lv_aload_n hx hb d_M_take_135 rfl (lv_at hl 5 rfl) ?_
          refine mp_get (C := R_M) (T := F_M) (N := 31) (v := .ref hv9) hx hb hg i_M hown hK.va hI h_o rfl 10 (by decide) (hg _ q_814) (fun _ h9 => h9) rfl d_M_take_136 ?_
          refine lv_aload_n hx hb d_M_take_139 rfl (lv_at hl 5 rfl) ?_
          refine mp_get (C := R_M) (T := F_M) (N := 31) (v := .int (nI L9)) hx hb hg i_M hown hK.va hI h_o rfl 5 (by decide) (hg _ q_809) (fun _ h9 => h9) rfl d_M_take_140 ?_
          refine lv_iload hx hb d_M_take_143 (lv_at hl 1 rfl) ?_
          refine mp_iast hx hb hK.va hI 0 h_hv9 rfl (vp_in_nI (show L9 < 12 by omega) (by omega)) d_M_take_145 (fun S22 H23 locs e_24 hI => ?_)
          have h_hv9_o := h_hv9
          have e_24 : S22 = va_up S11 hv9 (some (2006, .inl ((g 0), 12, .inl (upd hv1 (nI L9).toNatClampNeg (nI (PO ((1000 * k9) + i)).val))))) := e_24
          have h_o : S22 o = some (2000, .inr (10, [mv0, mv1, .int (nI (tk + 1)), .int (nI 0), .ref pa, .int (nI L9), .ref te, .ref tp, .ref tn, .ref hd, .ref hv9, mv11, .int (nI 0), mv13, mv14, mv15, mv16, mv17, mv18, mv19, mv20, mv21, mv22, mv23, mv24, mv25, mv26, mv27, mv28, mv29, mv30])) := by rw [e_24]; exact mp_keep h_o h_hv9 (by decide)
          have h_pa : S22 pa = some (2001, .inl ((g 0), 40000, .inl (fun j => nI (PO j).val))) := by rw [e_24]; exact mp_keep h_pa h_hv9 (by decide)
          have h_te : S22 te = some (2002, .inl ((g 0), 12, .inl tf)) := by rw [e_24]; exact mp_keep h_te h_hv9 (by decide)
          have h_tp : S22 tp = some (2003, .inl ((g 0), 12000, .inl (upd tp1 ((1000 * L9) + n9) (nI i)))) := by rw [e_24]; exact mp_keep h_tp h_hv9 (by decide)
          have h_tn : S22 tn = some (2004, .inl ((g 0), 12000, .inl (upd tn1 ((1000 * L9) + n9) (nI (PO ((1000 * k9) + i)).val)))) := by rw [e_24]; exact mp_keep h_tn h_hv9 (by decide)
          have h_hd : S22 hd = some (2005, .inl ((g 0), 12, .inl hf)) := by rw [e_24]; exact mp_keep h_hd h_hv9 (by decide)
          have h_hv9 : S22 hv9 = some (2006, .inl ((g 0), 12, .inl (upd hv1 (nI L9).toNatClampNeg (nI (PO ((1000 * k9) + i)).val)))) := by rw [e_24]; exact mp_us _ _ _
          have hfr : ∀ b t e9, B b = some (t, e9) → (t ≠ 2000) → (t ≠ 2002) → (t ≠ 2003) → (t ≠ 2004) → (t ≠ 2005) → (t ≠ 2006) → S22 b = some (t, e9) := fun b t e9 h9 k0 k1 k2 k3 k4 k5 => by rw [e_24]; exact mp_keep (hfr b t e9 h9 k0 k1 k2 k3 k4 k5) h_hv9_o (by omega)
          rw [nI_clamp (by omega)] at h_hv9
          refine lv_iinc (v := nI (n9 + 1)) (lv' := [(2, .int (nI (n9 + 1))), (3, .int (nI i)), (5, .int (nI (PO ((1000 * k9) + i)).val)), (4, .int (nI i)), (1, .int (nI k9)), (0, .ref o)]) hx hb d_M_take_146 hl (k := 3) rfl (nI_1 _) (by decide) rfl (fun ls hl => ?_)
          refine lv_iinc (v := nI (i + 1)) (lv' := [(4, .int (nI (i + 1))), (2, .int (nI (n9 + 1))), (3, .int (nI i)), (5, .int (nI (PO ((1000 * k9) + i)).val)), (1, .int (nI k9)), (0, .ref o)]) hx hb d_M_take_149 hl (k := 3) rfl (nI_1 _) (by decide) rfl (fun ls hl => ?_)
          refine lv_goto (tgt := 56) hx hb d_M_take_152 (by decide) ?_
          exact ih (i + 1) (n9 + 1) (nI i) (upd tp1 (1000 * L9 + n9) (nI i)) (upd tn1 (1000 * L9 + n9) (nI (PO (1000 * k9 + i)).val)) (upd hv1 L9 (nI (PO (1000 * k9 + i)).val)) (va_up pj n9 i) S22 H23 locs ls (by omega) (tkI_top hti hy9 (fun j hj => Nat.le_of_lt (Nat.lt_of_le_of_lt (hm9 j hj) ((ab_pl _ _).mp hab)))) h_o h_pa h_te h_tp h_tn h_hd h_hv9 hfr hI (lv_sub hl [0, 2, 1, 4, 5] rfl) kx
        · refine lv_if_eq (tgt := 146) hx hb d_M_take_129 (by decide) (fun _ => ?_) (fun h9 => absurd (by decide) h9)
          refine lv_iinc (v := nI (n9 + 1)) (lv' := [(2, .int (nI (n9 + 1))), (5, .int (nI (PO ((1000 * k9) + i)).val)), (4, .int (nI i)), (3, .int (nI (pj t9))), (1, .int (nI k9)), (0, .ref o)]) hx hb d_M_take_146 hl (k := 3) rfl (nI_1 _) (by decide) rfl (fun ls hl => ?_)
          refine lv_iinc (v := nI (i + 1)) (lv' := [(4, .int (nI (i + 1))), (2, .int (nI (n9 + 1))), (5, .int (nI (PO ((1000 * k9) + i)).val)), (3, .int (nI (pj t9))), (1, .int (nI k9)), (0, .ref o)]) hx hb d_M_take_149 hl (k := 2) rfl (nI_1 _) (by decide) rfl (fun ls hl => ?_)
          refine lv_goto (tgt := 56) hx hb d_M_take_152 (by decide) ?_
          exact ih (i + 1) (n9 + 1) (nI (pj t9)) (upd tp1 (1000 * L9 + n9) (nI i)) (upd tn1 (1000 * L9 + n9) (nI (PO (1000 * k9 + i)).val)) hv1 (va_up pj n9 i) S11 H18 locs ls (by omega) (tkI_keep hti hy9 ht9 rfl hh9 hm9 (Nat.not_lt.mp (fun q => hab ((ab_pl i (pj t9)).mpr q)))) h_o h_pa h_te h_tp h_tn h_hd h_hv9 hfr hI (lv_sub hl [0, 3, 1, 4, 5] rfl) kx
set_option maxHeartbeats 4000000 in
set_option maxRecDepth 100000 in
/-- take, in the reference -/
theorem c_M_take (l : Launch) (D : mp_G) (g : Nat → ClassId) (S : mp_M) (sz : Nat) (o pa te tp tn hd hv9 k9 tk L9 : Nat) (mv0 mv1 mv11 mv13 mv14 mv15 mv16 mv17 mv18 mv19 mv20 mv21 mv22 mv23 mv24 mv25 mv26 mv27 mv28 mv29 mv30 : Value) (PO : Nat → fF) (tf tpf tnf hf hif : Nat → Int32) (th kn : Int32) (h_o : S o = some (2000, .inr (10, [mv0, mv1, .int (nI tk), .int th, .ref pa, .int (nI L9), .ref te, .ref tp, .ref tn, .ref hd, .ref hv9, mv11, .int kn, mv13, mv14, mv15, mv16, mv17, mv18, mv19, mv20, mv21, mv22, mv23, mv24, mv25, mv26, mv27, mv28, mv29, mv30]))) (h_pa : S pa = some (2001, .inl ((g 0), 40000, .inl (fun j => nI (PO j).val)))) (h_te : S te = some (2002, .inl ((g 0), 12, .inl tf))) (h_tp : S tp = some (2003, .inl ((g 0), 12000, .inl tpf))) (h_tn : S tn = some (2004, .inl ((g 0), 12000, .inl tnf))) (h_hd : S hd = some (2005, .inl ((g 0), 12, .inl hf))) (h_hv9 : S hv9 = some (2006, .inl ((g 0), 12, .inl hif))) (hk9 : k9 < 40) (htk : tk < 12) (hL9 : L9 < 12) : Met l y_M_take w_M_take ({ frames := 3, cells := 0, slots := 0, locals := 63 }) (va_Pc [.ref o, .int (nI k9)] (mp_B0 D classes (tys g) S sz)) (va_Qi (fun (r : Int32) (S1 : mp_M) => r = 1 ∧ ∃ (n9 L1 : Nat) (pj : Nat → Nat) (tf1 tp1 tn1 hf1 hv1 : Nat → Int32), tkR (fun q => PO (1000 * k9 + q)) L9 L1 n9 pj tf tf1 tpf tp1 tnf tn1 hf hf1 hif hv1 ∧ S1 o = some (2000, .inr (10, [mv0, mv1, .int (nI (tk + 1)), .int (nI 0), .ref pa, .int (nI L1), .ref te, .ref tp, .ref tn, .ref hd, .ref hv9, mv11, .int (nI 0), mv13, mv14, mv15, mv16, mv17, mv18, mv19, mv20, mv21, mv22, mv23, mv24, mv25, mv26, mv27, mv28, mv29, mv30])) ∧ S1 te = some (2002, .inl ((g 0), 12, .inl tf1)) ∧ S1 tp = some (2003, .inl ((g 0), 12000, .inl tp1)) ∧ S1 tn = some (2004, .inl ((g 0), 12000, .inl tn1)) ∧ S1 hd = some (2005, .inl ((g 0), 12, .inl hf1)) ∧ S1 hv9 = some (2006, .inl ((g 0), 12, .inl hv1)) ∧ (∀ b t e9, S b = some (t, e9) → (t ≠ 2000) → (t ≠ 2002) → (t ≠ 2003) → (t ≠ 2004) → (t ≠ 2005) → (t ≠ 2006) → S1 b = some (t, e9))) (mp_B1 D classes S sz) (mp_A S sz)) 0 0 (mp_A S sz) := by
  refine Met.ofW (cc := b_M_take) (maxL := 6) (ret := (some .boolean)) (by decide) rfl ?_
  intro p e s m args below meth c s₁ B hml hv
  obtain ⟨rfl, hsz, hH, hK⟩ := hv
  have hx := B.exec
  have hb := B.bytes
  have hr := B.returns
  have hts := atoms_spec (ws := w_M_take) B.pre
  have hg : ∀ w ∈ gw, w.before _ s = true := fun w h => hts w (List.mem_cons_of_mem _ h)
  have hown : s.vm.findClass R_M = some m.cls := findClass_of_methodNamed B.named
  have hlocks := B.notSynchronized
  subst hsz
  have hI := mp_I.start hH
  have hl := lv_entry ([.ref o, .int (nI k9)]) (n := 6) (Nat.le_of_ble_eq_true rfl)
  rw [lg_entry_eq]
  generalize (lg_sl ([.ref o, .int (nI k9)]) ++ List.replicate (6 - (lg_sl ([.ref o, .int (nI k9)])).length) Slot.unset).toArray = ls at hl ⊢
  have hl : lv_has ls 6 [(0, .ref o), (1, .int (nI k9))] := hl
  have hfr : ∀ b t e9, S b = some (t, e9) → (t ≠ 2000) → (t ≠ 2002) → (t ≠ 2003) → (t ≠ 2004) → (t ≠ 2005) → (t ≠ 2006) → S b = some (t, e9) := fun _ _ _ h9 _ _ _ _ _ _ => h9
  refine lv_aload_n hx hb d_M_take_0 rfl (lv_at hl 0 rfl) ?_
  refine lv_iload_n hx hb d_M_take_1 rfl (lv_at hl 1 rfl) ?_
  refine mp_calli hI (va_runS (As := [.int (nI k9)]) (rest := [.ref o]) ⟨hx, hb, hml, hown, hg⟩ (c_M_isPoly l D g S _ k9 hk9) ⟨(callB_of 1 hg (wd_goodG q_913) rfl rfl rfl (hg _ q_5) (hg _ q_911) (by decide +kernel) ⟨Nat.le_of_ble_eq_true rfl, Nat.le_of_ble_eq_true rfl⟩), hg _ q_912⟩ (mp_pre hI hK [.int (nI k9)]) rfl rfl hl.1 rfl (lv_room (Nat.le_of_ble_eq_true rfl)) d_M_take_2 ⟨Nat.le_of_ble_eq_true rfl, Nat.le_of_ble_eq_true rfl⟩) (fun r4 S1 H2 locs p_3 hI => ?_)
  obtain ⟨er4, eS5⟩ := p_3
  rw [eS5] at hI
  have er4 : r4 = 1 := er4
  subst er4
  refine lv_if_eq (tgt := 12) hx hb d_M_take_5 (by decide) (fun h9 => absurd h9 (by decide)) (fun _ => ?_)
  refine lv_iconst (v := nI 0) hx hb d_M_take_8 (by decide) ?_
  refine lv_goto (tgt := 13) hx hb d_M_take_9 (by decide) ?_
  refine mp_put (C := R_M) (T := F_M) (N := 31) (v := .int (nI 0)) (ty := .int) hx hb hg i_M t_M t_M_ok n_M hown hK.va hI h_o rfl 3 (by decide) (hg _ q_807) (fun _ h9 => h9) rfl (by decide +kernel) (rfl) rfl (Nat.le_of_ble_eq_true rfl) d_M_take_13 (fun S6 H7 locs e_8 hI => ?_)
  have h_o_o := h_o
  have e_8 : S6 = va_up S o (some (2000, .inr (10, [mv0, mv1, .int (nI tk), .int (nI 0), .ref pa, .int (nI L9), .ref te, .ref tp, .ref tn, .ref hd, .ref hv9, mv11, .int kn, mv13, mv14, mv15, mv16, mv17, mv18, mv19, mv20, mv21, mv22, mv23, mv24, mv25, mv26, mv27, mv28, mv29, mv30]))) := e_8
  have h_pa : S6 pa = some (2001, .inl ((g 0), 40000, .inl (fun j => nI (PO j).val))) := by rw [e_8]; exact mp_keep h_pa h_o (by decide)
  have h_te : S6 te = some (2002, .inl ((g 0), 12, .inl tf)) := by rw [e_8]; exact mp_keep h_te h_o (by decide)
  have h_tp : S6 tp = some (2003, .inl ((g 0), 12000, .inl tpf)) := by rw [e_8]; exact mp_keep h_tp h_o (by decide)
  have h_tn : S6 tn = some (2004, .inl ((g 0), 12000, .inl tnf)) := by rw [e_8]; exact mp_keep h_tn h_o (by decide)
  have h_hd : S6 hd = some (2005, .inl ((g 0), 12, .inl hf)) := by rw [e_8]; exact mp_keep h_hd h_o (by decide)
  have h_hv9 : S6 hv9 = some (2006, .inl ((g 0), 12, .inl hif)) := by rw [e_8]; exact mp_keep h_hv9 h_o (by decide)
  have h_o : S6 o = some (2000, .inr (10, [mv0, mv1, .int (nI tk), .int (nI 0), .ref pa, .int (nI L9), .ref te, .ref tp, .ref tn, .ref hd, .ref hv9, mv11, .int kn, mv13, mv14, mv15, mv16, mv17, mv18, mv19, mv20, mv21, mv22, mv23, mv24, mv25, mv26, mv27, mv28, mv29, mv30])) := by rw [e_8]; exact mp_us _ _ _
  have hfr : ∀ b t e9, S b = some (t, e9) → (t ≠ 2000) → (t ≠ 2002) → (t ≠ 2003) → (t ≠ 2004) → (t ≠ 2005) → (t ≠ 2006) → S6 b = some (t, e9) := fun b t e9 h9 k0 k1 k2 k3 k4 k5 => by rw [e_8]; exact mp_keep (hfr b t e9 h9 k0 k1 k2 k3 k4 k5) h_o_o (by omega)
  refine lv_aload_n hx hb d_M_take_16 rfl (lv_at hl 0 rfl) ?_
  refine mp_get (C := R_M) (T := F_M) (N := 31) (v := .int (nI 0)) hx hb hg i_M hown hK.va hI h_o rfl 3 (by decide) (hg _ q_807) (fun _ h9 => h9) rfl d_M_take_17 ?_
  refine lv_if_ne (tgt := 32) hx hb d_M_take_20 (by decide) (fun h9 => absurd h9 (by decide)) (fun _ => ?_)
  refine lv_aload_n hx hb d_M_take_23 rfl (lv_at hl 0 rfl) ?_
  refine mp_get (C := R_M) (T := F_M) (N := 31) (v := .int (nI tk)) hx hb hg i_M hown hK.va hI h_o rfl 2 (by decide) (hg _ q_806) (fun _ h9 => h9) rfl d_M_take_24 ?_
  refine lv_bipush (v := nI 12) hx hb d_M_take_27 (by decide) ?_
  refine lv_icmp_ne (tgt := 34) hx hb d_M_take_29 (by decide) (fun _ => ?_) (fun h9 => absurd h9 (fun h9 => absurd ((nI_eq (by omega) (by omega)).mp h9) (by omega)))
  refine lv_aload_n hx hb d_M_take_34 rfl (lv_at hl 0 rfl) ?_
  refine lv_dup hx hb d_M_take_35 rfl ?_
  refine mp_get (C := R_M) (T := F_M) (N := 31) (v := .int (nI tk)) hx hb hg i_M hown hK.va hI h_o rfl 2 (by decide) (hg _ q_806) (fun _ h9 => h9) rfl d_M_take_36 ?_
  refine lv_iconst (v := nI 1) hx hb d_M_take_39 (by decide) ?_
  refine lv_iadd hx hb d_M_take_40 ?_
  refine lv_topi (fun v9 ev9 => ?_)
  obtain rfl : v9 = nI (tk + 1) := ev9.trans (nI_add _ _)
  refine mp_put (C := R_M) (T := F_M) (N := 31) (v := .int (nI (tk + 1))) (ty := .int) hx hb hg i_M t_M t_M_ok n_M hown hK.va hI h_o rfl 2 (by decide) (hg _ q_806) (fun _ h9 => h9) rfl (by decide +kernel) (rfl) rfl (Nat.le_of_ble_eq_true rfl) d_M_take_41 (fun S10 H11 locs e_12 hI => ?_)
  have h_o_o := h_o
  have e_12 : S10 = va_up S6 o (some (2000, .inr (10, [mv0, mv1, .int (nI (tk + 1)), .int (nI 0), .ref pa, .int (nI L9), .ref te, .ref tp, .ref tn, .ref hd, .ref hv9, mv11, .int kn, mv13, mv14, mv15, mv16, mv17, mv18, mv19, mv20, mv21, mv22, mv23, mv24, mv25, mv26, mv27, mv28, mv29, mv30]))) := e_12
  have h_pa : S10 pa = some (2001, .inl ((g 0), 40000, .inl (fun j => nI (PO j).val))) := by rw [e_12]; exact mp_keep h_pa h_o (by decide)
  have h_te : S10 te = some (2002, .inl ((g 0), 12, .inl tf)) := by rw [e_12]; exact mp_keep h_te h_o (by decide)
  have h_tp : S10 tp = some (2003, .inl ((g 0), 12000, .inl tpf)) := by rw [e_12]; exact mp_keep h_tp h_o (by decide)
  have h_tn : S10 tn = some (2004, .inl ((g 0), 12000, .inl tnf)) := by rw [e_12]; exact mp_keep h_tn h_o (by decide)
  have h_hd : S10 hd = some (2005, .inl ((g 0), 12, .inl hf)) := by rw [e_12]; exact mp_keep h_hd h_o (by decide)
  have h_hv9 : S10 hv9 = some (2006, .inl ((g 0), 12, .inl hif)) := by rw [e_12]; exact mp_keep h_hv9 h_o (by decide)
  have h_o : S10 o = some (2000, .inr (10, [mv0, mv1, .int (nI (tk + 1)), .int (nI 0), .ref pa, .int (nI L9), .ref te, .ref tp, .ref tn, .ref hd, .ref hv9, mv11, .int kn, mv13, mv14, mv15, mv16, mv17, mv18, mv19, mv20, mv21, mv22, mv23, mv24, mv25, mv26, mv27, mv28, mv29, mv30])) := by rw [e_12]; exact mp_us _ _ _
  have hfr : ∀ b t e9, S b = some (t, e9) → (t ≠ 2000) → (t ≠ 2002) → (t ≠ 2003) → (t ≠ 2004) → (t ≠ 2005) → (t ≠ 2006) → S10 b = some (t, e9) := fun b t e9 h9 k0 k1 k2 k3 k4 k5 => by rw [e_12]; exact mp_keep (hfr b t e9 h9 k0 k1 k2 k3 k4 k5) h_o_o (by omega)
  refine lv_aload_n hx hb d_M_take_44 rfl (lv_at hl 0 rfl) ?_
  refine lv_iconst (v := nI 0) hx hb d_M_take_45 (by decide) ?_
  refine mp_put (C := R_M) (T := F_M) (N := 31) (v := .int (nI 0)) (ty := .boolean) hx hb hg i_M t_M t_M_ok n_M hown hK.va hI h_o rfl 12 (by decide) (hg _ q_816) (fun _ h9 => h9) rfl (by decide +kernel) (rfl) rfl (Nat.le_of_ble_eq_true rfl) d_M_take_46 (fun S13 H14 locs e_15 hI => ?_)
  have h_o_o := h_o
  have e_15 : S13 = va_up S10 o (some (2000, .inr (10, [mv0, mv1, .int (nI (tk + 1)), .int (nI 0), .ref pa, .int (nI L9), .ref te, .ref tp, .ref tn, .ref hd, .ref hv9, mv11, .int (nI 0), mv13, mv14, mv15, mv16, mv17, mv18, mv19, mv20, mv21, mv22, mv23, mv24, mv25, mv26, mv27, mv28, mv29, mv30]))) := e_15
  have h_pa : S13 pa = some (2001, .inl ((g 0), 40000, .inl (fun j => nI (PO j).val))) := by rw [e_15]; exact mp_keep h_pa h_o (by decide)
  have h_te : S13 te = some (2002, .inl ((g 0), 12, .inl tf)) := by rw [e_15]; exact mp_keep h_te h_o (by decide)
  have h_tp : S13 tp = some (2003, .inl ((g 0), 12000, .inl tpf)) := by rw [e_15]; exact mp_keep h_tp h_o (by decide)
  have h_tn : S13 tn = some (2004, .inl ((g 0), 12000, .inl tnf)) := by rw [e_15]; exact mp_keep h_tn h_o (by decide)
  have h_hd : S13 hd = some (2005, .inl ((g 0), 12, .inl hf)) := by rw [e_15]; exact mp_keep h_hd h_o (by decide)
  have h_hv9 : S13 hv9 = some (2006, .inl ((g 0), 12, .inl hif)) := by rw [e_15]; exact mp_keep h_hv9 h_o (by decide)
  have h_o : S13 o = some (2000, .inr (10, [mv0, mv1, .int (nI (tk + 1)), .int (nI 0), .ref pa, .int (nI L9), .ref te, .ref tp, .ref tn, .ref hd, .ref hv9, mv11, .int (nI 0), mv13, mv14, mv15, mv16, mv17, mv18, mv19, mv20, mv21, mv22, mv23, mv24, mv25, mv26, mv27, mv28, mv29, mv30])) := by rw [e_15]; exact mp_us _ _ _
  have hfr : ∀ b t e9, S b = some (t, e9) → (t ≠ 2000) → (t ≠ 2002) → (t ≠ 2003) → (t ≠ 2004) → (t ≠ 2005) → (t ≠ 2006) → S13 b = some (t, e9) := fun b t e9 h9 k0 k1 k2 k3 k4 k5 => by rw [e_15]; exact mp_keep (hfr b t e9 h9 k0 k1 k2 k3 k4 k5) h_o_o (by omega)
  refine lv_iconst (v := nI 0) hx hb d_M_take_49 (by decide) ?_
  refine lv_istore_n (lv' := [(2, .int (nI 0)), (0, .ref o), (1, .int (nI k9))]) hx hb d_M_take_50 rfl hl (by decide) rfl (fun ls hl => ?_)
  refine lv_iconst (v := (-1)) hx hb d_M_take_51 (by decide) ?_
  refine lv_istore_n (lv' := [(3, .int (-1)), (2, .int (nI 0)), (0, .ref o), (1, .int (nI k9))]) hx hb d_M_take_52 rfl hl (by decide) rfl (fun ls hl => ?_)
  refine lv_iconst (v := nI 0) hx hb d_M_take_53 (by decide) ?_
  refine lv_istore (lv' := [(4, .int (nI 0)), (3, .int (-1)), (2, .int (nI 0)), (0, .ref o), (1, .int (nI k9))]) hx hb d_M_take_54 hl (by decide) rfl (fun ls hl => ?_)
  refine lp_M_tk (B := S) (o := o) (pa := pa) (te := te) (tp := tp) (tn := tn) (hd := hd) (hv9 := hv9) (k9 := k9) (tk := tk) (L9 := L9) (mv0 := mv0) (mv1 := mv1) (mv11 := mv11) (mv13 := mv13) (mv14 := mv14) (mv15 := mv15) (mv16 := mv16) (mv17 := mv17) (mv18 := mv18) (mv19 := mv19) (mv20 := mv20) (mv21 := mv21) (mv22 := mv22) (mv23 := mv23) (mv24 := mv24) (mv25 := mv25) (mv26 := mv26) (mv27 := mv27) (mv28 := mv28) (mv29 := mv29) (mv30 := mv30) (PO := PO) (tf := tf) (tpf := tpf) (tnf := tnf) (hf := hf) (hif := hif) hx hb hml hg hown hK (Nat.le_of_ble_eq_true rfl) (Nat.le_of_ble_eq_true rfl) (Nat.le_of_ble_eq_true rfl) (Nat.le_of_ble_eq_true rfl) hk9 htk hL9 1000 0 0 (-1) tpf tnf hif (fun _ => 0) S13 H14 _ ls (by omega) (tkI_0 _ _ _ _ _ _) h_o h_pa h_te h_tp h_tn h_hd h_hv9 hfr hI (lv_sub hl [0, 1, 2, 4, 3] rfl) (fun n9 v3 tp1 tn1 hv1 pj S16 H17 locs ls hti h_o h_pa h_te h_tp h_tn h_hd h_hv9 hfr hI hl => ?_)
  have hn9 := colS_le hti.1
  refine lv_iload_n hx hb d_M_take_155 rfl (lv_at hl 2 rfl) ?_
  rcases hti.2.2.2.2 with ⟨hn0, hv0, hv9e⟩ | ⟨t9, ht9, hv0, hh9, hm9⟩
  · subst hn0
    refine lv_if_ne (tgt := 161) hx hb d_M_take_156 (by decide) (fun h9 => absurd h9 (by decide)) (fun _ => ?_)
    refine lv_iconst (v := nI 1) hx hb d_M_take_159 (by decide) ?_
    refine mp_zret hx hb hr hlocks hI (Nat.le_of_ble_eq_true rfl) (Nat.le_of_ble_eq_true rfl) ?_ (by decide) d_M_take_160
    exact ⟨rfl, 0, L9, pj, tf, tp1, tn1, hf, hv1, ⟨hti.1, hti.2.1, hti.2.2.1, fun q hq => ⟨rfl, rfl, hti.2.2.2.1 q hq⟩, Or.inl ⟨rfl, rfl⟩⟩, h_o, h_te, h_tp, h_tn, h_hd, h_hv9, hfr⟩
  · have hp9 := (hti.1.1 t9 ht9).1
    subst hv0
    refine lv_if_ne (tgt := 161) hx hb d_M_take_156 (by decide) (fun _ => ?_) (fun h9 => absurd h9 (by rw [zI_eq (by omega)]; omega))
    refine lv_aload_n hx hb d_M_take_161 rfl (lv_at hl 4 rfl) ?_
    refine mp_get (C := R_M) (T := F_M) (N := 31) (v := .ref te) hx hb hg i_M hown hK.va hI h_o rfl 6 (by decide) (hg _ q_810) (fun _ h9 => h9) rfl d_M_take_162 ?_
    refine lv_aload_n hx hb d_M_take_165 rfl (lv_at hl 4 rfl) ?_
    refine mp_get (C := R_M) (T := F_M) (N := 31) (v := .int (nI L9)) hx hb hg i_M hown hK.va hI h_o rfl 5 (by decide) (hg _ q_809) (fun _ h9 => h9) rfl d_M_take_166 ?_
    refine lv_iload_n hx hb d_M_take_169 rfl (lv_at hl 2 rfl) ?_
    refine mp_iast hx hb hK.va hI 0 h_te rfl (vp_in_nI (show L9 < 12 by omega) (by omega)) d_M_take_170 (fun S18 H19 locs e_20 hI => ?_)
    have h_te_o := h_te
    have e_20 : S18 = va_up S16 te (some (2002, .inl ((g 0), 12, .inl (upd tf (nI L9).toNatClampNeg (nI n9))))) := e_20
    have h_o : S18 o = some (2000, .inr (10, [mv0, mv1, .int (nI (tk + 1)), .int (nI 0), .ref pa, .int (nI L9), .ref te, .ref tp, .ref tn, .ref hd, .ref hv9, mv11, .int (nI 0), mv13, mv14, mv15, mv16, mv17, mv18, mv19, mv20, mv21, mv22, mv23, mv24, mv25, mv26, mv27, mv28, mv29, mv30])) := by rw [e_20]; exact mp_keep h_o h_te (by decide)
    have h_pa : S18 pa = some (2001, .inl ((g 0), 40000, .inl (fun j => nI (PO j).val))) := by rw [e_20]; exact mp_keep h_pa h_te (by decide)
    have h_tp : S18 tp = some (2003, .inl ((g 0), 12000, .inl tp1)) := by rw [e_20]; exact mp_keep h_tp h_te (by decide)
    have h_tn : S18 tn = some (2004, .inl ((g 0), 12000, .inl tn1)) := by rw [e_20]; exact mp_keep h_tn h_te (by decide)
    have h_hd : S18 hd = some (2005, .inl ((g 0), 12, .inl hf)) := by rw [e_20]; exact mp_keep h_hd h_te (by decide)
    have h_hv9 : S18 hv9 = some (2006, .inl ((g 0), 12, .inl hv1)) := by rw [e_20]; exact mp_keep h_hv9 h_te (by decide)
    have h_te : S18 te = some (2002, .inl ((g 0), 12, .inl (upd tf (nI L9).toNatClampNeg (nI n9)))) := by rw [e_20]; exact mp_us _ _ _
    have hfr : ∀ b t e9, S b = some (t, e9) → (t ≠ 2000) → (t ≠ 2002) → (t ≠ 2003) → (t ≠ 2004) → (t ≠ 2005) → (t ≠ 2006) → S18 b = some (t, e9) := fun b t e9 h9 k0 k1 k2 k3 k4 k5 => by rw [e_20]; exact mp_keep (hfr b t e9 h9 k0 k1 k2 k3 k4 k5) h_te_o (by omega)
    rw [nI_clamp (by omega)] at h_te
    refine lv_aload_n hx hb d_M_take_171 rfl (lv_at hl 4 rfl) ?_
    refine mp_get (C := R_M) (T := F_M) (N := 31) (v := .ref hd) hx hb hg i_M hown hK.va hI h_o rfl 9 (by decide) (hg _ q_813) (fun _ h9 => h9) rfl d_M_take_172 ?_
    refine lv_aload_n hx hb d_M_take_175 rfl (lv_at hl 4 rfl) ?_
    refine mp_get (C := R_M) (T := F_M) (N := 31) (v := .int (nI L9)) hx hb hg i_M hown hK.va hI h_o rfl 5 (by decide) (hg _ q_809) (fun _ h9 => h9) rfl d_M_take_176 ?_
    refine lv_iload_n hx hb d_M_take_179 rfl (lv_at hl 1 rfl) ?_
    refine mp_iast hx hb hK.va hI 0 h_hd rfl (vp_in_nI (show L9 < 12 by omega) (by omega)) d_M_take_180 (fun S21 H22 locs e_23 hI => ?_)
    have h_hd_o := h_hd
    have e_23 : S21 = va_up S18 hd (some (2005, .inl ((g 0), 12, .inl (upd hf (nI L9).toNatClampNeg (nI (pj t9)))))) := e_23
    have h_o : S21 o = some (2000, .inr (10, [mv0, mv1, .int (nI (tk + 1)), .int (nI 0), .ref pa, .int (nI L9), .ref te, .ref tp, .ref tn, .ref hd, .ref hv9, mv11, .int (nI 0), mv13, mv14, mv15, mv16, mv17, mv18, mv19, mv20, mv21, mv22, mv23, mv24, mv25, mv26, mv27, mv28, mv29, mv30])) := by rw [e_23]; exact mp_keep h_o h_hd (by decide)
    have h_pa : S21 pa = some (2001, .inl ((g 0), 40000, .inl (fun j => nI (PO j).val))) := by rw [e_23]; exact mp_keep h_pa h_hd (by decide)
    have h_te : S21 te = some (2002, .inl ((g 0), 12, .inl (upd tf L9 (nI n9)))) := by rw [e_23]; exact mp_keep h_te h_hd (by decide)
    have h_tp : S21 tp = some (2003, .inl ((g 0), 12000, .inl tp1)) := by rw [e_23]; exact mp_keep h_tp h_hd (by decide)
    have h_tn : S21 tn = some (2004, .inl ((g 0), 12000, .inl tn1)) := by rw [e_23]; exact mp_keep h_tn h_hd (by decide)
    have h_hv9 : S21 hv9 = some (2006, .inl ((g 0), 12, .inl hv1)) := by rw [e_23]; exact mp_keep h_hv9 h_hd (by decide)
    have h_hd : S21 hd = some (2005, .inl ((g 0), 12, .inl (upd hf (nI L9).toNatClampNeg (nI (pj t9))))) := by rw [e_23]; exact mp_us _ _ _
    have hfr : ∀ b t e9, S b = some (t, e9) → (t ≠ 2000) → (t ≠ 2002) → (t ≠ 2003) → (t ≠ 2004) → (t ≠ 2005) → (t ≠ 2006) → S21 b = some (t, e9) := fun b t e9 h9 k0 k1 k2 k3 k4 k5 => by rw [e_23]; exact mp_keep (hfr b t e9 h9 k0 k1 k2 k3 k4 k5) h_hd_o (by omega)
    rw [nI_clamp (by omega)] at h_hd
    refine lv_aload_n hx hb d_M_take_181 rfl (lv_at hl 4 rfl) ?_
    refine mp_get (C := R_M) (T := F_M) (N := 31) (v := .ref hv9) hx hb hg i_M hown hK.va hI h_o rfl 10 (by decide) (hg _ q_814) (fun _ h9 => h9) rfl d_M_take_182 ?_
    refine lv_aload_n hx hb d_M_take_185 rfl (lv_at hl 4 rfl) ?_
    refine mp_get (C := R_M) (T := F_M) (N := 31) (v := .int (nI L9)) hx hb hg i_M hown hK.va hI h_o rfl 5 (by decide) (hg _ q_809) (fun _ h9 => h9) rfl d_M_take_186 ?_
    refine lv_aload_n hx hb d_M_take_189 rfl (lv_at hl 4 rfl) ?_
    refine mp_get (C := R_M) (T := F_M) (N := 31) (v := .ref hv9) hx hb hg i_M hown hK.va hI h_o rfl 10 (by decide) (hg _ q_814) (fun _ h9 => h9) rfl d_M_take_190 ?_
    refine lv_aload_n hx hb d_M_take_193 rfl (lv_at hl 4 rfl) ?_
    refine mp_get (C := R_M) (T := F_M) (N := 31) (v := .int (nI L9)) hx hb hg i_M hown hK.va hI h_o rfl 5 (by decide) (hg _ q_809) (fun _ h9 => h9) rfl d_M_take_194 ?_
    refine mp_iald hx hb hK.va hI 0 h_hv9 rfl (vp_in_nI (show L9 < 12 by omega) (by omega)) d_M_take_197 ?_
    refine lv_topi (fun v24 ev24 => ?_)
    obtain rfl : v24 = hv1 L9 := ev24.trans (by rw [nI_clamp (by omega)])
    refine lv_topi (fun v25 ev25 => ?_)
    obtain rfl : v25 = nI (PO (1000 * k9 + pj t9)).val := ev25.trans (hh9)
    refine mp_calli hI (va_runS (As := [.int (nI (PO (1000 * k9 + pj t9)).val)]) (rest := [.int (nI L9), .ref hv9]) ⟨hx, hb, hml, hown, hg⟩ (c_M_inverse l D g S21 _ (PO (1000 * k9 + pj t9)).val (PO (1000 * k9 + pj t9)).isLt) ⟨(callB_of 1 hg (wd_goodG q_924) rfl rfl rfl (hg _ q_5) (hg _ q_922) (by decide +kernel) ⟨Nat.le_of_ble_eq_true rfl, Nat.le_of_ble_eq_true rfl⟩), hg _ q_923⟩ (mp_pre hI hK [.int (nI (PO (1000 * k9 + pj t9)).val)]) rfl rfl hl.1 rfl (lv_room (Nat.le_of_ble_eq_true rfl)) d_M_take_198 ⟨Nat.le_of_ble_eq_true rfl, Nat.le_of_ble_eq_true rfl⟩) (fun r29 S26 H27 locs p_28 hI => ?_)
    obtain ⟨er29, eS30⟩ := p_28
    rw [eS30] at hI
    have er29 : r29 = nI ((PO (1000 * k9 + pj t9)).val ^ 32001 % 32003) := er29
    subst er29
    refine lv_topi (fun v31 ev31 => ?_)
    obtain rfl : v31 = nI (iv (PO (1000 * k9 + pj t9))).val := ev31.trans (congrArg nI (iv_val _))
    refine mp_iast hx hb hK.va hI 0 h_hv9 rfl (vp_in_nI (show L9 < 12 by omega) (by omega)) d_M_take_201 (fun S32 H33 locs e_34 hI => ?_)
    have h_hv9_o := h_hv9
    have e_34 : S32 = va_up S21 hv9 (some (2006, .inl ((g 0), 12, .inl (upd hv1 (nI L9).toNatClampNeg (nI (iv (PO (1000 * k9 + pj t9))).val))))) := e_34
    have h_o : S32 o = some (2000, .inr (10, [mv0, mv1, .int (nI (tk + 1)), .int (nI 0), .ref pa, .int (nI L9), .ref te, .ref tp, .ref tn, .ref hd, .ref hv9, mv11, .int (nI 0), mv13, mv14, mv15, mv16, mv17, mv18, mv19, mv20, mv21, mv22, mv23, mv24, mv25, mv26, mv27, mv28, mv29, mv30])) := by rw [e_34]; exact mp_keep h_o h_hv9 (by decide)
    have h_pa : S32 pa = some (2001, .inl ((g 0), 40000, .inl (fun j => nI (PO j).val))) := by rw [e_34]; exact mp_keep h_pa h_hv9 (by decide)
    have h_te : S32 te = some (2002, .inl ((g 0), 12, .inl (upd tf L9 (nI n9)))) := by rw [e_34]; exact mp_keep h_te h_hv9 (by decide)
    have h_tp : S32 tp = some (2003, .inl ((g 0), 12000, .inl tp1)) := by rw [e_34]; exact mp_keep h_tp h_hv9 (by decide)
    have h_tn : S32 tn = some (2004, .inl ((g 0), 12000, .inl tn1)) := by rw [e_34]; exact mp_keep h_tn h_hv9 (by decide)
    have h_hd : S32 hd = some (2005, .inl ((g 0), 12, .inl (upd hf L9 (nI (pj t9))))) := by rw [e_34]; exact mp_keep h_hd h_hv9 (by decide)
    have h_hv9 : S32 hv9 = some (2006, .inl ((g 0), 12, .inl (upd hv1 (nI L9).toNatClampNeg (nI (iv (PO (1000 * k9 + pj t9))).val)))) := by rw [e_34]; exact mp_us _ _ _
    have hfr : ∀ b t e9, S b = some (t, e9) → (t ≠ 2000) → (t ≠ 2002) → (t ≠ 2003) → (t ≠ 2004) → (t ≠ 2005) → (t ≠ 2006) → S32 b = some (t, e9) := fun b t e9 h9 k0 k1 k2 k3 k4 k5 => by rw [e_34]; exact mp_keep (hfr b t e9 h9 k0 k1 k2 k3 k4 k5) h_hv9_o (by omega)
    rw [nI_clamp (by omega)] at h_hv9
    refine lv_aload_n hx hb d_M_take_202 rfl (lv_at hl 4 rfl) ?_
    refine lv_dup hx hb d_M_take_203 rfl ?_
    refine mp_get (C := R_M) (T := F_M) (N := 31) (v := .int (nI L9)) hx hb hg i_M hown hK.va hI h_o rfl 5 (by decide) (hg _ q_809) (fun _ h9 => h9) rfl d_M_take_204 ?_
    refine lv_iconst (v := nI 1) hx hb d_M_take_207 (by decide) ?_
    refine lv_iadd hx hb d_M_take_208 ?_
    refine lv_topi (fun v35 ev35 => ?_)
    obtain rfl : v35 = nI (L9 + 1) := ev35.trans (nI_add _ _)
    refine mp_put (C := R_M) (T := F_M) (N := 31) (v := .int (nI (L9 + 1))) (ty := .int) hx hb hg i_M t_M t_M_ok n_M hown hK.va hI h_o rfl 5 (by decide) (hg _ q_809) (fun _ h9 => h9) rfl (by decide +kernel) (rfl) rfl (Nat.le_of_ble_eq_true rfl) d_M_take_209 (fun S36 H37 locs e_38 hI => ?_)
    have h_o_o := h_o
    have e_38 : S36 = va_up S32 o (some (2000, .inr (10, [mv0, mv1, .int (nI (tk + 1)), .int (nI 0), .ref pa, .int (nI (L9 + 1)), .ref te, .ref tp, .ref tn, .ref hd, .ref hv9, mv11, .int (nI 0), mv13, mv14, mv15, mv16, mv17, mv18, mv19, mv20, mv21, mv22, mv23, mv24, mv25, mv26, mv27, mv28, mv29, mv30]))) := e_38
    have h_pa : S36 pa = some (2001, .inl ((g 0), 40000, .inl (fun j => nI (PO j).val))) := by rw [e_38]; exact mp_keep h_pa h_o (by decide)
    have h_te : S36 te = some (2002, .inl ((g 0), 12, .inl (upd tf L9 (nI n9)))) := by rw [e_38]; exact mp_keep h_te h_o (by decide)
    have h_tp : S36 tp = some (2003, .inl ((g 0), 12000, .inl tp1)) := by rw [e_38]; exact mp_keep h_tp h_o (by decide)
    have h_tn : S36 tn = some (2004, .inl ((g 0), 12000, .inl tn1)) := by rw [e_38]; exact mp_keep h_tn h_o (by decide)
    have h_hd : S36 hd = some (2005, .inl ((g 0), 12, .inl (upd hf L9 (nI (pj t9))))) := by rw [e_38]; exact mp_keep h_hd h_o (by decide)
    have h_hv9 : S36 hv9 = some (2006, .inl ((g 0), 12, .inl (upd hv1 L9 (nI (iv (PO (1000 * k9 + pj t9))).val)))) := by rw [e_38]; exact mp_keep h_hv9 h_o (by decide)
    have h_o : S36 o = some (2000, .inr (10, [mv0, mv1, .int (nI (tk + 1)), .int (nI 0), .ref pa, .int (nI (L9 + 1)), .ref te, .ref tp, .ref tn, .ref hd, .ref hv9, mv11, .int (nI 0), mv13, mv14, mv15, mv16, mv17, mv18, mv19, mv20, mv21, mv22, mv23, mv24, mv25, mv26, mv27, mv28, mv29, mv30])) := by rw [e_38]; exact mp_us _ _ _
    have hfr : ∀ b t e9, S b = some (t, e9) → (t ≠ 2000) → (t ≠ 2002) → (t ≠ 2003) → (t ≠ 2004) → (t ≠ 2005) → (t ≠ 2006) → S36 b = some (t, e9) := fun b t e9 h9 k0 k1 k2 k3 k4 k5 => by rw [e_38]; exact mp_keep (hfr b t e9 h9 k0 k1 k2 k3 k4 k5) h_o_o (by omega)
    refine lv_iconst (v := nI 1) hx hb d_M_take_212 (by decide) ?_
    refine mp_zret hx hb hr hlocks hI (Nat.le_of_ble_eq_true rfl) (Nat.le_of_ble_eq_true rfl) ?_ (by decide) d_M_take_213
    exact ⟨rfl, n9, L9 + 1, pj, upd tf L9 (nI n9), tp1, tn1, upd hf L9 (nI (pj t9)), upd hv1 L9 (nI (iv (PO (1000 * k9 + pj t9))).val), ⟨hti.1, hti.2.1, hti.2.2.1, fun q hq => ⟨pk_un hq, pk_un hq, (pk_un hq).trans (hti.2.2.2.1 q hq)⟩, Or.inr ⟨rfl, t9, ht9, pk_us, pk_us, pk_us, hm9⟩⟩, h_o, h_te, h_tp, h_tn, h_hd, h_hv9, hfr⟩
