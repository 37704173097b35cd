theorem eN_ex {u : m3} (h : e9 u) {j : Nat} (hj : j < 3) : eN (pN u.1 u.2.1 u.2.2) j = exN u j := by
  obtain ⟨h1, h2, h3⟩ := h
  rcases (show j = 0 ∨ j = 1 ∨ j = 2 by omega) with rfl | rfl | rfl
  · rw [pN_0 h1 h2 h3]; rfl
  · rw [pN_1 h1 h2 h3]; rfl
  · rw [pN_2 h1 h2 h3]; rfl
def cmN (u v : m3) : Nat → Nat
  | 0 => 0
  | i + 1 => cmN u v i + 10 ^ i * max (exN u i) (exN v i)
def shN (u v : m3) (i : Nat) : Prop := ∃ l, l < i ∧ 0 < exN u l ∧ 0 < exN v l
theorem cm_3 (u v : m3) : cmN u v 3 = pN (lc3 u v).1 (lc3 u v).2.1 (lc3 u v).2.2 := by
  show 0 + 10 ^ 0 * max u.1 v.1 + 10 ^ 1 * max u.2.1 v.2.1 + 10 ^ 2 * max u.2.2 v.2.2 = _
  unfold pN lc3; simp only; omega
theorem sh_3 (u v : m3) : shN u v 3 ↔ sh3 u v := by
  unfold shN sh3
  constructor
  · rintro ⟨l, hl, h1, h2⟩
    rcases (show l = 0 ∨ l = 1 ∨ l = 2 by omega) with rfl | rfl | rfl
    · exact Or.inl ⟨h1, h2⟩
    · exact Or.inr (Or.inl ⟨h1, h2⟩)
    · exact Or.inr (Or.inr ⟨h1, h2⟩)
  · rintro (⟨h1, h2⟩ | ⟨h1, h2⟩ | ⟨h1, h2⟩)
    · exact ⟨0, by decide, h1, h2⟩
    · exact ⟨1, by decide, h1, h2⟩
    · exact ⟨2, by decide, h1, h2⟩
theorem shN_s {u v : m3} {i : Nat} : shN u v (i + 1) ↔ (shN u v i ∨ (0 < exN u i ∧ 0 < exN v i)) := by
  unfold shN
  constructor
  · rintro ⟨l, hl, h1, h2⟩
    by_cases e : l = i
    · rw [e] at h1 h2; exact Or.inr ⟨h1, h2⟩
    · exact Or.inl ⟨l, by omega, h1, h2⟩
  · rintro (⟨l, hl, h⟩ | h)
    · exact ⟨l, by omega, h⟩
    · exact ⟨i, by omega, h⟩
theorem cm_lt {u v : m3} (hu : e9 u) (hv : e9 v) {i : Nat} (hi : i ≤ 3) : cmN u v i < 1000 := by
  have h : ∀ j, max (exN u j) (exN v j) ≤ 9 := fun j => Nat.max_le.mpr ⟨exN_9 hu j, exN_9 hv j⟩
  have h0 := h 0; have h1 := h 1; have h2 := h 2
  rcases (show i = 0 ∨ i = 1 ∨ i = 2 ∨ i = 3 by omega) with rfl | rfl | rfl | rfl
  · show (0 : Nat) < 1000; decide
  · show 0 + 10 ^ 0 * max (exN u 0) (exN v 0) < 1000; omega
  · show 0 + 10 ^ 0 * max (exN u 0) (exN v 0) + 10 ^ 1 * max (exN u 1) (exN v 1) < 1000; omega
  · show 0 + 10 ^ 0 * max (exN u 0) (exN v 0) + 10 ^ 1 * max (exN u 1) (exN v 1) + 10 ^ 2 * max (exN u 2) (exN v 2) < 1000; omega
theorem cu_t {mo2 : Nat → m3} {co2 : Nat → fF} {t : m3} {y : fF} {CU : Nat → fF} {z2 : Nat} (hC : trn 21952 CU) (h28 : ∀ k, k < z2 → (ad3 t (mo2 k)).1 < 28 ∧ (ad3 t (mo2 k)).2.1 < 28 ∧ (ad3 t (mo2 k)).2.2 < 28) : trn 21952 (cuF mo2 co2 t y CU z2) := fun j hj => by
  unfold cuF
  rw [hC j hj, sm_z (fun k hk => if_neg (fun w => by have := cl3_lt (h28 k hk); omega))]; grind
theorem mt_end {n : Nat} {h : Nat → m3} {z : Nat → Nat} {mo : Nat → Nat → m3} {co : Nat → Nat → fF} (hL : mL n h z mo co) {f g : Nat} (hf : f < n) (hg : g < n) {L t t2 : m3} (eL : L = lc3 (h f) (h g)) (et : t = sb3 L (h f)) (et2 : t2 = sb3 L (h g)) (hp : pl3 L < tr3 28) {CU CU1 : Nat → fF}
    (h1 : ∀ q, q < tr3 28 → rwC CU q = aR z mo co t2 g (-1) (aR z mo co t f 1 zR) q) (h2 : ∀ q, q < tr3 28 → rwC CU1 q = rd n h z mo co (tr3 28) (rwC CU) q) (h3 : ∀ j, (∀ q, q < tr3 28 → j ≠ cl3 (Ep q)) → CU1 j = CU j) (h4 : ∀ j, (∀ q, q < tr3 28 → j ≠ cl3 (Ep q)) → CU j = 0) : (∀ j, j < 21952 → CU1 j = 0) ↔ pvN n h z mo co f g := by
  have d1 : dv3 (h f) L := by rw [eL]; exact dv3_l1 _ _
  have d2 : dv3 (h g) L := by rw [eL]; exact dv3_l2 _ _
  have hz : ∀ q, pl3 L + 1 ≤ q → aR z mo co t2 g (-1) (aR z mo co t f 1 zR) q = 0 := fun q hq => by
    rw [aR_hi hL hg (by rw [et2, ad3_sb d2]; omega), aR_hi hL hf (by rw [et, ad3_sb d1]; omega)]; rfl
  have k1 : ∀ q, q < tr3 28 → rwC CU1 q = rd n h z mo co (pl3 L + 1) (aR z mo co t2 g (-1) (aR z mo co t f 1 zR)) q := fun q hq => by
    rw [h2 q hq, rd_R (tr3 28) (Nat.le_refl _) h1 q hq]
    have := rd_more (n := n) (h := h) (z := z) (mo := mo) (co := co) hz (tr3 28 - (pl3 L + 1))
    rw [show pl3 L + 1 + (tr3 28 - (pl3 L + 1)) = tr3 28 by omega] at this
    rw [this]
  have kp : pvN n h z mo co f g ↔ ∀ q, q < pl3 L + 1 → rd n h z mo co (pl3 L + 1) (aR z mo co t2 g (-1) (aR z mo co t f 1 zR)) q = 0 := by rw [et, et2, eL]; rfl
  rw [kp]
  constructor
  · intro hh q hq
    rw [← k1 q (by omega)]
    exact hh _ (cl3_lt (Ep28 (by omega)))
  · intro hh j hj
    by_cases e : ∃ q, q < tr3 28 ∧ j = cl3 (Ep q)
    · obtain ⟨q, hq, rfl⟩ := e
      show rwC CU1 q = 0
      rw [k1 q hq]
      by_cases w : q < pl3 L + 1
      · exact hh q w
      · rw [rd_hi hL _ _ q (by omega)]; exact hz q (by omega)
    · rw [h3 j (fun q hq w => e ⟨q, hq, w⟩), h4 j (fun q hq w => e ⟨q, hq, w⟩)]

theorem d_M_meets_0 : decode b_M_meets 0 = .ok (.iconst 0, 1) := by decide +kernel
theorem d_M_meets_1 : decode b_M_meets 1 = .ok (.istore_n 3, 1) := by decide +kernel
theorem d_M_meets_2 : decode b_M_meets 2 = .ok (.iconst 0, 1) := by decide +kernel
theorem d_M_meets_3 : decode b_M_meets 3 = .ok (.istore 4, 2) := by decide +kernel
theorem d_M_meets_5 : decode b_M_meets 5 = .ok (.iconst 1, 1) := by decide +kernel
theorem d_M_meets_6 : decode b_M_meets 6 = .ok (.istore 5, 2) := by decide +kernel
theorem d_M_meets_8 : decode b_M_meets 8 = .ok (.iconst 0, 1) := by decide +kernel
theorem d_M_meets_9 : decode b_M_meets 9 = .ok (.istore 6, 2) := by decide +kernel
theorem d_M_meets_11 : decode b_M_meets 11 = .ok (.iload 6, 2) := by decide +kernel
theorem d_M_meets_13 : decode b_M_meets 13 = .ok (.iconst 3, 1) := by decide +kernel
theorem d_M_meets_14 : decode b_M_meets 14 = .ok (.if_icmp .ge 68, 3) := by decide +kernel
theorem d_M_meets_17 : decode b_M_meets 17 = .ok (.aload_n 0, 1) := by decide +kernel
theorem d_M_meets_18 : decode b_M_meets 18 = .ok (.getfield 23, 3) := by decide +kernel
theorem d_M_meets_21 : decode b_M_meets 21 = .ok (.iload_n 1, 1) := by decide +kernel
theorem d_M_meets_22 : decode b_M_meets 22 = .ok (.iaload, 1) := by decide +kernel
theorem d_M_meets_23 : decode b_M_meets 23 = .ok (.iload 6, 2) := by decide +kernel
theorem d_M_meets_25 : decode b_M_meets 25 = .ok (.invokestatic 94, 3) := by decide +kernel
theorem d_M_meets_28 : decode b_M_meets 28 = .ok (.istore 7, 2) := by decide +kernel
theorem d_M_meets_30 : decode b_M_meets 30 = .ok (.aload_n 0, 1) := by decide +kernel
theorem d_M_meets_31 : decode b_M_meets 31 = .ok (.getfield 23, 3) := by decide +kernel
theorem d_M_meets_34 : decode b_M_meets 34 = .ok (.iload_n 2, 1) := by decide +kernel
theorem d_M_meets_35 : decode b_M_meets 35 = .ok (.iaload, 1) := by decide +kernel
theorem d_M_meets_36 : decode b_M_meets 36 = .ok (.iload 6, 2) := by decide +kernel
theorem d_M_meets_38 : decode b_M_meets 38 = .ok (.invokestatic 94, 3) := by decide +kernel
theorem d_M_meets_41 : decode b_M_meets 41 = .ok (.istore 8, 2) := by decide +kernel
theorem d_M_meets_43 : decode b_M_meets 43 = .ok (.iload 7, 2) := by decide +kernel
theorem d_M_meets_45 : decode b_M_meets 45 = .ok (.ifCond .le 11, 3) := by decide +kernel
theorem d_M_meets_48 : decode b_M_meets 48 = .ok (.iload 8, 2) := by decide +kernel
theorem d_M_meets_50 : decode b_M_meets 50 = .ok (.ifCond .le 6, 3) := by decide +kernel
theorem d_M_meets_53 : decode b_M_meets 53 = .ok (.iconst 1, 1) := by decide +kernel
theorem d_M_meets_54 : decode b_M_meets 54 = .ok (.istore 4, 2) := by decide +kernel
theorem d_M_meets_56 : decode b_M_meets 56 = .ok (.iload_n 3, 1) := by decide +kernel
theorem d_M_meets_57 : decode b_M_meets 57 = .ok (.iload 5, 2) := by decide +kernel
theorem d_M_meets_59 : decode b_M_meets 59 = .ok (.iload 7, 2) := by decide +kernel
theorem d_M_meets_61 : decode b_M_meets 61 = .ok (.iload 8, 2) := by decide +kernel
theorem d_M_meets_63 : decode b_M_meets 63 = .ok (.invokestatic 152, 3) := by decide +kernel
theorem d_M_meets_66 : decode b_M_meets 66 = .ok (.imul, 1) := by decide +kernel
theorem d_M_meets_67 : decode b_M_meets 67 = .ok (.iadd, 1) := by decide +kernel
theorem d_M_meets_68 : decode b_M_meets 68 = .ok (.istore_n 3, 1) := by decide +kernel
theorem d_M_meets_69 : decode b_M_meets 69 = .ok (.iload 5, 2) := by decide +kernel
theorem d_M_meets_71 : decode b_M_meets 71 = .ok (.bipush 10, 2) := by decide +kernel
theorem d_M_meets_73 : decode b_M_meets 73 = .ok (.imul, 1) := by decide +kernel
theorem d_M_meets_74 : decode b_M_meets 74 = .ok (.istore 5, 2) := by decide +kernel
theorem d_M_meets_76 : decode b_M_meets 76 = .ok (.iinc 6 1, 3) := by decide +kernel
theorem d_M_meets_79 : decode b_M_meets 79 = .ok (.goto (-68), 3) := by decide +kernel
theorem d_M_meets_82 : decode b_M_meets 82 = .ok (.iload 4, 2) := by decide +kernel
theorem d_M_meets_84 : decode b_M_meets 84 = .ok (.ifCond .ne 5, 3) := by decide +kernel
theorem d_M_meets_87 : decode b_M_meets 87 = .ok (.iconst 1, 1) := by decide +kernel
theorem d_M_meets_88 : decode b_M_meets 88 = .ok (.ireturn, 1) := by decide +kernel
theorem d_M_meets_89 : decode b_M_meets 89 = .ok (.aload_n 0, 1) := by decide +kernel
theorem d_M_meets_90 : decode b_M_meets 90 = .ok (.invokevirtual 155, 3) := by decide +kernel
theorem d_M_meets_93 : decode b_M_meets 93 = .ok (.aload_n 0, 1) := by decide +kernel
theorem d_M_meets_94 : decode b_M_meets 94 = .ok (.iload_n 1, 1) := by decide +kernel
theorem d_M_meets_95 : decode b_M_meets 95 = .ok (.iconst 0, 1) := by decide +kernel
theorem d_M_meets_96 : decode b_M_meets 96 = .ok (.aload_n 0, 1) := by decide +kernel
theorem d_M_meets_97 : decode b_M_meets 97 = .ok (.getfield 26, 3) := by decide +kernel
theorem d_M_meets_100 : decode b_M_meets 100 = .ok (.iload_n 1, 1) := by decide +kernel
theorem d_M_meets_101 : decode b_M_meets 101 = .ok (.iaload, 1) := by decide +kernel
theorem d_M_meets_102 : decode b_M_meets 102 = .ok (.invokestatic 142, 3) := by decide +kernel
theorem d_M_meets_105 : decode b_M_meets 105 = .ok (.iload_n 3, 1) := by decide +kernel
theorem d_M_meets_106 : decode b_M_meets 106 = .ok (.invokestatic 139, 3) := by decide +kernel
theorem d_M_meets_109 : decode b_M_meets 109 = .ok (.aload_n 0, 1) := by decide +kernel
theorem d_M_meets_110 : decode b_M_meets 110 = .ok (.getfield 23, 3) := by decide +kernel
theorem d_M_meets_113 : decode b_M_meets 113 = .ok (.iload_n 1, 1) := by decide +kernel
theorem d_M_meets_114 : decode b_M_meets 114 = .ok (.iaload, 1) := by decide +kernel
theorem d_M_meets_115 : decode b_M_meets 115 = .ok (.invokestatic 139, 3) := by decide +kernel
theorem d_M_meets_118 : decode b_M_meets 118 = .ok (.isub, 1) := by decide +kernel
theorem d_M_meets_119 : decode b_M_meets 119 = .ok (.invokevirtual 148, 3) := by decide +kernel
theorem d_M_meets_122 : decode b_M_meets 122 = .ok (.aload_n 0, 1) := by decide +kernel
theorem d_M_meets_123 : decode b_M_meets 123 = .ok (.iload_n 2, 1) := by decide +kernel
theorem d_M_meets_124 : decode b_M_meets 124 = .ok (.aload_n 0, 1) := by decide +kernel
theorem d_M_meets_125 : decode b_M_meets 125 = .ok (.getfield 26, 3) := by decide +kernel
theorem d_M_meets_128 : decode b_M_meets 128 = .ok (.iload_n 2, 1) := by decide +kernel
theorem d_M_meets_129 : decode b_M_meets 129 = .ok (.iaload, 1) := by decide +kernel
theorem d_M_meets_130 : decode b_M_meets 130 = .ok (.iload_n 3, 1) := by decide +kernel
theorem d_M_meets_131 : decode b_M_meets 131 = .ok (.invokestatic 139, 3) := by decide +kernel
theorem d_M_meets_134 : decode b_M_meets 134 = .ok (.aload_n 0, 1) := by decide +kernel
theorem d_M_meets_135 : decode b_M_meets 135 = .ok (.getfield 23, 3) := by decide +kernel
theorem d_M_meets_138 : decode b_M_meets 138 = .ok (.iload_n 2, 1) := by decide +kernel
theorem d_M_meets_139 : decode b_M_meets 139 = .ok (.iaload, 1) := by decide +kernel
theorem d_M_meets_140 : decode b_M_meets 140 = .ok (.invokestatic 139, 3) := by decide +kernel
theorem d_M_meets_143 : decode b_M_meets 143 = .ok (.isub, 1) := by decide +kernel
theorem d_M_meets_144 : decode b_M_meets 144 = .ok (.invokevirtual 148, 3) := by decide +kernel
theorem d_M_meets_147 : decode b_M_meets 147 = .ok (.aload_n 0, 1) := by decide +kernel
theorem d_M_meets_148 : decode b_M_meets 148 = .ok (.invokevirtual 158, 3) := by decide +kernel
theorem d_M_meets_151 : decode b_M_meets 151 = .ok (.iconst 0, 1) := by decide +kernel
theorem d_M_meets_152 : decode b_M_meets 152 = .ok (.istore 6, 2) := by decide +kernel
theorem d_M_meets_154 : decode b_M_meets 154 = .ok (.iload 6, 2) := by decide +kernel
theorem d_M_meets_156 : decode b_M_meets 156 = .ok (.sipush 21952, 3) := by decide +kernel
theorem d_M_meets_159 : decode b_M_meets 159 = .ok (.if_icmp .ge 21, 3) := by decide +kernel
theorem d_M_meets_162 : decode b_M_meets 162 = .ok (.aload_n 0, 1) := by decide +kernel
theorem d_M_meets_163 : decode b_M_meets 163 = .ok (.getfield 29, 3) := by decide +kernel
theorem d_M_meets_166 : decode b_M_meets 166 = .ok (.iload 6, 2) := by decide +kernel
theorem d_M_meets_168 : decode b_M_meets 168 = .ok (.iaload, 1) := by decide +kernel
theorem d_M_meets_169 : decode b_M_meets 169 = .ok (.ifCond .eq 5, 3) := by decide +kernel
theorem d_M_meets_172 : decode b_M_meets 172 = .ok (.iconst 0, 1) := by decide +kernel
theorem d_M_meets_173 : decode b_M_meets 173 = .ok (.ireturn, 1) := by decide +kernel
theorem d_M_meets_174 : decode b_M_meets 174 = .ok (.iinc 6 1, 3) := by decide +kernel
theorem d_M_meets_177 : decode b_M_meets 177 = .ok (.goto (-23), 3) := by decide +kernel
theorem d_M_meets_180 : decode b_M_meets 180 = .ok (.iconst 1, 1) := by decide +kernel
theorem d_M_meets_181 : decode b_M_meets 181 = .ok (.ireturn, 1) := by decide +kernel
set_option maxHeartbeats 4000000 in
set_option maxRecDepth 100000 in
theorem lp_M_meet1 {p : Program} {l : Launch} {e : Env} {R : Room} {s : State} {m : MethodId} {args : Array Value} {below : List Frame} {meth : Method} {c : Code} {Q : State → Prop} {D : mp_G} {g : Nat → ClassId} {A : Nat → Prop} {cells slots : Nat} (hx : p.tables.exec = Jvm.exec) (hb : c.code = b_M_meets) (hml : c.maxLocals = 9) (hg : ∀ w ∈ gw, w.before args s = true) (hown : s.vm.findClass R_M = some m.cls) (hK : mp_K D classes (tys g) s) (hRf : 1 ≤ R.frames) (hRl : 21 ≤ R.locals) (hRc : cells ≤ R.cells) (hRs : slots ≤ R.slots) {B : mp_M} {o cu te tp tn hd hv9 n : Nat} {mv0 mv1 mv2 mv3 mv4 mv12 mv13 mv14 mv15 mv16 mv17 mv18 mv19 mv20 mv21 mv22 mv23 mv24 mv25 mv26 mv27 mv28 mv29 mv30 : Value} {tf tpf tnf hf hif : Nat → Int32} {h : Nat → m3} {z : Nat → Nat} {mo : Nat → Nat → m3} {co : Nat → Nat → fF} {z2 : Nat → Nat} {mo2 : Nat → Nat → m3} {co2 : Nat → Nat → fF} {ld : Nat → fF} {f f2 : Nat} {CU : Nat → fF} (hM : lsM n h z mo co z2 mo2 co2 ld tf tpf tnf hf hif) (hf9 : f < n) (hf2 : f2 < n) : ∀ (k : Nat) (i : Nat) (cm : Nat) (un : Nat) (v4 : Int32) (S : mp_M) (H : Heap) (locs : List Loc) (ls : Array Slot), i + k = 3 → (cm = cmN (h f) (h f2) i) → (un = 10 ^ i) → ((shN (h f) (h f2) i ∧ v4 = nI 1) ∨ (¬ shN (h f) (h f2) i ∧ v4 = nI 0)) → S o = some (2000, .inr (10, [mv0, mv1, mv2, mv3, mv4, .int (nI n), .ref te, .ref tp, .ref tn, .ref hd, .ref hv9, .ref cu, mv12, mv13, mv14, mv15, mv16, mv17, mv18, mv19, mv20, mv21, mv22, mv23, mv24, mv25, mv26, mv27, mv28, mv29, mv30])) → S cu = some (2007, .inl ((g 0), 21952, .inl (fun j => nI (CU j).val))) → S te = some (2002, .inl ((g 0), 12, .inl tf)) → S tp = some (2003, .inl ((g 0), 12000, .inl tpf)) → S tn = some (2004, .inl ((g 0), 12000, .inl tnf)) → S hd = some (2005, .inl ((g 0), 12, .inl hf)) → S hv9 = some (2006, .inl ((g 0), 12, .inl hif)) → (∀ b t e9, B b = some (t, e9) → (t ≠ 2007) → S b = some (t, e9)) → mp_I D classes A s.heap S H locs → lv_has ls 9 [(6, .int (nI i)), (5, .int (nI un)), (4, .int v4), (3, .int (nI cm)), (2, .int (nI f2)), (1, .int (nI f)), (0, .ref o)] → (∀ (cm : Nat) (un : Nat) (v4 : Int32) (S : mp_M) (H : Heap) (locs : List Loc) (ls : Array Slot), (cm = cmN (h f) (h f2) 3) → (un = 10 ^ 3) → ((shN (h f) (h f2) 3 ∧ v4 = nI 1) ∨ (¬ shN (h f) (h f2) 3 ∧ v4 = nI 0)) → S o = some (2000, .inr (10, [mv0, mv1, mv2, mv3, mv4, .int (nI n), .ref te, .ref tp, .ref tn, .ref hd, .ref hv9, .ref cu, mv12, mv13, mv14, mv15, mv16, mv17, mv18, mv19, mv20, mv21, mv22, mv23, mv24, mv25, mv26, mv27, mv28, mv29, mv30])) → S cu = some (2007, .inl ((g 0), 21952, .inl (fun j => nI (CU j).val))) → S te = some (2002, .inl ((g 0), 12, .inl tf)) → S tp = some (2003, .inl ((g 0), 12000, .inl tpf)) → S tn = some (2004, .inl ((g 0), 12000, .inl tnf)) → S hd = some (2005, .inl ((g 0), 12, .inl hf)) → S hv9 = some (2006, .inl ((g 0), 12, .inl hif)) → (∀ b t e9, B b = some (t, e9) → (t ≠ 2007) → S b = some (t, e9)) → mp_I D classes A s.heap S H locs → lv_has ls 9 [(6, .int (nI 3)), (5, .int (nI un)), (4, .int v4), (3, .int (nI cm)), (2, .int (nI f2)), (1, .int (nI f)), (0, .ref o)] → W p l e R s m args below meth c H locs cells slots Q (F0 m 82 ls [])) → W p l e R s m args below meth c H locs cells slots Q (F0 m 11 ls []) := by
  intro k
  induction k with
  | zero =>
    intro i cm un v4 S H locs ls hi hcm hun hso h_o h_cu h_te h_tp h_tn h_hd h_hv9 hfr hI hl kx
    refine lv_iload hx hb d_M_meets_11 (lv_at hl 0 rfl) ?_
    refine lv_iconst (v := nI 3) hx hb d_M_meets_13 (by decide) ?_
    refine lv_icmp_ge (tgt := 82) hx hb d_M_meets_14 (by decide) (fun _ => ?_) (fun h9 => absurd ((nI_leI (by omega) (by omega)).mpr (by omega)) h9)
    obtain rfl : i = 3 := by omega
    exact kx cm un v4 S H locs ls hcm hun hso h_o h_cu h_te h_tp h_tn h_hd h_hv9 hfr hI (lv_sub hl [0, 1, 2, 3, 4, 5, 6] rfl)
  | succ k ih =>
    intro i cm un v4 S H locs ls hi hcm hun hso h_o h_cu h_te h_tp h_tn h_hd h_hv9 hfr hI hl kx
    have hn12 := hM.2.1
    have mf := hM.2.2 f hf9
    have mg := hM.2.2 f2 hf2
    obtain ⟨e1, e2, e3⟩ := mf.2.2.2.1
    obtain ⟨e4, e5, e6⟩ := mg.2.2.2.1
    have x1 := exN_9 mf.2.2.2.1 i
    have x2 := exN_9 mg.2.2.2.1 i
    have hcl := cm_lt mf.2.2.2.1 mg.2.2.2.1 (show i ≤ 3 by omega)
    have hu3 : un ≤ 100 := by rw [hun]; rcases (show i = 0 ∨ i = 1 ∨ i = 2 by omega) with rfl | rfl | rfl <;> decide
    refine lv_iload hx hb d_M_meets_11 (lv_at hl 0 rfl) ?_
    refine lv_iconst (v := nI 3) hx hb d_M_meets_13 (by decide) ?_
    refine lv_icmp_ge (tgt := 82) hx hb d_M_meets_14 (by decide) (fun h9 => absurd h9 (by rw [nI_leI (by omega) (by omega)]; omega)) (fun _ => ?_)
    refine lv_aload_n hx hb d_M_meets_17 rfl (lv_at hl 6 rfl) ?_
    refine mp_get (C := R_M) (T := F_M) (N := 31) (v := .ref hd) hx hb hg i_M hown hK.va hI h_o rfl 9 (by decide) (hg _ q_813) (fun _ h9 => h9) rfl d_M_meets_18 ?_
    refine lv_iload_n hx hb d_M_meets_21 rfl (lv_at hl 5 rfl) ?_
    refine mp_iald hx hb hK.va hI 0 h_hd rfl (vp_in_nI (show f < 12 by omega) (by omega)) d_M_meets_22 ?_
    refine lv_topi (fun v1 ev1 => ?_)
    obtain rfl : v1 = nI (pN (h f).1 (h f).2.1 (h f).2.2) := ev1.trans (by rw [nI_clamp (by omega)]; exact mf.2.2.1)
    refine lv_iload hx hb d_M_meets_23 (lv_at hl 0 rfl) ?_
    refine mp_calli hI (va_runS (As := [.int (nI (pN (h f).1 (h f).2.1 (h f).2.2)), .int (nI i)]) (rest := []) ⟨hx, hb, hml, hown, hg⟩ (c_M_expo l D g S _ (pN (h f).1 (h f).2.1 (h f).2.2) i (pN_lt e1 e2 e3) (by omega)) ⟨(callB_of 2 hg (wd_goodG q_943) rfl rfl rfl (hg _ q_5) (hg _ q_941) (by decide +kernel) ⟨Nat.le_trans (Nat.le_of_ble_eq_true rfl) hRf, Nat.le_trans (Nat.le_of_ble_eq_true rfl) hRl⟩), hg _ q_942⟩ (mp_pre hI hK [.int (nI (pN (h f).1 (h f).2.1 (h f).2.2)), .int (nI i)]) rfl rfl hl.1 rfl (lv_room (Nat.le_of_ble_eq_true rfl)) d_M_meets_25 ⟨by omega, by omega⟩) (fun r5 S2 H3 locs p_4 hI => ?_)
    obtain ⟨er5, eS6⟩ := p_4
    rw [eS6] at hI
    have er5 : r5 = nI (eN (pN (h f).1 (h f).2.1 (h f).2.2) i) := er5
    subst er5
    refine lv_topi (fun v7 ev7 => ?_)
    obtain rfl : v7 = nI (exN (h f) i) := ev7.trans (by rw [eN_ex mf.2.2.2.1 (by omega)])
    refine lv_istore (lv' := [(7, .int (nI (exN (h f) i))), (6, .int (nI i)), (5, .int (nI un)), (4, .int v4), (3, .int (nI cm)), (2, .int (nI f2)), (1, .int (nI f)), (0, .ref o)]) hx hb d_M_meets_28 hl (by decide) rfl (fun ls hl => ?_)
    refine lv_aload_n hx hb d_M_meets_30 rfl (lv_at hl 7 rfl) ?_
    refine mp_get (C := R_M) (T := F_M) (N := 31) (v := .ref hd) hx hb hg i_M hown hK.va hI h_o rfl 9 (by decide) (hg _ q_813) (fun _ h9 => h9) rfl d_M_meets_31 ?_
    refine lv_iload_n hx hb d_M_meets_34 rfl (lv_at hl 5 rfl) ?_
    refine mp_iald hx hb hK.va hI 0 h_hd rfl (vp_in_nI (show f2 < 12 by omega) (by omega)) d_M_meets_35 ?_
    refine lv_topi (fun v8 ev8 => ?_)
    obtain rfl : v8 = nI (pN (h f2).1 (h f2).2.1 (h f2).2.2) := ev8.trans (by rw [nI_clamp (by omega)]; exact mg.2.2.1)
    refine lv_iload hx hb d_M_meets_36 (lv_at hl 1 rfl) ?_
    refine mp_calli hI (va_runS (As := [.int (nI (pN (h f2).1 (h f2).2.1 (h f2).2.2)), .int (nI i)]) (rest := []) ⟨hx, hb, hml, hown, hg⟩ (c_M_expo l D g S _ (pN (h f2).1 (h f2).2.1 (h f2).2.2) i (pN_lt e4 e5 e6) (by omega)) ⟨(callB_of 2 hg (wd_goodG q_943) rfl rfl rfl (hg _ q_5) (hg _ q_941) (by decide +kernel) ⟨Nat.le_trans (Nat.le_of_ble_eq_true rfl) hRf, Nat.le_trans (Nat.le_of_ble_eq_true rfl) hRl⟩), hg _ q_942⟩ (mp_pre hI hK [.int (nI (pN (h f2).1 (h f2).2.1 (h f2).2.2)), .int (nI i)]) rfl rfl hl.1 rfl (lv_room (Nat.le_of_ble_eq_true rfl)) d_M_meets_38 ⟨by omega, by omega⟩) (fun r12 S9 H10 locs p_11 hI => ?_)
    obtain ⟨er12, eS13⟩ := p_11
    rw [eS13] at hI
    have er12 : r12 = nI (eN (pN (h f2).1 (h f2).2.1 (h f2).2.2) i) := er12
    subst er12
    refine lv_topi (fun v14 ev14 => ?_)
    obtain rfl : v14 = nI (exN (h f2) i) := ev14.trans (by rw [eN_ex mg.2.2.2.1 (by omega)])
    refine lv_istore (lv' := [(8, .int (nI (exN (h f2) i))), (7, .int (nI (exN (h f) i))), (6, .int (nI i)), (5, .int (nI un)), (4, .int v4), (3, .int (nI cm)), (2, .int (nI f2)), (1, .int (nI f)), (0, .ref o)]) hx hb d_M_meets_41 hl (by decide) rfl (fun ls hl => ?_)
    refine lv_iload hx hb d_M_meets_43 (lv_at hl 1 rfl) ?_
    refine lv_if_le (tgt := 56) hx hb d_M_meets_45 (by decide) (fun c1 => ?_) (fun c1 => ?_)
    · rw [zI_le (by omega)] at c1
      refine lv_iload_n hx hb d_M_meets_56 rfl (lv_at hl 5 rfl) ?_
      refine lv_iload hx hb d_M_meets_57 (lv_at hl 3 rfl) ?_
      refine lv_iload hx hb d_M_meets_59 (lv_at hl 1 rfl) ?_
      refine lv_iload hx hb d_M_meets_61 (lv_at hl 0 rfl) ?_
      refine mp_calli hI (va_runS (As := [.int (nI (exN (h f) i)), .int (nI (exN (h f2) i))]) (rest := [.int (nI un), .int (nI cm)]) ⟨hx, hb, hml, hown, hg⟩ (c_M_greater l D g S _ (exN (h f) i) (exN (h f2) i) (by omega) (by omega)) ⟨(callB_of 2 hg (wd_goodG q_973) rfl rfl rfl (hg _ q_5) (hg _ q_971) (by decide +kernel) ⟨Nat.le_trans (Nat.le_of_ble_eq_true rfl) hRf, Nat.le_trans (Nat.le_of_ble_eq_true rfl) hRl⟩), hg _ q_972⟩ (mp_pre hI hK [.int (nI (exN (h f) i)), .int (nI (exN (h f2) i))]) rfl rfl hl.1 rfl (lv_room (Nat.le_of_ble_eq_true rfl)) d_M_meets_63 ⟨by omega, by omega⟩) (fun r18 S15 H16 locs p_17 hI => ?_)
      obtain ⟨er18, eS19⟩ := p_17
      rw [eS19] at hI
      have er18 : r18 = nI (max (exN (h f) i) (exN (h f2) i)) := er18
      subst er18
      refine lv_imul hx hb d_M_meets_66 ?_
      refine lv_topi (fun v20 ev20 => ?_)
      obtain rfl : v20 = nI (un * (max (exN (h f) i) (exN (h f2) i))) := ev20.trans (pk_mul _ _)
      refine lv_iadd hx hb d_M_meets_67 ?_
      refine lv_topi (fun v21 ev21 => ?_)
      obtain rfl : v21 = nI (cm + (un * (max (exN (h f) i) (exN (h f2) i)))) := ev21.trans (nI_add _ _)
      refine lv_istore_n (lv' := [(3, .int (nI (cm + (un * (max (exN (h f) i) (exN (h f2) i)))))), (8, .int (nI (exN (h f2) i))), (7, .int (nI (exN (h f) i))), (6, .int (nI i)), (5, .int (nI un)), (4, .int v4), (2, .int (nI f2)), (1, .int (nI f)), (0, .ref o)]) hx hb d_M_meets_68 rfl hl (by decide) rfl (fun ls hl => ?_)
      refine lv_iload hx hb d_M_meets_69 (lv_at hl 4 rfl) ?_
      refine lv_bipush (v := nI 10) hx hb d_M_meets_71 (by decide) ?_
      refine lv_imul hx hb d_M_meets_73 ?_
      refine lv_topi (fun v22 ev22 => ?_)
      obtain rfl : v22 = nI (un * 10) := ev22.trans (pk_mul _ _)
      refine lv_istore (lv' := [(5, .int (nI (un * 10))), (3, .int (nI (cm + (un * (max (exN (h f) i) (exN (h f2) i)))))), (8, .int (nI (exN (h f2) i))), (7, .int (nI (exN (h f) i))), (6, .int (nI i)), (4, .int v4), (2, .int (nI f2)), (1, .int (nI f)), (0, .ref o)]) hx hb d_M_meets_74 hl (by decide) rfl (fun ls hl => ?_)
      refine lv_iinc (v := nI (i + 1)) (lv' := [(6, .int (nI (i + 1))), (5, .int (nI (un * 10))), (3, .int (nI (cm + (un * (max (exN (h f) i) (exN (h f2) i)))))), (8, .int (nI (exN (h f2) i))), (7, .int (nI (exN (h f) i))), (4, .int v4), (2, .int (nI f2)), (1, .int (nI f)), (0, .ref o)]) hx hb d_M_meets_76 hl (k := 4) rfl (nI_1 _) (by decide) rfl (fun ls hl => ?_)
      refine lv_goto (tgt := 11) hx hb d_M_meets_79 (by decide) ?_
      exact ih (i + 1) (cm + un * max (exN (h f) i) (exN (h f2) i)) (un * 10) v4 S H16 locs ls (by omega) (by rw [hcm, hun]; rfl) (by rw [hun, Nat.pow_succ]) (by rw [shN_s]; rcases hso with ⟨q, r⟩ | ⟨q, r⟩; exact Or.inl ⟨Or.inl q, r⟩; exact Or.inr ⟨fun w9 => w9.elim q (fun w8 => by omega), r⟩) h_o h_cu h_te h_tp h_tn h_hd h_hv9 hfr hI (lv_sub hl [0, 1, 5, 2, 6, 7, 8] rfl) kx
    · rw [zI_le (by omega)] at c1
      refine lv_iload hx hb d_M_meets_48 (lv_at hl 0 rfl) ?_
      refine lv_if_le (tgt := 56) hx hb d_M_meets_50 (by decide) (fun c2 => ?_) (fun c2 => ?_)
      · rw [zI_le (by omega)] at c2
        refine lv_iload_n hx hb d_M_meets_56 rfl (lv_at hl 5 rfl) ?_
        refine lv_iload hx hb d_M_meets_57 (lv_at hl 3 rfl) ?_
        refine lv_iload hx hb d_M_meets_59 (lv_at hl 1 rfl) ?_
        refine lv_iload hx hb d_M_meets_61 (lv_at hl 0 rfl) ?_
        refine mp_calli hI (va_runS (As := [.int (nI (exN (h f) i)), .int (nI (exN (h f2) i))]) (rest := [.int (nI un), .int (nI cm)]) ⟨hx, hb, hml, hown, hg⟩ (c_M_greater l D g S _ (exN (h f) i) (exN (h f2) i) (by omega) (by omega)) ⟨(callB_of 2 hg (wd_goodG q_973) rfl rfl rfl (hg _ q_5) (hg _ q_971) (by decide +kernel) ⟨Nat.le_trans (Nat.le_of_ble_eq_true rfl) hRf, Nat.le_trans (Nat.le_of_ble_eq_true rfl) hRl⟩), hg _ q_972⟩ (mp_pre hI hK [.int (nI (exN (h f) i)), .int (nI (exN (h f2) i))]) rfl rfl hl.1 rfl (lv_room (Nat.le_of_ble_eq_true rfl)) d_M_meets_63 ⟨by omega, by omega⟩) (fun r26 S23 H24 locs p_25 hI => ?_)
        obtain ⟨er26, eS27⟩ := p_25
        rw [eS27] at hI
        have er26 : r26 = nI (max (exN (h f) i) (exN (h f2) i)) := er26
        subst er26
        refine lv_imul hx hb d_M_meets_66 ?_
        refine lv_topi (fun v28 ev28 => ?_)
        obtain rfl : v28 = nI (un * (max (exN (h f) i) (exN (h f2) i))) := ev28.trans (pk_mul _ _)
        refine lv_iadd hx hb d_M_meets_67 ?_
        refine lv_topi (fun v29 ev29 => ?_)
        obtain rfl : v29 = nI (cm + (un * (max (exN (h f) i) (exN (h f2) i)))) := ev29.trans (nI_add _ _)
        refine lv_istore_n (lv' := [(3, .int (nI (cm + (un * (max (exN (h f) i) (exN (h f2) i)))))), (8, .int (nI (exN (h f2) i))), (7, .int (nI (exN (h f) i))), (6, .int (nI i)), (5, .int (nI un)), (4, .int v4), (2, .int (nI f2)), (1, .int (nI f)), (0, .ref o)]) hx hb d_M_meets_68 rfl hl (by decide) rfl (fun ls hl => ?_)
        refine lv_iload hx hb d_M_meets_69 (lv_at hl 4 rfl) ?_
        refine lv_bipush (v := nI 10) hx hb d_M_meets_71 (by decide) ?_
        refine lv_imul hx hb d_M_meets_73 ?_
        refine lv_topi (fun v30 ev30 => ?_)
        obtain rfl : v30 = nI (un * 10) := ev30.trans (pk_mul _ _)
        refine lv_istore (lv' := [(5, .int (nI (un * 10))), (3, .int (nI (cm + (un * (max (exN (h f) i) (exN (h f2) i)))))), (8, .int (nI (exN (h f2) i))), (7, .int (nI (exN (h f) i))), (6, .int (nI i)), (4, .int v4), (2, .int (nI f2)), (1, .int (nI f)), (0, .ref o)]) hx hb d_M_meets_74 hl (by decide) rfl (fun ls hl => ?_)
        refine lv_iinc (v := nI (i + 1)) (lv' := [(6, .int (nI (i + 1))), (5, .int (nI (un * 10))), (3, .int (nI (cm + (un * (max (exN (h f) i) (exN (h f2) i)))))), (8, .int (nI (exN (h f2) i))), (7, .int (nI (exN (h f) i))), (4, .int v4), (2, .int (nI f2)), (1, .int (nI f)), (0, .ref o)]) hx hb d_M_meets_76 hl (k := 4) rfl (nI_1 _) (by decide) rfl (fun ls hl => ?_)
        refine lv_goto (tgt := 11) hx hb d_M_meets_79 (by decide) ?_
        exact ih (i + 1) (cm + un * max (exN (h f) i) (exN (h f2) i)) (un * 10) v4 S H24 locs ls (by omega) (by rw [hcm, hun]; rfl) (by rw [hun, Nat.pow_succ]) (by rw [shN_s]; rcases hso with ⟨q, r⟩ | ⟨q, r⟩; exact Or.inl ⟨Or.inl q, r⟩; exact Or.inr ⟨fun w9 => w9.elim q (fun w8 => by omega), r⟩) h_o h_cu h_te h_tp h_tn h_hd h_hv9 hfr hI (lv_sub hl [0, 1, 5, 2, 6, 7, 8] rfl) kx
      · rw [zI_le (by omega)] at c2
        refine lv_iconst (v := nI 1) hx hb d_M_meets_53 (by decide) ?_
        refine lv_istore (lv' := [(4, .int (nI 1)), (8, .int (nI (exN (h f2) i))), (7, .int (nI (exN (h f) i))), (6, .int (nI i)), (5, .int (nI un)), (3, .int (nI cm)), (2, .int (nI f2)), (1, .int (nI f)), (0, .ref o)]) hx hb d_M_meets_54 hl (by decide) rfl (fun ls hl => ?_)
        refine lv_iload_n hx hb d_M_meets_56 rfl (lv_at hl 5 rfl) ?_
        refine lv_iload hx hb d_M_meets_57 (lv_at hl 4 rfl) ?_
        refine lv_iload hx hb d_M_meets_59 (lv_at hl 2 rfl) ?_
        refine lv_iload hx hb d_M_meets_61 (lv_at hl 1 rfl) ?_
        refine mp_calli hI (va_runS (As := [.int (nI (exN (h f) i)), .int (nI (exN (h f2) i))]) (rest := [.int (nI un), .int (nI cm)]) ⟨hx, hb, hml, hown, hg⟩ (c_M_greater l D g S _ (exN (h f) i) (exN (h f2) i) (by omega) (by omega)) ⟨(callB_of 2 hg (wd_goodG q_973) rfl rfl rfl (hg _ q_5) (hg _ q_971) (by decide +kernel) ⟨Nat.le_trans (Nat.le_of_ble_eq_true rfl) hRf, Nat.le_trans (Nat.le_of_ble_eq_true rfl) hRl⟩), hg _ q_972⟩ (mp_pre hI hK [.int (nI (exN (h f) i)), .int (nI (exN (h f2) i))]) rfl rfl hl.1 rfl (lv_room (Nat.le_of_ble_eq_true rfl)) d_M_meets_63 ⟨by omega, by omega⟩) (fun r34 S31 H32 locs p_33 hI => ?_)
        obtain ⟨er34, eS35⟩ := p_33
        rw [eS35] at hI
        have er34 : r34 = nI (max (exN (h f) i) (exN (h f2) i)) := er34
        subst er34
        refine lv_imul hx hb d_M_meets_66 ?_
        refine lv_topi (fun v36 ev36 => ?_)
        obtain rfl : v36 = nI (un * (max (exN (h f) i) (exN (h f2) i))) := ev36.trans (pk_mul _ _)
        refine lv_iadd hx hb d_M_meets_67 ?_
        refine lv_topi (fun v37 ev37 => ?_)
        obtain rfl : v37 = nI (cm + (un * (max (exN (h f) i) (exN (h f2) i)))) := ev37.trans (nI_add _ _)
        refine lv_istore_n (lv' := [(3, .int (nI (cm + (un * (max (exN (h f) i) (exN (h f2) i)))))), (4, .int (nI 1)), (8, .int (nI (exN (h f2) i))), (7, .int (nI (exN (h f) i))), (6, .int (nI i)), (5, .int (nI un)), (2, .int (nI f2)), (1, .int (nI f)), (0, .ref o)]) hx hb d_M_meets_68 rfl hl (by decide) rfl (fun ls hl => ?_)
        refine lv_iload hx hb d_M_meets_69 (lv_at hl 5 rfl) ?_
        refine lv_bipush (v := nI 10) hx hb d_M_meets_71 (by decide) ?_
        refine lv_imul hx hb d_M_meets_73 ?_
        refine lv_topi (fun v38 ev38 => ?_)
        obtain rfl : v38 = nI (un * 10) := ev38.trans (pk_mul _ _)
        refine lv_istore (lv' := [(5, .int (nI (un * 10))), (3, .int (nI (cm + (un * (max (exN (h f) i) (exN (h f2) i)))))), (4, .int (nI 1)), (8, .int (nI (exN (h f2) i))), (7, .int (nI (exN (h f) i))), (6, .int (nI i)), (2, .int (nI f2)), (1, .int (nI f)), (0, .ref o)]) hx hb d_M_meets_74 hl (by decide) rfl (fun ls hl => ?_)
        refine lv_iinc (v := nI (i + 1)) (lv' := [(6, .int (nI (i + 1))), (5, .int (nI (un * 10))), (3, .int (nI (cm + (un * (max (exN (h f) i) (exN (h f2) i)))))), (4, .int (nI 1)), (8, .int (nI (exN (h f2) i))), (7, .int (nI (exN (h f) i))), (2, .int (nI f2)), (1, .int (nI f)), (0, .ref o)]) hx hb d_M_meets_76 hl (k := 5) rfl (nI_1 _) (by decide) rfl (fun ls hl => ?_)
        refine lv_goto (tgt := 11) hx hb d_M_meets_79 (by decide) ?_
        exact ih (i + 1) (cm + un * max (exN (h f) i) (exN (h f2) i)) (un * 10) (nI 1) S H32 locs ls (by omega) (by rw [hcm, hun]; rfl) (by rw [hun, Nat.pow_succ]) (by rw [shN_s]; exact Or.inl ⟨Or.inr ⟨by omega, by omega⟩, rfl⟩) h_o h_cu h_te h_tp h_tn h_hd h_hv9 hfr hI (lv_sub hl [0, 1, 3, 2, 6, 7, 8] rfl) kx
set_option maxHeartbeats 4000000 in
set_option maxRecDepth 100000 in
theorem lp_M_meet2 {p : Program} {l : Launch} {e : Env} {R : Room} {s : State} {m : MethodId} {args : Array Value} {below : List Frame} {meth : Method} {c : Code} {Q : State → Prop} {D : mp_G} {g : Nat → ClassId} {A : Nat → Prop} {cells slots : Nat} (hx : p.tables.exec = Jvm.exec) (hb : c.code = b_M_meets) (hml : c.maxLocals = 9) (hg : ∀ w ∈ gw, w.before args s = true) (hown : s.vm.findClass R_M = some m.cls) (hK : mp_K D classes (tys g) s) (hRf : 0 ≤ R.frames) (hRl : 0 ≤ R.locals) (hRc : cells ≤ R.cells) (hRs : slots ≤ R.slots) {B : mp_M} {o cu te tp tn hd hv9 n : Nat} {mv0 mv1 mv2 mv3 mv4 mv12 mv13 mv14 mv15 mv16 mv17 mv18 mv19 mv20 mv21 mv22 mv23 mv24 mv25 mv26 mv27 mv28 mv29 mv30 : Value} {tf tpf tnf hf hif : Nat → Int32} {h : Nat → m3} {z : Nat → Nat} {mo : Nat → Nat → m3} {co : Nat → Nat → fF} {z2 : Nat → Nat} {mo2 : Nat → Nat → m3} {co2 : Nat → Nat → fF} {ld : Nat → fF} {CU : Nat → fF}  : ∀ (k : Nat) (i : Nat) (S : mp_M) (H : Heap) (locs : List Loc) (ls : Array Slot), i + k = 21952 → (∀ j, j < i → CU j = 0) → S o = some (2000, .inr (10, [mv0, mv1, mv2, mv3, mv4, .int (nI n), .ref te, .ref tp, .ref tn, .ref hd, .ref hv9, .ref cu, mv12, mv13, mv14, mv15, mv16, mv17, mv18, mv19, mv20, mv21, mv22, mv23, mv24, mv25, mv26, mv27, mv28, mv29, mv30])) → S cu = some (2007, .inl ((g 0), 21952, .inl (fun j => nI (CU j).val))) → S te = some (2002, .inl ((g 0), 12, .inl tf)) → S tp = some (2003, .inl ((g 0), 12000, .inl tpf)) → S tn = some (2004, .inl ((g 0), 12000, .inl tnf)) → S hd = some (2005, .inl ((g 0), 12, .inl hf)) → S hv9 = some (2006, .inl ((g 0), 12, .inl hif)) → (∀ b t e9, B b = some (t, e9) → (t ≠ 2007) → S b = some (t, e9)) → mp_I D classes A s.heap S H locs → lv_has ls 9 [(6, .int (nI i)), (0, .ref o)] → (∀ (S : mp_M) (H : Heap) (locs : List Loc) (ls : Array Slot), (∀ j, j < 21952 → CU j = 0) → S o = some (2000, .inr (10, [mv0, mv1, mv2, mv3, mv4, .int (nI n), .ref te, .ref tp, .ref tn, .ref hd, .ref hv9, .ref cu, mv12, mv13, mv14, mv15, mv16, mv17, mv18, mv19, mv20, mv21, mv22, mv23, mv24, mv25, mv26, mv27, mv28, mv29, mv30])) → S cu = some (2007, .inl ((g 0), 21952, .inl (fun j => nI (CU j).val))) → S te = some (2002, .inl ((g 0), 12, .inl tf)) → S tp = some (2003, .inl ((g 0), 12000, .inl tpf)) → S tn = some (2004, .inl ((g 0), 12000, .inl tnf)) → S hd = some (2005, .inl ((g 0), 12, .inl hf)) → S hv9 = some (2006, .inl ((g 0), 12, .inl hif)) → (∀ b t e9, B b = some (t, e9) → (t ≠ 2007) → S b = some (t, e9)) → mp_I D classes A s.heap S H locs → lv_has ls 9 [(6, .int (nI 21952)), (0, .ref o)] → W p l e R s m args below meth c H locs cells slots Q (F0 m 180 ls [])) → (∀ (S : mp_M) (H : Heap) (locs : List Loc) (ls : Array Slot), (¬ ∀ j, j < 21952 → CU j = 0) → S o = some (2000, .inr (10, [mv0, mv1, mv2, mv3, mv4, .int (nI n), .ref te, .ref tp, .ref tn, .ref hd, .ref hv9, .ref cu, mv12, mv13, mv14, mv15, mv16, mv17, mv18, mv19, mv20, mv21, mv22, mv23, mv24, mv25, mv26, mv27, mv28, mv29, mv30])) → S cu = some (2007, .inl ((g 0), 21952, .inl (fun j => nI (CU j).val))) → S te = some (2002, .inl ((g 0), 12, .inl tf)) → S tp = some (2003, .inl ((g 0), 12000, .inl tpf)) → S tn = some (2004, .inl ((g 0), 12000, .inl tnf)) → S hd = some (2005, .inl ((g 0), 12, .inl hf)) → S hv9 = some (2006, .inl ((g 0), 12, .inl hif)) → (∀ b t e9, B b = some (t, e9) → (t ≠ 2007) → S b = some (t, e9)) → mp_I D classes A s.heap S H locs → lv_has ls 9 [(0, .ref o)] → W p l e R s m args below meth c H locs cells slots Q (F0 m 172 ls [])) → W p l e R s m args below meth c H locs cells slots Q (F0 m 154 ls []) := by
  intro k
  induction k with
  | zero =>
    intro i S H locs ls hi hz h_o h_cu h_te h_tp h_tn h_hd h_hv9 hfr hI hl kx ky
    refine lv_iload hx hb d_M_meets_154 (lv_at hl 0 rfl) ?_
    refine lv_sipush (v := nI 21952) hx hb d_M_meets_156 (by decide) ?_
    refine lv_icmp_ge (tgt := 180) hx hb d_M_meets_159 (by decide) (fun _ => ?_) (fun h9 => absurd ((nI_leI (by omega) (by omega)).mpr (by omega)) h9)
    obtain rfl : i = 21952 := by omega
    exact kx S H locs ls hz h_o h_cu h_te h_tp h_tn h_hd h_hv9 hfr hI (lv_sub hl [0, 1] rfl)
  | succ k ih =>
    intro i S H locs ls hi hz h_o h_cu h_te h_tp h_tn h_hd h_hv9 hfr hI hl kx ky
    refine lv_iload hx hb d_M_meets_154 (lv_at hl 0 rfl) ?_
    refine lv_sipush (v := nI 21952) hx hb d_M_meets_156 (by decide) ?_
    refine lv_icmp_ge (tgt := 180) hx hb d_M_meets_159 (by decide) (fun h9 => absurd h9 (by rw [nI_leI (by omega) (by omega)]; omega)) (fun _ => ?_)
    refine lv_aload_n hx hb d_M_meets_162 rfl (lv_at hl 1 rfl) ?_
    refine mp_get (C := R_M) (T := F_M) (N := 31) (v := .ref cu) hx hb hg i_M hown hK.va hI h_o rfl 11 (by decide) (hg _ q_815) (fun _ h9 => h9) rfl d_M_meets_163 ?_
    refine lv_iload hx hb d_M_meets_166 (lv_at hl 0 rfl) ?_
    refine mp_iald hx hb hK.va hI 0 h_cu rfl (vp_in_nI (show i < 21952 by omega) (by omega)) d_M_meets_168 ?_
    refine lv_topi (fun v1 ev1 => ?_)
    obtain rfl : v1 = nI (CU i).val := ev1.trans (by rw [nI_clamp (by omega)])
    refine lv_if_eq (tgt := 174) hx hb d_M_meets_169 (by decide) (fun c1 => ?_) (fun c1 => ?_)
    · rw [zI_eq (by omega)] at c1
      refine lv_iinc (v := nI (i + 1)) (lv' := [(6, .int (nI (i + 1))), (0, .ref o)]) hx hb d_M_meets_174 hl (k := 0) rfl (nI_1 _) (by decide) rfl (fun ls hl => ?_)
      refine lv_goto (tgt := 154) hx hb d_M_meets_177 (by decide) ?_
      exact ih (i + 1) S H locs ls (by omega) (fun j hj => by by_cases e9 : j = i; exact (by rw [e9]; exact Fin.ext c1); exact hz j (by omega)) h_o h_cu h_te h_tp h_tn h_hd h_hv9 hfr hI (lv_sub hl [0, 1] rfl) kx ky
    · rw [zI_eq (by omega)] at c1
      exact ky S H locs ls (fun q9 => c1 (by rw [q9 i (by omega)]; rfl)) h_o h_cu h_te h_tp h_tn h_hd h_hv9 hfr hI (lv_sub hl [1] rfl)
set_option maxHeartbeats 4000000 in
set_option maxRecDepth 100000 in
/-- what comes of two heads, in the reference -/
theorem c_M_meets (l : Launch) (D : mp_G) (g : Nat → ClassId) (S : mp_M) (sz : Nat) (o cu te tp tn hd hv9 n : Nat) (mv0 mv1 mv2 mv3 mv4 mv12 mv13 mv14 mv15 mv16 mv17 mv18 mv19 mv20 mv21 mv22 mv23 mv24 mv25 mv26 mv27 mv28 mv29 mv30 : Value) (tf tpf tnf hf hif : Nat → Int32) (h : Nat → m3) (z : Nat → Nat) (mo : Nat → Nat → m3) (co : Nat → Nat → fF) (z2 : Nat → Nat) (mo2 : Nat → Nat → m3) (co2 : Nat → Nat → fF) (ld : Nat → fF) (f f2 : Nat) (CU : Nat → fF) (h_o : S o = some (2000, .inr (10, [mv0, mv1, mv2, mv3, mv4, .int (nI n), .ref te, .ref tp, .ref tn, .ref hd, .ref hv9, .ref cu, mv12, mv13, mv14, mv15, mv16, mv17, mv18, mv19, mv20, mv21, mv22, mv23, mv24, mv25, mv26, mv27, mv28, mv29, mv30]))) (h_cu : S cu = some (2007, .inl ((g 0), 21952, .inl (fun j => nI (CU j).val)))) (h_te : S te = some (2002, .inl ((g 0), 12, .inl tf))) (h_tp : S tp = some (2003, .inl ((g 0), 12000, .inl tpf))) (h_tn : S tn = some (2004, .inl ((g 0), 12000, .inl tnf))) (h_hd : S hd = some (2005, .inl ((g 0), 12, .inl hf))) (h_hv9 : S hv9 = some (2006, .inl ((g 0), 12, .inl hif))) (hM : lsM n h z mo co z2 mo2 co2 ld tf tpf tnf hf hif) (hf9 : f < n) (hf2 : f2 < n) (tCU : trn 21952 CU) : Met l y_M_meets w_M_meets ({ frames := 4, cells := 0, slots := 0, locals := 92 }) (va_Pc [.ref o, .int (nI f), .int (nI f2)] (mp_B0 D classes (tys g) S sz)) (va_Qi (fun (r : Int32) (S1 : mp_M) => ∃ CU1 : Nat → fF, S1 cu = some (2007, .inl ((g 0), 21952, .inl (fun j => nI (CU1 j).val))) ∧ trn 21952 CU1 ∧ ((r = 1 ∧ (sh3 (h f) (h f2) → pvN n h z mo co f f2)) ∨ (r = 0 ∧ sh3 (h f) (h f2) ∧ ¬ pvN n h z mo co f f2)) ∧ (∀ b t e9, S b = some (t, e9) → (t ≠ 2007) → S1 b = some (t, e9))) (mp_B1 D classes S sz) (mp_A S sz)) 0 0 (mp_A S sz) := by
  refine Met.ofW (cc := b_M_meets) (maxL := 9) (ret := (some .boolean)) (by decide) rfl ?_
  intro p e s m args below meth c s₁ B hml hv
  obtain ⟨rfl, hsz, hH, hK⟩ := hv
  have hx := B.exec
  have hb := B.bytes
  have hr := B.returns
  have hts := atoms_spec (ws := w_M_meets) B.pre
  have hg : ∀ w ∈ gw, w.before _ s = true := fun w h => hts w (List.mem_cons_of_mem _ h)
  have hown : s.vm.findClass R_M = some m.cls := findClass_of_methodNamed B.named
  have hlocks := B.notSynchronized
  subst hsz
  have hI := mp_I.start hH
  have hl := lv_entry ([.ref o, .int (nI f), .int (nI f2)]) (n := 9) (Nat.le_of_ble_eq_true rfl)
  rw [lg_entry_eq]
  generalize (lg_sl ([.ref o, .int (nI f), .int (nI f2)]) ++ List.replicate (9 - (lg_sl ([.ref o, .int (nI f), .int (nI f2)])).length) Slot.unset).toArray = ls at hl ⊢
  have hl : lv_has ls 9 [(0, .ref o), (1, .int (nI f)), (2, .int (nI f2))] := hl
  have hfr : ∀ b t e9, S b = some (t, e9) → (t ≠ 2007) → S b = some (t, e9) := fun _ _ _ h9 _ => h9
  refine lv_iconst (v := nI 0) hx hb d_M_meets_0 (by decide) ?_
  refine lv_istore_n (lv' := [(3, .int (nI 0)), (0, .ref o), (1, .int (nI f)), (2, .int (nI f2))]) hx hb d_M_meets_1 rfl hl (by decide) rfl (fun ls hl => ?_)
  refine lv_iconst (v := nI 0) hx hb d_M_meets_2 (by decide) ?_
  refine lv_istore (lv' := [(4, .int (nI 0)), (3, .int (nI 0)), (0, .ref o), (1, .int (nI f)), (2, .int (nI f2))]) hx hb d_M_meets_3 hl (by decide) rfl (fun ls hl => ?_)
  refine lv_iconst (v := nI 1) hx hb d_M_meets_5 (by decide) ?_
  refine lv_istore (lv' := [(5, .int (nI 1)), (4, .int (nI 0)), (3, .int (nI 0)), (0, .ref o), (1, .int (nI f)), (2, .int (nI f2))]) hx hb d_M_meets_6 hl (by decide) rfl (fun ls hl => ?_)
  refine lv_iconst (v := nI 0) hx hb d_M_meets_8 (by decide) ?_
  refine lv_istore (lv' := [(6, .int (nI 0)), (5, .int (nI 1)), (4, .int (nI 0)), (3, .int (nI 0)), (0, .ref o), (1, .int (nI f)), (2, .int (nI f2))]) hx hb d_M_meets_9 hl (by decide) rfl (fun ls hl => ?_)
  refine lp_M_meet1 (B := S) (o := o) (cu := cu) (te := te) (tp := tp) (tn := tn) (hd := hd) (hv9 := hv9) (n := n) (mv0 := mv0) (mv1 := mv1) (mv2 := mv2) (mv3 := mv3) (mv4 := mv4) (mv12 := mv12) (mv13 := mv13) (mv14 := mv14) (mv15 := mv15) (mv16 := mv16) (mv17 := mv17) (mv18 := mv18) (mv19 := mv19) (mv20 := mv20) (mv21 := mv21) (mv22 := mv22) (mv23 := mv23) (mv24 := mv24) (mv25 := mv25) (mv26 := mv26) (mv27 := mv27) (mv28 := mv28) (mv29 := mv29) (mv30 := mv30) (tf := tf) (tpf := tpf) (tnf := tnf) (hf := hf) (hif := hif) (h := h) (z := z) (mo := mo) (co := co) (z2 := z2) (mo2 := mo2) (co2 := co2) (ld := ld) (f := f) (f2 := f2) (CU := CU) hx hb hml hg hown hK (Nat.le_of_ble_eq_true rfl) (Nat.le_of_ble_eq_true rfl) (Nat.le_of_ble_eq_true rfl) (Nat.le_of_ble_eq_true rfl) hM hf9 hf2 3 0 0 1 (nI 0) S s.heap _ ls (by omega) rfl rfl (Or.inr ⟨fun ⟨l9, h8, _⟩ => absurd h8 (Nat.not_lt_zero l9), rfl⟩) h_o h_cu h_te h_tp h_tn h_hd h_hv9 hfr hI (lv_sub hl [0, 1, 2, 3, 6, 5, 4] rfl) (fun cm un v4 S1 H2 locs ls hcm hun hso j_o j_cu j_te j_tp j_tn j_hd j_hv9 hfr hI hl => ?_)
  refine lv_iload hx hb d_M_meets_82 (lv_at hl 2 rfl) ?_
  have hn12 := hM.2.1
  rw [cm_3] at hcm
  rw [sh_3] at hso
  rcases hso with ⟨hsh, rfl⟩ | ⟨hsh, rfl⟩
  · refine lv_if_ne (tgt := 89) hx hb d_M_meets_84 (by decide) (fun _ => ?_) (fun h9 => absurd h9 (by decide))
    obtain ⟨f1, f2x, f3, f4, f5, f6, f7⟩ := hM.2.2 f hf9
    obtain ⟨g1, g2, g3, g4, g5, g6, g7⟩ := hM.2.2 f2 hf2
    obtain ⟨a1, a2, a3⟩ := f4
    obtain ⟨b1, b2, b3⟩ := g4
    obtain ⟨L, eL⟩ : ∃ L, L = lc3 (h f) (h f2) := ⟨_, rfl⟩
    rw [← eL] at hcm
    have hL9 : L.1 ≤ 9 ∧ L.2.1 ≤ 9 ∧ L.2.2 ≤ 9 := by rw [eL]; simp only [lc3]; omega
    obtain ⟨c1, c2, c3⟩ := hL9
    have hLp : pl3 L < tr3 28 := pl_lt (M := 27) (show L.1 + L.2.1 + L.2.2 ≤ 27 by omega)
    obtain ⟨t, et⟩ : ∃ t, t = sb3 L (h f) := ⟨_, rfl⟩
    obtain ⟨t2, et2⟩ : ∃ t, t = sb3 L (h f2) := ⟨_, rfl⟩
    have htd : ad3 t (h f) = L := by rw [et, eL]; exact ad3_sb (dv3_l1 _ _)
    have htd2 : ad3 t2 (h f2) = L := by rw [et2, eL]; exact ad3_sb (dv3_l2 _ _)
    have h28 := lsM_28 hM hf9 htd hLp
    have h28b := lsM_28 hM hf2 htd2 hLp
    have hct : cl3 (h f) + cl3 t = cl3 L := by rw [cl3_ad, htd]
    have hct2 : cl3 (h f2) + cl3 t2 = cl3 L := by rw [cl3_ad, htd2]
    have hclL : cl3 L < 21952 := cl3_lt (by omega)
    subst hcm
    refine lv_aload_n hx hb d_M_meets_89 rfl (lv_at hl 6 rfl) ?_
    refine mp_callv hI (va_runV (As := []) (rest := []) ⟨hx, hb, hml, hown, hg⟩ (c_M_empty l D g S1 _ o cu mv0 mv1 mv2 mv3 mv4 (.int (nI n)) (.ref te) (.ref tp) (.ref tn) (.ref hd) (.ref hv9) mv12 mv13 mv14 mv15 mv16 mv17 mv18 mv19 mv20 mv21 mv22 mv23 mv24 mv25 mv26 mv27 mv28 mv29 mv30 CU j_o j_cu) ⟨(callB_of 0 hg (wd_goodG q_977) rfl rfl rfl (hg _ q_5) (hg _ q_974) (by decide +kernel) ⟨Nat.le_of_ble_eq_true rfl, Nat.le_of_ble_eq_true rfl⟩), hg _ q_976, hg _ qs_30⟩ (mp_preV (C := R_M) (T := F_M) hI hK j_o rfl []) rfl rfl hl.1 rfl (lv_room (Nat.le_of_ble_eq_true rfl)) d_M_meets_90 ⟨Nat.le_of_ble_eq_true rfl, Nat.le_of_ble_eq_true rfl⟩) (fun S3 H4 locs p_5 hI => ?_)
    obtain ⟨q_cu, fq⟩ := p_5
    rw [mgF_t (zR_t 21952) tCU] at q_cu
    have j_o : S3 o = some (2000, .inr (10, [mv0, mv1, mv2, mv3, mv4, .int (nI n), .ref te, .ref tp, .ref tn, .ref hd, .ref hv9, .ref cu, mv12, mv13, mv14, mv15, mv16, mv17, mv18, mv19, mv20, mv21, mv22, mv23, mv24, mv25, mv26, mv27, mv28, mv29, mv30])) := fq o _ _ j_o (by omega)
    have j_te : S3 te = some (2002, .inl ((g 0), 12, .inl tf)) := fq te _ _ j_te (by omega)
    have j_tp : S3 tp = some (2003, .inl ((g 0), 12000, .inl tpf)) := fq tp _ _ j_tp (by omega)
    have j_tn : S3 tn = some (2004, .inl ((g 0), 12000, .inl tnf)) := fq tn _ _ j_tn (by omega)
    have j_hd : S3 hd = some (2005, .inl ((g 0), 12, .inl hf)) := fq hd _ _ j_hd (by omega)
    have j_hv9 : S3 hv9 = some (2006, .inl ((g 0), 12, .inl hif)) := fq hv9 _ _ j_hv9 (by omega)
    have hfr : ∀ b t e9, S b = some (t, e9) → (t ≠ 2007) → S3 b = some (t, e9) := fun b t e9 h9 k0 => by have h8 := hfr b t e9 h9 k0; exact fq b _ _ h8 (by omega)
    have j_cu := q_cu
    refine lv_aload_n hx hb d_M_meets_93 rfl (lv_at hl 6 rfl) ?_
    refine lv_iload_n hx hb d_M_meets_94 rfl (lv_at hl 5 rfl) ?_
    refine lv_iconst (v := nI 0) hx hb d_M_meets_95 (by decide) ?_
    refine lv_aload_n hx hb d_M_meets_96 rfl (lv_at hl 6 rfl) ?_
    refine mp_get (C := R_M) (T := F_M) (N := 31) (v := .ref hv9) hx hb hg i_M hown hK.va hI j_o rfl 10 (by decide) (hg _ q_814) (fun _ h9 => h9) rfl d_M_meets_97 ?_
    refine lv_iload_n hx hb d_M_meets_100 rfl (lv_at hl 5 rfl) ?_
    refine mp_iald hx hb hK.va hI 0 j_hv9 rfl (vp_in_nI (show f < 12 by omega) (by omega)) d_M_meets_101 ?_
    refine lv_topi (fun v7 ev7 => ?_)
    obtain rfl : v7 = nI (iv (ld f)).val := ev7.trans (by rw [nI_clamp (by omega)]; exact f5)
    refine mp_calli hI (va_runS (As := [.int (nI ((0 : fF)).val), .int (nI (iv (ld f)).val)]) (rest := [.int (nI f), .ref o]) ⟨hx, hb, hml, hown, hg⟩ (c_M_less l D g S3 _ 0 (iv (ld f)).val (by decide) (by omega)) ⟨(callB_of 2 hg (wd_goodG q_980) rfl rfl rfl (hg _ q_5) (hg _ q_978) (by decide +kernel) ⟨Nat.le_of_ble_eq_true rfl, Nat.le_of_ble_eq_true rfl⟩), hg _ q_979⟩ (mp_pre hI hK [.int (nI ((0 : fF)).val), .int (nI (iv (ld f)).val)]) rfl rfl hl.1 rfl (lv_room (Nat.le_of_ble_eq_true rfl)) d_M_meets_102 ⟨Nat.le_of_ble_eq_true rfl, Nat.le_of_ble_eq_true rfl⟩) (fun r11 S8 H9 locs p_10 hI => ?_)
    obtain ⟨er11, eS12⟩ := p_10
    rw [eS12] at hI
    have er11 : r11 = nI ((0 + (32003 - (iv (ld f)).val)) % 32003) := er11
    subst er11
    refine lv_topi (fun v13 ev13 => ?_)
    obtain rfl : v13 = nI (-1 * iv (ld f)).val := ev13.trans (congrArg nI (fv_mod (by rw [Nat.zero_add, fc_ng]; grind)))
    refine lv_iload_n hx hb d_M_meets_105 rfl (lv_at hl 3 rfl) ?_
    refine mp_calli hI (va_runS (As := [.int (nI (pN L.1 L.2.1 L.2.2))]) (rest := [.int (nI (-1 * iv (ld f)).val), .int (nI f), .ref o]) ⟨hx, hb, hml, hown, hg⟩ (c_M_cellOf l D g S3 _ (pN L.1 L.2.1 L.2.2) (pN_lt c1 c2 c3)) ⟨(callB_of 1 hg (wd_goodG q_983) rfl rfl rfl (hg _ q_5) (hg _ q_981) (by decide +kernel) ⟨Nat.le_of_ble_eq_true rfl, Nat.le_of_ble_eq_true rfl⟩), hg _ q_982⟩ (mp_pre hI hK [.int (nI (pN L.1 L.2.1 L.2.2))]) rfl rfl hl.1 rfl (lv_room (Nat.le_of_ble_eq_true rfl)) d_M_meets_106 ⟨Nat.le_of_ble_eq_true rfl, Nat.le_of_ble_eq_true rfl⟩) (fun r17 S14 H15 locs p_16 hI => ?_)
    obtain ⟨er17, eS18⟩ := p_16
    rw [eS18] at hI
    have er17 : r17 = nI (clN (eN (pN L.1 L.2.1 L.2.2) 0) (eN (pN L.1 L.2.1 L.2.2) 1) (eN (pN L.1 L.2.1 L.2.2) 2)) := er17
    subst er17
    refine lv_topi (fun v19 ev19 => ?_)
    obtain rfl : v19 = nI (cl3 L) := ev19.trans (by rw [pN_0 c1 c2 c3, pN_1 c1 c2 c3, pN_2 c1 c2 c3]; rfl)
    refine lv_aload_n hx hb d_M_meets_109 rfl (lv_at hl 6 rfl) ?_
    refine mp_get (C := R_M) (T := F_M) (N := 31) (v := .ref hd) hx hb hg i_M hown hK.va hI j_o rfl 9 (by decide) (hg _ q_813) (fun _ h9 => h9) rfl d_M_meets_110 ?_
    refine lv_iload_n hx hb d_M_meets_113 rfl (lv_at hl 5 rfl) ?_
    refine mp_iald hx hb hK.va hI 0 j_hd rfl (vp_in_nI (show f < 12 by omega) (by omega)) d_M_meets_114 ?_
    refine lv_topi (fun v20 ev20 => ?_)
    obtain rfl : v20 = nI (pN (h f).1 (h f).2.1 (h f).2.2) := ev20.trans (by rw [nI_clamp (by omega)]; exact f3)
    refine mp_calli hI (va_runS (As := [.int (nI (pN (h f).1 (h f).2.1 (h f).2.2))]) (rest := [.int (nI (cl3 L)), .int (nI (-1 * iv (ld f)).val), .int (nI f), .ref o]) ⟨hx, hb, hml, hown, hg⟩ (c_M_cellOf l D g S3 _ (pN (h f).1 (h f).2.1 (h f).2.2) (pN_lt a1 a2 a3)) ⟨(callB_of 1 hg (wd_goodG q_983) rfl rfl rfl (hg _ q_5) (hg _ q_981) (by decide +kernel) ⟨Nat.le_of_ble_eq_true rfl, Nat.le_of_ble_eq_true rfl⟩), hg _ q_982⟩ (mp_pre hI hK [.int (nI (pN (h f).1 (h f).2.1 (h f).2.2))]) rfl rfl hl.1 rfl (lv_room (Nat.le_of_ble_eq_true rfl)) d_M_meets_115 ⟨Nat.le_of_ble_eq_true rfl, Nat.le_of_ble_eq_true rfl⟩) (fun r24 S21 H22 locs p_23 hI => ?_)
    obtain ⟨er24, eS25⟩ := p_23
    rw [eS25] at hI
    have er24 : r24 = nI (clN (eN (pN (h f).1 (h f).2.1 (h f).2.2) 0) (eN (pN (h f).1 (h f).2.1 (h f).2.2) 1) (eN (pN (h f).1 (h f).2.1 (h f).2.2) 2)) := er24
    subst er24
    refine lv_topi (fun v26 ev26 => ?_)
    obtain rfl : v26 = nI (cl3 (h f)) := ev26.trans (by rw [pN_0 a1 a2 a3, pN_1 a1 a2 a3, pN_2 a1 a2 a3]; rfl)
    refine lv_isub hx hb d_M_meets_118 ?_
    refine lv_topi (fun v27 ev27 => ?_)
    obtain rfl : v27 = nI ((cl3 L) - (cl3 (h f))) := ev27.trans (pk_sub (by omega))
    refine lv_topi (fun v28 ev28 => ?_)
    obtain rfl : v28 = nI (cl3 t) := ev28.trans (by rw [show cl3 L - cl3 (h f) = cl3 t by omega])
    refine mp_callv hI (va_runV (As := [.int (nI f), .int (nI (-1 * iv (ld f)).val), .int (nI (cl3 t))]) (rest := []) ⟨hx, hb, hml, hown, hg⟩ (c_M_takeOff l D g S3 _ o cu te tp tn f (z2 f) mv0 mv1 mv2 mv3 mv4 (.int (nI n)) (.ref hd) (.ref hv9) mv12 mv13 mv14 mv15 mv16 mv17 mv18 mv19 mv20 mv21 mv22 mv23 mv24 mv25 mv26 mv27 mv28 mv29 mv30 tf tpf tnf (mo2 f) (co2 f) t (-1 * iv (ld f)) zR j_o j_cu j_te j_tp j_tn (by omega) f2x f1 (fun k9 hk9 => ⟨(f6 k9 hk9).1, (f6 k9 hk9).2.1, (f6 k9 hk9).2.2.1, (h28 k9 hk9).2⟩) (by omega)) ⟨(callB_of 3 hg (wd_goodG q_990) rfl rfl rfl (hg _ q_5) (hg _ q_987) (by decide +kernel) ⟨Nat.le_of_ble_eq_true rfl, Nat.le_of_ble_eq_true rfl⟩), hg _ q_989, hg _ qs_31⟩ (mp_preV (C := R_M) (T := F_M) hI hK j_o rfl [.int (nI f), .int (nI (-1 * iv (ld f)).val), .int (nI (cl3 t))]) rfl rfl hl.1 rfl (lv_room (Nat.le_of_ble_eq_true rfl)) d_M_meets_119 ⟨Nat.le_of_ble_eq_true rfl, Nat.le_of_ble_eq_true rfl⟩) (fun S29 H30 locs p_31 hI => ?_)
    obtain ⟨q_cu, fq⟩ := p_31
    have j_o : S29 o = some (2000, .inr (10, [mv0, mv1, mv2, mv3, mv4, .int (nI n), .ref te, .ref tp, .ref tn, .ref hd, .ref hv9, .ref cu, mv12, mv13, mv14, mv15, mv16, mv17, mv18, mv19, mv20, mv21, mv22, mv23, mv24, mv25, mv26, mv27, mv28, mv29, mv30])) := fq o _ _ j_o (by omega)
    have j_te : S29 te = some (2002, .inl ((g 0), 12, .inl tf)) := fq te _ _ j_te (by omega)
    have j_tp : S29 tp = some (2003, .inl ((g 0), 12000, .inl tpf)) := fq tp _ _ j_tp (by omega)
    have j_tn : S29 tn = some (2004, .inl ((g 0), 12000, .inl tnf)) := fq tn _ _ j_tn (by omega)
    have j_hd : S29 hd = some (2005, .inl ((g 0), 12, .inl hf)) := fq hd _ _ j_hd (by omega)
    have j_hv9 : S29 hv9 = some (2006, .inl ((g 0), 12, .inl hif)) := fq hv9 _ _ j_hv9 (by omega)
    have hfr : ∀ b t e9, S b = some (t, e9) → (t ≠ 2007) → S29 b = some (t, e9) := fun b t e9 h9 k0 => by have h8 := hfr b t e9 h9 k0; exact fq b _ _ h8 (by omega)
    have j_cu := q_cu
    refine lv_aload_n hx hb d_M_meets_122 rfl (lv_at hl 6 rfl) ?_
    refine lv_iload_n hx hb d_M_meets_123 rfl (lv_at hl 4 rfl) ?_
    refine lv_aload_n hx hb d_M_meets_124 rfl (lv_at hl 6 rfl) ?_
    refine mp_get (C := R_M) (T := F_M) (N := 31) (v := .ref hv9) hx hb hg i_M hown hK.va hI j_o rfl 10 (by decide) (hg _ q_814) (fun _ h9 => h9) rfl d_M_meets_125 ?_
    refine lv_iload_n hx hb d_M_meets_128 rfl (lv_at hl 4 rfl) ?_
    refine mp_iald hx hb hK.va hI 0 j_hv9 rfl (vp_in_nI (show f2 < 12 by omega) (by omega)) d_M_meets_129 ?_
    refine lv_topi (fun v33 ev33 => ?_)
    obtain rfl : v33 = nI (iv (ld f2)).val := ev33.trans (by rw [nI_clamp (by omega)]; exact g5)
    refine lv_iload_n hx hb d_M_meets_130 rfl (lv_at hl 3 rfl) ?_
    refine mp_calli hI (va_runS (As := [.int (nI (pN L.1 L.2.1 L.2.2))]) (rest := [.int (nI (iv (ld f2)).val), .int (nI f2), .ref o]) ⟨hx, hb, hml, hown, hg⟩ (c_M_cellOf l D g S29 _ (pN L.1 L.2.1 L.2.2) (pN_lt c1 c2 c3)) ⟨(callB_of 1 hg (wd_goodG q_983) rfl rfl rfl (hg _ q_5) (hg _ q_981) (by decide +kernel) ⟨Nat.le_of_ble_eq_true rfl, Nat.le_of_ble_eq_true rfl⟩), hg _ q_982⟩ (mp_pre hI hK [.int (nI (pN L.1 L.2.1 L.2.2))]) rfl rfl hl.1 rfl (lv_room (Nat.le_of_ble_eq_true rfl)) d_M_meets_131 ⟨Nat.le_of_ble_eq_true rfl, Nat.le_of_ble_eq_true rfl⟩) (fun r37 S34 H35 locs p_36 hI => ?_)
    obtain ⟨er37, eS38⟩ := p_36
    rw [eS38] at hI
    have er37 : r37 = nI (clN (eN (pN L.1 L.2.1 L.2.2) 0) (eN (pN L.1 L.2.1 L.2.2) 1) (eN (pN L.1 L.2.1 L.2.2) 2)) := er37
    subst er37
    refine lv_topi (fun v39 ev39 => ?_)
    obtain rfl : v39 = nI (cl3 L) := ev39.trans (by rw [pN_0 c1 c2 c3, pN_1 c1 c2 c3, pN_2 c1 c2 c3]; rfl)
    refine lv_aload_n hx hb d_M_meets_134 rfl (lv_at hl 6 rfl) ?_
    refine mp_get (C := R_M) (T := F_M) (N := 31) (v := .ref hd) hx hb hg i_M hown hK.va hI j_o rfl 9 (by decide) (hg _ q_813) (fun _ h9 => h9) rfl d_M_meets_135 ?_
    refine lv_iload_n hx hb d_M_meets_138 rfl (lv_at hl 4 rfl) ?_
    refine mp_iald hx hb hK.va hI 0 j_hd rfl (vp_in_nI (show f2 < 12 by omega) (by omega)) d_M_meets_139 ?_
    refine lv_topi (fun v40 ev40 => ?_)
    obtain rfl : v40 = nI (pN (h f2).1 (h f2).2.1 (h f2).2.2) := ev40.trans (by rw [nI_clamp (by omega)]; exact g3)
    refine mp_calli hI (va_runS (As := [.int (nI (pN (h f2).1 (h f2).2.1 (h f2).2.2))]) (rest := [.int (nI (cl3 L)), .int (nI (iv (ld f2)).val), .int (nI f2), .ref o]) ⟨hx, hb, hml, hown, hg⟩ (c_M_cellOf l D g S29 _ (pN (h f2).1 (h f2).2.1 (h f2).2.2) (pN_lt b1 b2 b3)) ⟨(callB_of 1 hg (wd_goodG q_983) rfl rfl rfl (hg _ q_5) (hg _ q_981) (by decide +kernel) ⟨Nat.le_of_ble_eq_true rfl, Nat.le_of_ble_eq_true rfl⟩), hg _ q_982⟩ (mp_pre hI hK [.int (nI (pN (h f2).1 (h f2).2.1 (h f2).2.2))]) rfl rfl hl.1 rfl (lv_room (Nat.le_of_ble_eq_true rfl)) d_M_meets_140 ⟨Nat.le_of_ble_eq_true rfl, Nat.le_of_ble_eq_true rfl⟩) (fun r44 S41 H42 locs p_43 hI => ?_)
    obtain ⟨er44, eS45⟩ := p_43
    rw [eS45] at hI
    have er44 : r44 = nI (clN (eN (pN (h f2).1 (h f2).2.1 (h f2).2.2) 0) (eN (pN (h f2).1 (h f2).2.1 (h f2).2.2) 1) (eN (pN (h f2).1 (h f2).2.1 (h f2).2.2) 2)) := er44
    subst er44
    refine lv_topi (fun v46 ev46 => ?_)
    obtain rfl : v46 = nI (cl3 (h f2)) := ev46.trans (by rw [pN_0 b1 b2 b3, pN_1 b1 b2 b3, pN_2 b1 b2 b3]; rfl)
    refine lv_isub hx hb d_M_meets_143 ?_
    refine lv_topi (fun v47 ev47 => ?_)
    obtain rfl : v47 = nI ((cl3 L) - (cl3 (h f2))) := ev47.trans (pk_sub (by omega))
    refine lv_topi (fun v48 ev48 => ?_)
    obtain rfl : v48 = nI (cl3 t2) := ev48.trans (by rw [show cl3 L - cl3 (h f2) = cl3 t2 by omega])
    refine mp_callv hI (va_runV (As := [.int (nI f2), .int (nI (iv (ld f2)).val), .int (nI (cl3 t2))]) (rest := []) ⟨hx, hb, hml, hown, hg⟩ (c_M_takeOff l D g S29 _ o cu te tp tn f2 (z2 f2) mv0 mv1 mv2 mv3 mv4 (.int (nI n)) (.ref hd) (.ref hv9) mv12 mv13 mv14 mv15 mv16 mv17 mv18 mv19 mv20 mv21 mv22 mv23 mv24 mv25 mv26 mv27 mv28 mv29 mv30 tf tpf tnf (mo2 f2) (co2 f2) t2 (iv (ld f2)) (cuF (mo2 f) (co2 f) t (-1 * iv (ld f)) zR (z2 f)) j_o j_cu j_te j_tp j_tn (by omega) g2 g1 (fun k9 hk9 => ⟨(g6 k9 hk9).1, (g6 k9 hk9).2.1, (g6 k9 hk9).2.2.1, (h28b k9 hk9).2⟩) (by omega)) ⟨(callB_of 3 hg (wd_goodG q_990) rfl rfl rfl (hg _ q_5) (hg _ q_987) (by decide +kernel) ⟨Nat.le_of_ble_eq_true rfl, Nat.le_of_ble_eq_true rfl⟩), hg _ q_989, hg _ qs_31⟩ (mp_preV (C := R_M) (T := F_M) hI hK j_o rfl [.int (nI f2), .int (nI (iv (ld f2)).val), .int (nI (cl3 t2))]) rfl rfl hl.1 rfl (lv_room (Nat.le_of_ble_eq_true rfl)) d_M_meets_144 ⟨Nat.le_of_ble_eq_true rfl, Nat.le_of_ble_eq_true rfl⟩) (fun S49 H50 locs p_51 hI => ?_)
    obtain ⟨q_cu, fq⟩ := p_51
    have j_o : S49 o = some (2000, .inr (10, [mv0, mv1, mv2, mv3, mv4, .int (nI n), .ref te, .ref tp, .ref tn, .ref hd, .ref hv9, .ref cu, mv12, mv13, mv14, mv15, mv16, mv17, mv18, mv19, mv20, mv21, mv22, mv23, mv24, mv25, mv26, mv27, mv28, mv29, mv30])) := fq o _ _ j_o (by omega)
    have j_te : S49 te = some (2002, .inl ((g 0), 12, .inl tf)) := fq te _ _ j_te (by omega)
    have j_tp : S49 tp = some (2003, .inl ((g 0), 12000, .inl tpf)) := fq tp _ _ j_tp (by omega)
    have j_tn : S49 tn = some (2004, .inl ((g 0), 12000, .inl tnf)) := fq tn _ _ j_tn (by omega)
    have j_hd : S49 hd = some (2005, .inl ((g 0), 12, .inl hf)) := fq hd _ _ j_hd (by omega)
    have j_hv9 : S49 hv9 = some (2006, .inl ((g 0), 12, .inl hif)) := fq hv9 _ _ j_hv9 (by omega)
    have hfr : ∀ b t e9, S b = some (t, e9) → (t ≠ 2007) → S49 b = some (t, e9) := fun b t e9 h9 k0 => by have h8 := hfr b t e9 h9 k0; exact fq b _ _ h8 (by omega)
    have j_cu := q_cu
    refine lv_aload_n hx hb d_M_meets_147 rfl (lv_at hl 6 rfl) ?_
    refine mp_callv hI (va_runV (As := []) (rest := []) ⟨hx, hb, hml, hown, hg⟩ (c_M_reduce l D g S49 _ o cu te tp tn hd hv9 n mv0 mv1 mv2 mv3 mv4 mv12 mv13 mv14 mv15 mv16 mv17 mv18 mv19 mv20 mv21 mv22 mv23 mv24 mv25 mv26 mv27 mv28 mv29 mv30 tf tpf tnf hf hif h z mo co z2 mo2 co2 ld (cuF (mo2 f2) (co2 f2) t2 (iv (ld f2)) (cuF (mo2 f) (co2 f) t (-1 * iv (ld f)) zR (z2 f)) (z2 f2)) j_o j_cu j_te j_tp j_tn j_hd j_hv9 hM) ⟨(callB_of 0 hg (wd_goodG q_994) rfl rfl rfl (hg _ q_5) (hg _ q_991) (by decide +kernel) ⟨Nat.le_of_ble_eq_true rfl, Nat.le_of_ble_eq_true rfl⟩), hg _ q_993, hg _ qs_32⟩ (mp_preV (C := R_M) (T := F_M) hI hK j_o rfl []) rfl rfl hl.1 rfl (lv_room (Nat.le_of_ble_eq_true rfl)) d_M_meets_148 ⟨Nat.le_of_ble_eq_true rfl, Nat.le_of_ble_eq_true rfl⟩) (fun S53 H54 locs p_55 hI => ?_)
    obtain ⟨CU1, q_cu, hr1, hr2, fq⟩ := p_55
    have j_o : S53 o = some (2000, .inr (10, [mv0, mv1, mv2, mv3, mv4, .int (nI n), .ref te, .ref tp, .ref tn, .ref hd, .ref hv9, .ref cu, mv12, mv13, mv14, mv15, mv16, mv17, mv18, mv19, mv20, mv21, mv22, mv23, mv24, mv25, mv26, mv27, mv28, mv29, mv30])) := fq o _ _ j_o (by omega)
    have j_te : S53 te = some (2002, .inl ((g 0), 12, .inl tf)) := fq te _ _ j_te (by omega)
    have j_tp : S53 tp = some (2003, .inl ((g 0), 12000, .inl tpf)) := fq tp _ _ j_tp (by omega)
    have j_tn : S53 tn = some (2004, .inl ((g 0), 12000, .inl tnf)) := fq tn _ _ j_tn (by omega)
    have j_hd : S53 hd = some (2005, .inl ((g 0), 12, .inl hf)) := fq hd _ _ j_hd (by omega)
    have j_hv9 : S53 hv9 = some (2006, .inl ((g 0), 12, .inl hif)) := fq hv9 _ _ j_hv9 (by omega)
    have hfr : ∀ b t e9, S b = some (t, e9) → (t ≠ 2007) → S53 b = some (t, e9) := fun b t e9 h9 k0 => by have h8 := hfr b t e9 h9 k0; exact fq b _ _ h8 (by omega)
    have j_cu := q_cu
    have tC2 : trn 21952 (cuF (mo2 f2) (co2 f2) t2 (iv (ld f2)) (cuF (mo2 f) (co2 f) t (-1 * iv (ld f)) zR (z2 f)) (z2 f2)) := cu_t (cu_t (zR_t _) (fun k9 hk9 => (h28 k9 hk9).2)) (fun k9 hk9 => (h28b k9 hk9).2)
    have tC : trn 21952 CU1 := fun j hj => by rw [hr2 j (fun q hq w9 => by have := cl3_lt (Ep28 hq); omega)]; exact tC2 j hj
    have k2 : ∀ q, q < tr3 28 → rwC (cuF (mo2 f) (co2 f) t (-1 * iv (ld f)) zR (z2 f)) q = aR z mo co t f 1 zR q := fun q hq => by
      have k3 := cu_aR (x := -1) (CU := zR) hM hf9 (fun k9 hk9 => (h28 k9 hk9).2) hq
      rw [k3, show -(-1 : fF) = 1 by grind]; rfl
    have hpv := mt_end hM.1 hf9 hf2 eL et et2 hLp (fun q hq => by have k1 := cu_aR (x := 1) (CU := (cuF (mo2 f) (co2 f) t (-1 * iv (ld f)) zR (z2 f))) hM hf2 (fun k9 hk9 => (h28b k9 hk9).2) hq; rw [show (1 : fF) * iv (ld f2) = iv (ld f2) by grind] at k1; rw [k1]; show aR z mo co t2 f2 (-1) (rwC (cuF (mo2 f) (co2 f) t (-1 * iv (ld f)) zR (z2 f))) q = _; unfold aR; rw [k2 q hq]; rfl) hr1 hr2 (fun j hj => by rw [cu_out (fun k9 hk9 => (h28b k9 hk9).1) hj, cu_out (fun k9 hk9 => (h28 k9 hk9).1) hj]; rfl)
    refine lv_iconst (v := nI 0) hx hb d_M_meets_151 (by decide) ?_
    refine lv_istore (lv' := [(6, .int (nI 0)), (5, .int (nI un)), (4, .int (nI 1)), (3, .int (nI (pN L.1 L.2.1 L.2.2))), (2, .int (nI f2)), (1, .int (nI f)), (0, .ref o)]) hx hb d_M_meets_152 hl (by decide) rfl (fun ls hl => ?_)
    refine lp_M_meet2 (B := S) (o := o) (cu := cu) (te := te) (tp := tp) (tn := tn) (hd := hd) (hv9 := hv9) (n := n) (mv0 := mv0) (mv1 := mv1) (mv2 := mv2) (mv3 := mv3) (mv4 := mv4) (mv12 := mv12) (mv13 := mv13) (mv14 := mv14) (mv15 := mv15) (mv16 := mv16) (mv17 := mv17) (mv18 := mv18) (mv19 := mv19) (mv20 := mv20) (mv21 := mv21) (mv22 := mv22) (mv23 := mv23) (mv24 := mv24) (mv25 := mv25) (mv26 := mv26) (mv27 := mv27) (mv28 := mv28) (mv29 := mv29) (mv30 := mv30) (tf := tf) (tpf := tpf) (tnf := tnf) (hf := hf) (hif := hif) (h := h) (z := z) (mo := mo) (co := co) (z2 := z2) (mo2 := mo2) (co2 := co2) (ld := ld) (CU := CU1) hx hb hml hg hown hK (Nat.le_of_ble_eq_true rfl) (Nat.le_of_ble_eq_true rfl) (Nat.le_of_ble_eq_true rfl) (Nat.le_of_ble_eq_true rfl) 21952 0 S53 H54 _ ls (by omega) (fun j hj => absurd hj (Nat.not_lt_zero j)) j_o j_cu j_te j_tp j_tn j_hd j_hv9 hfr hI (lv_sub hl [0, 6] rfl) (fun S57 H58 locs ls hz j_o j_cu j_te j_tp j_tn j_hd j_hv9 hfr hI hl => ?_) (fun S9 H9 locs ls hno j_o j_cu j_te j_tp j_tn j_hd j_hv9 hfr hI hl => ?_)
    · refine lv_iconst (v := nI 1) hx hb d_M_meets_180 (by decide) ?_
      refine mp_zret hx hb hr hlocks hI (Nat.le_of_ble_eq_true rfl) (Nat.le_of_ble_eq_true rfl) ?_ (by decide) d_M_meets_181
      exact ⟨CU1, j_cu, tC, Or.inl ⟨rfl, fun _ => hpv.mp hz⟩, hfr⟩
    · refine lv_iconst (v := nI 0) hx hb d_M_meets_172 (by decide) ?_
      refine mp_zret hx hb hr hlocks hI (Nat.le_of_ble_eq_true rfl) (Nat.le_of_ble_eq_true rfl) ?_ (by decide) d_M_meets_173
      exact ⟨CU1, j_cu, tC, Or.inr ⟨rfl, hsh, fun q9 => hno (hpv.mpr q9)⟩, hfr⟩
  · refine lv_if_ne (tgt := 89) hx hb d_M_meets_84 (by decide) (fun h9 => absurd h9 (by decide)) (fun _ => ?_)
    refine lv_iconst (v := nI 1) hx hb d_M_meets_87 (by decide) ?_
    refine mp_zret hx hb hr hlocks hI (Nat.le_of_ble_eq_true rfl) (Nat.le_of_ble_eq_true rfl) ?_ (by decide) d_M_meets_88
    exact ⟨CU, j_cu, tCU, Or.inl ⟨rfl, fun q9 => absurd q9 hsh⟩, hfr⟩
