theorem lsM_iv {n : Nat} {h : Nat → m3} {z : Nat → Nat} {mo : Nat → Nat → m3} {co : Nat → Nat → fF} {z2 : Nat → Nat} {mo2 : Nat → Nat → m3} {co2 : Nat → Nat → fF} {ld : Nat → fF} {tf tpf tnf hf hif : Nat → Int32} (H : lsM n h z mo co z2 mo2 co2 ld tf tpf tnf hf hif) {i : Nat} (hi : i < n) : iv (ld i) ≠ 0 := by
  intro e
  have h1 := (H.2.2 i hi).2.2.2.2.2.2 (fun u => if u = h i then 1 else 0)
  obtain ⟨hz, h0, hc, hlt⟩ := H.1 i hi
  rw [e, show z i = z i - 1 + 1 by omega, sm_shift, h0, hc, if_pos rfl] at h1
  have h2 : sm (z i - 1) (fun k => co i (k + 1) * (if mo i (k + 1) = h i then (1 : fF) else 0)) = 0 := sm_z (fun k hk => by
    rw [if_neg (fun q => by have := hlt (k + 1) (by omega) (by omega); rw [q] at this; exact Nat.lt_irrefl _ this)]; grind)
  rw [h2] at h1
  exact absurd (show (0 : fF) = 1 by grind) (by decide)
theorem all_2 {n : Nat} {h : Nat → m3} {z : Nat → Nat} {mo : Nat → Nat → m3} {co : Nat → Nat → fF} {z2 : Nat → Nat} {mo2 : Nat → Nat → m3} {co2 : Nat → Nat → fF} {ld : Nat → fF} {tf tpf tnf hf hif : Nat → Int32} (H : lsM n h z mo co z2 mo2 co2 ld tf tpf tnf hf hif) (g : m3 → fF) : (∀ j, j < n → sm (z2 j) (fun k => co2 j k * g (mo2 j k)) = 0) ↔ ∀ j, j < n → sm (z j) (fun k => co j k * g (mo j k)) = 0 := by
  constructor
  · intro q j hj
    rw [← (H.2.2 j hj).2.2.2.2.2.2 g, q j hj]; grind
  · intro q j hj
    have h1 := (H.2.2 j hj).2.2.2.2.2.2 g
    rw [q j hj] at h1
    have h2 := iv_mul (x := iv (ld j)) (lsM_iv H hj)
    have h3 : iv (iv (ld j)) * (iv (ld j) * sm (z2 j) (fun k => co2 j k * g (mo2 j k))) = 0 := by rw [h1]; grind
    rw [show iv (iv (ld j)) * (iv (ld j) * sm (z2 j) (fun k => co2 j k * g (mo2 j k))) = iv (ld j) * iv (iv (ld j)) * sm (z2 j) (fun k => co2 j k * g (mo2 j k)) by grind, h2] at h3
    rw [← h3]; grind
theorem lsM_k {n : Nat} {h : Nat → m3} {z : Nat → Nat} {mo : Nat → Nat → m3} {co : Nat → Nat → fF} {z2 : Nat → Nat} {mo2 : Nat → Nat → m3} {co2 : Nat → Nat → fF} {ld : Nat → fF} {tf tpf tnf hf hif : Nat → Int32} (H : lsM n h z mo co z2 mo2 co2 ld tf tpf tnf hf hif) : ∀ i, i < n → tf i = nI (z2 i) ∧ z2 i ≤ 1000 ∧ ∀ k, k < z2 i → tpf (1000 * i + k) = nI (pN (mo2 i k).1 (mo2 i k).2.1 (mo2 i k).2.2) ∧ tnf (1000 * i + k) = nI (co2 i k).val ∧ e9 (mo2 i k) := by
  intro i hi
  obtain ⟨h1, h2, _, _, _, h3, _⟩ := H.2.2 i hi
  exact ⟨h1, h2, fun k hk => ⟨(h3 k hk).1, (h3 k hk).2.1, (h3 k hk).2.2.1⟩⟩
theorem zm_yes {P : Nat → Prop} {X : Nat → Nat → fF} {Q zc : Nat} {ZM : Nat → fF} (h : zkS P X Q zc (fun r l => ZM (3 * r + l))) (hy : P Q) : zkS P X (Q + 1) (zc + 1) (fun r l => va_up (va_up (va_up ZM (3 * zc) (X Q 0)) (3 * zc + 1) (X Q 1)) (3 * zc + 2) (X Q 2) (3 * r + l)) := by
  obtain ⟨zq, h1, h2⟩ := h
  refine ⟨va_up zq zc Q, colS_yes h1 hy (fun k hk => mp_un (by omega)) (mp_us _ _ _), fun r hr l hl => ?_⟩
  by_cases e : r = zc
  · rw [e, mp_us]
    rcases (show l = 0 ∨ l = 1 ∨ l = 2 by omega) with rfl | rfl | rfl
    · show va_up _ _ _ (3 * zc) = _; rw [mp_un (by omega), mp_un (by omega), mp_us]
    · show va_up _ _ _ (3 * zc + 1) = _; rw [mp_un (by omega), mp_us]
    · show va_up _ _ _ (3 * zc + 2) = _; rw [mp_us]
  · rw [mp_un e]
    show va_up _ _ _ (3 * r + l) = _
    rw [mp_un (by omega), mp_un (by omega), mp_un (by omega)]
    exact h2 r (by omega) l hl

theorem d_M_findZeros_0 : decode b_M_findZeros 0 = .ok (.aload_n 0, 1) := by decide +kernel
theorem d_M_findZeros_1 : decode b_M_findZeros 1 = .ok (.iconst 0, 1) := by decide +kernel
theorem d_M_findZeros_2 : decode b_M_findZeros 2 = .ok (.putfield 195, 3) := by decide +kernel
theorem d_M_findZeros_5 : decode b_M_findZeros 5 = .ok (.aload_n 0, 1) := by decide +kernel
theorem d_M_findZeros_6 : decode b_M_findZeros 6 = .ok (.getfield 78, 3) := by decide +kernel
theorem d_M_findZeros_9 : decode b_M_findZeros 9 = .ok (.iconst 1, 1) := by decide +kernel
theorem d_M_findZeros_10 : decode b_M_findZeros 10 = .ok (.if_icmp .le 12, 3) := by decide +kernel
theorem d_M_findZeros_13 : decode b_M_findZeros 13 = .ok (.aload_n 0, 1) := by decide +kernel
theorem d_M_findZeros_14 : decode b_M_findZeros 14 = .ok (.getfield 44, 3) := by decide +kernel
theorem d_M_findZeros_17 : decode b_M_findZeros 17 = .ok (.iconst 1, 1) := by decide +kernel
theorem d_M_findZeros_18 : decode b_M_findZeros 18 = .ok (.iaload, 1) := by decide +kernel
theorem d_M_findZeros_19 : decode b_M_findZeros 19 = .ok (.goto 4, 3) := by decide +kernel
theorem d_M_findZeros_22 : decode b_M_findZeros 22 = .ok (.iconst 1, 1) := by decide +kernel
theorem d_M_findZeros_23 : decode b_M_findZeros 23 = .ok (.istore_n 1, 1) := by decide +kernel
theorem d_M_findZeros_24 : decode b_M_findZeros 24 = .ok (.aload_n 0, 1) := by decide +kernel
theorem d_M_findZeros_25 : decode b_M_findZeros 25 = .ok (.getfield 78, 3) := by decide +kernel
theorem d_M_findZeros_28 : decode b_M_findZeros 28 = .ok (.iconst 2, 1) := by decide +kernel
theorem d_M_findZeros_29 : decode b_M_findZeros 29 = .ok (.if_icmp .le 12, 3) := by decide +kernel
theorem d_M_findZeros_32 : decode b_M_findZeros 32 = .ok (.aload_n 0, 1) := by decide +kernel
theorem d_M_findZeros_33 : decode b_M_findZeros 33 = .ok (.getfield 44, 3) := by decide +kernel
theorem d_M_findZeros_36 : decode b_M_findZeros 36 = .ok (.iconst 2, 1) := by decide +kernel
theorem d_M_findZeros_37 : decode b_M_findZeros 37 = .ok (.iaload, 1) := by decide +kernel
theorem d_M_findZeros_38 : decode b_M_findZeros 38 = .ok (.goto 4, 3) := by decide +kernel
theorem d_M_findZeros_41 : decode b_M_findZeros 41 = .ok (.iconst 1, 1) := by decide +kernel
theorem d_M_findZeros_42 : decode b_M_findZeros 42 = .ok (.istore_n 2, 1) := by decide +kernel
theorem d_M_findZeros_43 : decode b_M_findZeros 43 = .ok (.iconst 0, 1) := by decide +kernel
theorem d_M_findZeros_44 : decode b_M_findZeros 44 = .ok (.istore_n 3, 1) := by decide +kernel
theorem d_M_findZeros_45 : decode b_M_findZeros 45 = .ok (.iload_n 3, 1) := by decide +kernel
theorem d_M_findZeros_46 : decode b_M_findZeros 46 = .ok (.aload_n 0, 1) := by decide +kernel
theorem d_M_findZeros_47 : decode b_M_findZeros 47 = .ok (.getfield 44, 3) := by decide +kernel
theorem d_M_findZeros_50 : decode b_M_findZeros 50 = .ok (.iconst 0, 1) := by decide +kernel
theorem d_M_findZeros_51 : decode b_M_findZeros 51 = .ok (.iaload, 1) := by decide +kernel
theorem d_M_findZeros_52 : decode b_M_findZeros 52 = .ok (.if_icmp .ge 133, 3) := by decide +kernel
theorem d_M_findZeros_55 : decode b_M_findZeros 55 = .ok (.iconst 0, 1) := by decide +kernel
theorem d_M_findZeros_56 : decode b_M_findZeros 56 = .ok (.istore 4, 2) := by decide +kernel
theorem d_M_findZeros_58 : decode b_M_findZeros 58 = .ok (.iload 4, 2) := by decide +kernel
theorem d_M_findZeros_60 : decode b_M_findZeros 60 = .ok (.iload_n 1, 1) := by decide +kernel
theorem d_M_findZeros_61 : decode b_M_findZeros 61 = .ok (.if_icmp .ge 118, 3) := by decide +kernel
theorem d_M_findZeros_64 : decode b_M_findZeros 64 = .ok (.iconst 0, 1) := by decide +kernel
theorem d_M_findZeros_65 : decode b_M_findZeros 65 = .ok (.istore 5, 2) := by decide +kernel
theorem d_M_findZeros_67 : decode b_M_findZeros 67 = .ok (.iload 5, 2) := by decide +kernel
theorem d_M_findZeros_69 : decode b_M_findZeros 69 = .ok (.iload_n 2, 1) := by decide +kernel
theorem d_M_findZeros_70 : decode b_M_findZeros 70 = .ok (.if_icmp .ge 103, 3) := by decide +kernel
theorem d_M_findZeros_73 : decode b_M_findZeros 73 = .ok (.aload_n 0, 1) := by decide +kernel
theorem d_M_findZeros_74 : decode b_M_findZeros 74 = .ok (.aload_n 0, 1) := by decide +kernel
theorem d_M_findZeros_75 : decode b_M_findZeros 75 = .ok (.iconst 0, 1) := by decide +kernel
theorem d_M_findZeros_76 : decode b_M_findZeros 76 = .ok (.iload_n 3, 1) := by decide +kernel
theorem d_M_findZeros_77 : decode b_M_findZeros 77 = .ok (.invokevirtual 198, 3) := by decide +kernel
theorem d_M_findZeros_80 : decode b_M_findZeros 80 = .ok (.aload_n 0, 1) := by decide +kernel
theorem d_M_findZeros_81 : decode b_M_findZeros 81 = .ok (.iconst 1, 1) := by decide +kernel
theorem d_M_findZeros_82 : decode b_M_findZeros 82 = .ok (.iload 4, 2) := by decide +kernel
theorem d_M_findZeros_84 : decode b_M_findZeros 84 = .ok (.invokevirtual 198, 3) := by decide +kernel
theorem d_M_findZeros_87 : decode b_M_findZeros 87 = .ok (.aload_n 0, 1) := by decide +kernel
theorem d_M_findZeros_88 : decode b_M_findZeros 88 = .ok (.iconst 2, 1) := by decide +kernel
theorem d_M_findZeros_89 : decode b_M_findZeros 89 = .ok (.iload 5, 2) := by decide +kernel
theorem d_M_findZeros_91 : decode b_M_findZeros 91 = .ok (.invokevirtual 198, 3) := by decide +kernel
theorem d_M_findZeros_94 : decode b_M_findZeros 94 = .ok (.invokevirtual 201, 3) := by decide +kernel
theorem d_M_findZeros_97 : decode b_M_findZeros 97 = .ok (.ifCond .eq 70, 3) := by decide +kernel
theorem d_M_findZeros_100 : decode b_M_findZeros 100 = .ok (.aload_n 0, 1) := by decide +kernel
theorem d_M_findZeros_101 : decode b_M_findZeros 101 = .ok (.getfield 50, 3) := by decide +kernel
theorem d_M_findZeros_104 : decode b_M_findZeros 104 = .ok (.iconst 3, 1) := by decide +kernel
theorem d_M_findZeros_105 : decode b_M_findZeros 105 = .ok (.aload_n 0, 1) := by decide +kernel
theorem d_M_findZeros_106 : decode b_M_findZeros 106 = .ok (.getfield 195, 3) := by decide +kernel
theorem d_M_findZeros_109 : decode b_M_findZeros 109 = .ok (.imul, 1) := by decide +kernel
theorem d_M_findZeros_110 : decode b_M_findZeros 110 = .ok (.aload_n 0, 1) := by decide +kernel
theorem d_M_findZeros_111 : decode b_M_findZeros 111 = .ok (.iconst 0, 1) := by decide +kernel
theorem d_M_findZeros_112 : decode b_M_findZeros 112 = .ok (.iload_n 3, 1) := by decide +kernel
theorem d_M_findZeros_113 : decode b_M_findZeros 113 = .ok (.invokevirtual 198, 3) := by decide +kernel
theorem d_M_findZeros_116 : decode b_M_findZeros 116 = .ok (.iastore, 1) := by decide +kernel
theorem d_M_findZeros_117 : decode b_M_findZeros 117 = .ok (.aload_n 0, 1) := by decide +kernel
theorem d_M_findZeros_118 : decode b_M_findZeros 118 = .ok (.getfield 50, 3) := by decide +kernel
theorem d_M_findZeros_121 : decode b_M_findZeros 121 = .ok (.iconst 3, 1) := by decide +kernel
theorem d_M_findZeros_122 : decode b_M_findZeros 122 = .ok (.aload_n 0, 1) := by decide +kernel
theorem d_M_findZeros_123 : decode b_M_findZeros 123 = .ok (.getfield 195, 3) := by decide +kernel
theorem d_M_findZeros_126 : decode b_M_findZeros 126 = .ok (.imul, 1) := by decide +kernel
theorem d_M_findZeros_127 : decode b_M_findZeros 127 = .ok (.iconst 1, 1) := by decide +kernel
theorem d_M_findZeros_128 : decode b_M_findZeros 128 = .ok (.iadd, 1) := by decide +kernel
theorem d_M_findZeros_129 : decode b_M_findZeros 129 = .ok (.aload_n 0, 1) := by decide +kernel
theorem d_M_findZeros_130 : decode b_M_findZeros 130 = .ok (.iconst 1, 1) := by decide +kernel
theorem d_M_findZeros_131 : decode b_M_findZeros 131 = .ok (.iload 4, 2) := by decide +kernel
theorem d_M_findZeros_133 : decode b_M_findZeros 133 = .ok (.invokevirtual 198, 3) := by decide +kernel
theorem d_M_findZeros_136 : decode b_M_findZeros 136 = .ok (.iastore, 1) := by decide +kernel
theorem d_M_findZeros_137 : decode b_M_findZeros 137 = .ok (.aload_n 0, 1) := by decide +kernel
theorem d_M_findZeros_138 : decode b_M_findZeros 138 = .ok (.getfield 50, 3) := by decide +kernel
theorem d_M_findZeros_141 : decode b_M_findZeros 141 = .ok (.iconst 3, 1) := by decide +kernel
theorem d_M_findZeros_142 : decode b_M_findZeros 142 = .ok (.aload_n 0, 1) := by decide +kernel
theorem d_M_findZeros_143 : decode b_M_findZeros 143 = .ok (.getfield 195, 3) := by decide +kernel
theorem d_M_findZeros_146 : decode b_M_findZeros 146 = .ok (.imul, 1) := by decide +kernel
theorem d_M_findZeros_147 : decode b_M_findZeros 147 = .ok (.iconst 2, 1) := by decide +kernel
theorem d_M_findZeros_148 : decode b_M_findZeros 148 = .ok (.iadd, 1) := by decide +kernel
theorem d_M_findZeros_149 : decode b_M_findZeros 149 = .ok (.aload_n 0, 1) := by decide +kernel
theorem d_M_findZeros_150 : decode b_M_findZeros 150 = .ok (.iconst 2, 1) := by decide +kernel
theorem d_M_findZeros_151 : decode b_M_findZeros 151 = .ok (.iload 5, 2) := by decide +kernel
theorem d_M_findZeros_153 : decode b_M_findZeros 153 = .ok (.invokevirtual 198, 3) := by decide +kernel
theorem d_M_findZeros_156 : decode b_M_findZeros 156 = .ok (.iastore, 1) := by decide +kernel
theorem d_M_findZeros_157 : decode b_M_findZeros 157 = .ok (.aload_n 0, 1) := by decide +kernel
theorem d_M_findZeros_158 : decode b_M_findZeros 158 = .ok (.dup, 1) := by decide +kernel
theorem d_M_findZeros_159 : decode b_M_findZeros 159 = .ok (.getfield 195, 3) := by decide +kernel
theorem d_M_findZeros_162 : decode b_M_findZeros 162 = .ok (.iconst 1, 1) := by decide +kernel
theorem d_M_findZeros_163 : decode b_M_findZeros 163 = .ok (.iadd, 1) := by decide +kernel
theorem d_M_findZeros_164 : decode b_M_findZeros 164 = .ok (.putfield 195, 3) := by decide +kernel
theorem d_M_findZeros_167 : decode b_M_findZeros 167 = .ok (.iinc 5 1, 3) := by decide +kernel
theorem d_M_findZeros_170 : decode b_M_findZeros 170 = .ok (.goto (-103), 3) := by decide +kernel
theorem d_M_findZeros_173 : decode b_M_findZeros 173 = .ok (.iinc 4 1, 3) := by decide +kernel
theorem d_M_findZeros_176 : decode b_M_findZeros 176 = .ok (.goto (-118), 3) := by decide +kernel
theorem d_M_findZeros_179 : decode b_M_findZeros 179 = .ok (.iinc 3 1, 3) := by decide +kernel
theorem d_M_findZeros_182 : decode b_M_findZeros 182 = .ok (.goto (-137), 3) := by decide +kernel
theorem d_M_findZeros_185 : decode b_M_findZeros 185 = .ok (.return_, 1) := by decide +kernel
theorem d_M_rootOf_0 : decode b_M_rootOf 0 = .ok (.iload_n 1, 1) := by decide +kernel
theorem d_M_rootOf_1 : decode b_M_rootOf 1 = .ok (.aload_n 0, 1) := by decide +kernel
theorem d_M_rootOf_2 : decode b_M_rootOf 2 = .ok (.getfield 78, 3) := by decide +kernel
theorem d_M_rootOf_5 : decode b_M_rootOf 5 = .ok (.if_icmp .ge 17, 3) := by decide +kernel
theorem d_M_rootOf_8 : decode b_M_rootOf 8 = .ok (.aload_n 0, 1) := by decide +kernel
theorem d_M_rootOf_9 : decode b_M_rootOf 9 = .ok (.getfield 47, 3) := by decide +kernel
theorem d_M_rootOf_12 : decode b_M_rootOf 12 = .ok (.bipush 17, 2) := by decide +kernel
theorem d_M_rootOf_14 : decode b_M_rootOf 14 = .ok (.iload_n 1, 1) := by decide +kernel
theorem d_M_rootOf_15 : decode b_M_rootOf 15 = .ok (.imul, 1) := by decide +kernel
theorem d_M_rootOf_16 : decode b_M_rootOf 16 = .ok (.iload_n 2, 1) := by decide +kernel
theorem d_M_rootOf_17 : decode b_M_rootOf 17 = .ok (.iadd, 1) := by decide +kernel
theorem d_M_rootOf_18 : decode b_M_rootOf 18 = .ok (.iaload, 1) := by decide +kernel
theorem d_M_rootOf_19 : decode b_M_rootOf 19 = .ok (.goto 4, 3) := by decide +kernel
theorem d_M_rootOf_22 : decode b_M_rootOf 22 = .ok (.iconst 0, 1) := by decide +kernel
theorem d_M_rootOf_23 : decode b_M_rootOf 23 = .ok (.ireturn, 1) := by decide +kernel
set_option maxHeartbeats 4000000 in
set_option maxRecDepth 100000 in
/-- a root of a letter, in the reference -/
theorem c_M_rootOf (l : Launch) (D : mp_G) (g : Nat → ClassId) (S : mp_M) (sz : Nat) (o ro nl l9 k9 : Nat) (mv1 mv2 mv3 mv4 mv5 mv6 mv7 mv8 mv9 mv10 mv11 mv12 mv13 mv14 mv15 mv16 mv17 mv18 mv19 mv21 mv22 mv23 mv24 mv25 mv26 mv27 mv28 mv29 mv30 : Value) (RO : Nat → Nat) (h_o : S o = some (2000, .inr (10, [.int (nI nl), mv1, mv2, mv3, mv4, mv5, mv6, mv7, mv8, mv9, mv10, mv11, mv12, mv13, mv14, mv15, mv16, mv17, mv18, mv19, .ref ro, mv21, mv22, mv23, mv24, mv25, mv26, mv27, mv28, mv29, mv30]))) (h_ro : S ro = some (2013, .inl ((g 0), 51, .inl (fun j => nI (RO j))))) (hnl : nl ≤ 3) (hl9 : l9 < 3) (hk9 : k9 < 17) : Met l y_M_rootOf w_M_rootOf ({ frames := 0, cells := 0, slots := 0, locals := 0 }) (va_Pc [.ref o, .int (nI l9), .int (nI k9)] (mp_B0 D classes (tys g) S sz)) (va_Qi (fun (r : Int32) (S1 : mp_M) => r = nI (if l9 < nl then RO (17 * l9 + k9) else 0) ∧ (∀ b t e9, S b = some (t, e9) → S1 b = some (t, e9))) (mp_B1 D classes S sz) (mp_A S sz)) 0 0 (mp_A S sz) := by
  refine Met.ofW (cc := b_M_rootOf) (maxL := 3) (ret := (some .int)) (by decide) rfl ?_
  intro p e s m args below meth c s₁ B hml hv
  obtain ⟨rfl, hsz, hH, hK⟩ := hv
  have hx := B.exec
  have hb := B.bytes
  have hr := B.returns
  have hts := atoms_spec (ws := w_M_rootOf) B.pre
  have hg : ∀ w ∈ gw, w.before _ s = true := fun w h => hts w (List.mem_cons_of_mem _ h)
  have hown : s.vm.findClass R_M = some m.cls := findClass_of_methodNamed B.named
  have hlocks := B.notSynchronized
  subst hsz
  have hI := mp_I.start hH
  have hl := lv_entry ([.ref o, .int (nI l9), .int (nI k9)]) (n := 3) (Nat.le_of_ble_eq_true rfl)
  rw [lg_entry_eq]
  generalize (lg_sl ([.ref o, .int (nI l9), .int (nI k9)]) ++ List.replicate (3 - (lg_sl ([.ref o, .int (nI l9), .int (nI k9)])).length) Slot.unset).toArray = ls at hl ⊢
  have hl : lv_has ls 3 [(0, .ref o), (1, .int (nI l9)), (2, .int (nI k9))] := hl
  have hfr : ∀ b t e9, S b = some (t, e9) → S b = some (t, e9) := fun _ _ _ h9 => h9
  refine lv_iload_n hx hb d_M_rootOf_0 rfl (lv_at hl 1 rfl) ?_
  refine lv_aload_n hx hb d_M_rootOf_1 rfl (lv_at hl 0 rfl) ?_
  refine mp_get (C := R_M) (T := F_M) (N := 31) (v := .int (nI nl)) hx hb hg i_M hown hK.va hI h_o rfl 0 (by decide) (hg _ q_804) (fun _ h9 => h9) rfl d_M_rootOf_2 ?_
  refine lv_icmp_ge (tgt := 22) hx hb d_M_rootOf_5 (by decide) (fun c1 => ?_) (fun c1 => ?_)
  · rw [nI_leI (by omega) (by omega)] at c1
    refine lv_iconst (v := nI 0) hx hb d_M_rootOf_22 (by decide) ?_
    refine lv_topi (fun v1 ev1 => ?_)
    obtain rfl : v1 = nI (if l9 < nl then RO (17 * l9 + k9) else 0) := ev1.trans (by rw [if_neg (by omega)])
    refine mp_iret hx hb hr hlocks hI (Nat.le_of_ble_eq_true rfl) (Nat.le_of_ble_eq_true rfl) ?_ d_M_rootOf_23
    exact ⟨rfl, hfr⟩
  · rw [nI_leI (by omega) (by omega)] at c1
    refine lv_aload_n hx hb d_M_rootOf_8 rfl (lv_at hl 0 rfl) ?_
    refine mp_get (C := R_M) (T := F_M) (N := 31) (v := .ref ro) hx hb hg i_M hown hK.va hI h_o rfl 20 (by decide) (hg _ q_824) (fun _ h9 => h9) rfl d_M_rootOf_9 ?_
    refine lv_bipush (v := nI 17) hx hb d_M_rootOf_12 (by decide) ?_
    refine lv_iload_n hx hb d_M_rootOf_14 rfl (lv_at hl 1 rfl) ?_
    refine lv_imul hx hb d_M_rootOf_15 ?_
    refine lv_topi (fun v2 ev2 => ?_)
    obtain rfl : v2 = nI (17 * l9) := ev2.trans (pk_mul _ _)
    refine lv_iload_n hx hb d_M_rootOf_16 rfl (lv_at hl 2 rfl) ?_
    refine lv_iadd hx hb d_M_rootOf_17 ?_
    refine lv_topi (fun v3 ev3 => ?_)
    obtain rfl : v3 = nI ((17 * l9) + k9) := ev3.trans (nI_add _ _)
    refine mp_iald hx hb hK.va hI 0 h_ro rfl (vp_in_nI (show (17 * l9) + k9 < 51 by omega) (by omega)) d_M_rootOf_18 ?_
    refine lv_topi (fun v4 ev4 => ?_)
    obtain rfl : v4 = nI (RO ((17 * l9) + k9)) := ev4.trans (by rw [nI_clamp (by omega)])
    refine lv_goto (tgt := 23) hx hb d_M_rootOf_19 (by decide) ?_
    refine lv_topi (fun v5 ev5 => ?_)
    obtain rfl : v5 = nI (if l9 < nl then RO (17 * l9 + k9) else 0) := ev5.trans (by rw [if_pos (by omega)])
    refine mp_iret hx hb hr hlocks hI (Nat.le_of_ble_eq_true rfl) (Nat.le_of_ble_eq_true rfl) ?_ d_M_rootOf_23
    exact ⟨rfl, hfr⟩
set_option maxHeartbeats 4000000 in
set_option maxRecDepth 100000 in
theorem lp_M_fz3 {p : Program} {l : Launch} {e : Env} {R : Room} {s : State} {m : MethodId} {args : Array Value} {below : List Frame} {meth : Method} {c : Code} {Q : State → Prop} {D : mp_G} {g : Nat → ClassId} {A : Nat → Prop} {cells slots : Nat} (hx : p.tables.exec = Jvm.exec) (hb : c.code = b_M_findZeros) (hml : c.maxLocals = 6) (hg : ∀ w ∈ gw, w.before args s = true) (hown : s.vm.findClass R_M = some m.cls) (hK : mp_K D classes (tys g) s) (hRf : 4 ≤ R.frames) (hRl : 93 ≤ R.locals) (hRc : cells ≤ R.cells) (hRs : slots ≤ R.slots) {B : mp_M} {o te tp tn ro rm ze n nl : Nat} {mv1 mv2 mv3 mv4 mv9 mv10 mv11 mv12 mv13 mv14 mv15 mv16 mv17 mv18 mv23 mv24 mv25 mv26 mv27 mv28 mv29 mv30 : Value} {tf tpf tnf hf hif : Nat → Int32} {h : Nat → m3} {z : Nat → Nat} {mo : Nat → Nat → m3} {co : Nat → Nat → fF} {z2 : Nat → Nat} {mo2 : Nat → Nat → m3} {co2 : Nat → Nat → fF} {ld : Nat → fF} {RO RMf : Nat → Nat} {RT : Nat → Nat → Nat} {RC : Nat → Nat} {a9 b9 : Nat} (hM : lsM n h z mo co z2 mo2 co2 ld tf tpf tnf hf hif) (hnl : nl ≤ 3) (hnl1 : 1 ≤ nl) (hRC : ∀ l, l < 3 → RC l ≤ 16) (hRT : ∀ l, l < 3 → ∀ i, i < RC l → RT l i < 32003 ∧ (if l < nl then RO (17 * l + i) else 0) = RT l i) (hRM : ∀ l, l < 3 → (if l < nl then RMf l else 1) = RC l) (hZb : ∀ Q n9 ZZ, Q ≤ RC 0 * RC 1 * RC 2 → zkS (zqP n z mo co RT (RC 1) (RC 2)) (zqX RT (RC 1) (RC 2)) Q n9 ZZ → n9 ≤ 16) (ha9 : a9 < RC 0) (hb9 : b9 < RC 1) : ∀ (k : Nat) (i : Nat) (zc : Nat) (ZM : Nat → fF) (S : mp_M) (H : Heap) (locs : List Loc) (ls : Array Slot), i + k = RC 2 → (zkS (zqP n z mo co RT (RC 1) (RC 2)) (zqX RT (RC 1) (RC 2)) ((a9 * RC 1 + b9) * RC 2 + i) zc (fun r l => ZM (3 * r + l))) → S o = some (2000, .inr (10, [.int (nI nl), mv1, mv2, mv3, mv4, .int (nI n), .ref te, .ref tp, .ref tn, mv9, mv10, mv11, mv12, mv13, mv14, mv15, mv16, mv17, mv18, .ref rm, .ref ro, .int (nI zc), .ref ze, mv23, mv24, mv25, mv26, mv27, mv28, mv29, mv30])) → S te = some (2002, .inl ((g 0), 12, .inl tf)) → S tp = some (2003, .inl ((g 0), 12000, .inl tpf)) → S tn = some (2004, .inl ((g 0), 12000, .inl tnf)) → S ro = some (2013, .inl ((g 0), 51, .inl (fun j => nI (RO j)))) → S rm = some (2012, .inl ((g 0), 3, .inl (fun j => nI (RMf j)))) → S ze = some (2014, .inl ((g 0), 51, .inl (fun j => nI (ZM j).val))) → (∀ b t e9, B b = some (t, e9) → (t ≠ 2000) → (t ≠ 2014) → S b = some (t, e9)) → mp_I D classes A s.heap S H locs → lv_has ls 6 [(5, .int (nI i)), (4, .int (nI b9)), (3, .int (nI a9)), (2, .int (nI (RC 2))), (1, .int (nI (RC 1))), (0, .ref o)] → (∀ (zc : Nat) (ZM : Nat → fF) (S : mp_M) (H : Heap) (locs : List Loc) (ls : Array Slot), (zkS (zqP n z mo co RT (RC 1) (RC 2)) (zqX RT (RC 1) (RC 2)) ((a9 * RC 1 + b9) * RC 2 + (RC 2)) zc (fun r l => ZM (3 * r + l))) → S o = some (2000, .inr (10, [.int (nI nl), mv1, mv2, mv3, mv4, .int (nI n), .ref te, .ref tp, .ref tn, mv9, mv10, mv11, mv12, mv13, mv14, mv15, mv16, mv17, mv18, .ref rm, .ref ro, .int (nI zc), .ref ze, mv23, mv24, mv25, mv26, mv27, mv28, mv29, mv30])) → S te = some (2002, .inl ((g 0), 12, .inl tf)) → S tp = some (2003, .inl ((g 0), 12000, .inl tpf)) → S tn = some (2004, .inl ((g 0), 12000, .inl tnf)) → S ro = some (2013, .inl ((g 0), 51, .inl (fun j => nI (RO j)))) → S rm = some (2012, .inl ((g 0), 3, .inl (fun j => nI (RMf j)))) → S ze = some (2014, .inl ((g 0), 51, .inl (fun j => nI (ZM j).val))) → (∀ b t e9, B b = some (t, e9) → (t ≠ 2000) → (t ≠ 2014) → S b = some (t, e9)) → mp_I D classes A s.heap S H locs → lv_has ls 6 [(5, .int (nI (RC 2))), (4, .int (nI b9)), (3, .int (nI a9)), (2, .int (nI (RC 2))), (1, .int (nI (RC 1))), (0, .ref o)] → W p l e R s m args below meth c H locs cells slots Q (F0 m 173 ls [])) → W p l e R s m args below meth c H locs cells slots Q (F0 m 67 ls []) := by
  intro k
  induction k with
  | zero =>
    intro i zc ZM S H locs ls hi hzk h_o h_te h_tp h_tn h_ro h_rm h_ze hfr hI hl kx
    have hr16 := hRC 2 (by decide)
    refine lv_iload hx hb d_M_findZeros_67 (lv_at hl 0 rfl) ?_
    refine lv_iload_n hx hb d_M_findZeros_69 rfl (lv_at hl 3 rfl) ?_
    refine lv_icmp_ge (tgt := 173) hx hb d_M_findZeros_70 (by decide) (fun _ => ?_) (fun h9 => absurd ((nI_leI (by omega) (by omega)).mpr (by omega)) h9)
    obtain rfl : i = RC 2 := by omega
    exact kx zc ZM S H locs ls hzk h_o h_te h_tp h_tn h_ro h_rm h_ze hfr hI (lv_sub hl [0, 1, 2, 3, 4, 5] rfl)
  | succ k ih =>
    intro i zc ZM S H locs ls hi hzk h_o h_te h_tp h_tn h_ro h_rm h_ze hfr hI hl kx
    have hr0 := hRC 0 (by decide)
    have hr1 := hRC 1 (by decide)
    have hr2 := hRC 2 (by decide)
    obtain ⟨x0, x1, x2⟩ := zq_ix (RT := RT) (i := a9) hb9 (show i < RC 2 by omega)
    have t0 := hRT 0 (by decide) a9 (by omega)
    have t1 := hRT 1 (by decide) b9 (by omega)
    have t2 := hRT 2 (by decide) i (by omega)
    refine lv_iload hx hb d_M_findZeros_67 (lv_at hl 0 rfl) ?_
    refine lv_iload_n hx hb d_M_findZeros_69 rfl (lv_at hl 3 rfl) ?_
    refine lv_icmp_ge (tgt := 173) hx hb d_M_findZeros_70 (by decide) (fun h9 => absurd h9 (by rw [nI_leI (by omega) (by omega)]; omega)) (fun _ => ?_)
    refine lv_aload_n hx hb d_M_findZeros_73 rfl (lv_at hl 5 rfl) ?_
    refine lv_aload_n hx hb d_M_findZeros_74 rfl (lv_at hl 5 rfl) ?_
    refine lv_iconst (v := nI 0) hx hb d_M_findZeros_75 (by decide) ?_
    refine lv_iload_n hx hb d_M_findZeros_76 rfl (lv_at hl 2 rfl) ?_
    refine mp_calli hI (va_runV (As := [.int (nI 0), .int (nI a9)]) (rest := [.ref o]) ⟨hx, hb, hml, hown, hg⟩ (c_M_rootOf l D g S _ o ro nl 0 a9 mv1 mv2 mv3 mv4 (.int (nI n)) (.ref te) (.ref tp) (.ref tn) mv9 mv10 mv11 mv12 mv13 mv14 mv15 mv16 mv17 mv18 (.ref rm) (.int (nI zc)) (.ref ze) mv23 mv24 mv25 mv26 mv27 mv28 mv29 mv30 RO h_o h_ro hnl (by decide) (by omega)) ⟨(callB_of 2 hg (wd_goodG q_1041) rfl rfl rfl (hg _ q_5) (hg _ q_1038) (by decide +kernel) ⟨Nat.le_trans (Nat.le_of_ble_eq_true rfl) hRf, Nat.le_trans (Nat.le_of_ble_eq_true rfl) hRl⟩), hg _ q_1040, hg _ qs_43⟩ (mp_preV (C := R_M) (T := F_M) hI hK h_o rfl [.int (nI 0), .int (nI a9)]) rfl rfl hl.1 rfl (lv_room (Nat.le_of_ble_eq_true rfl)) d_M_findZeros_77 ⟨by omega, by omega⟩) (fun r4 S1 H2 locs p_3 hI => ?_)
    obtain ⟨er4, fq⟩ := p_3
    have er4 : r4 = nI (zqX RT (RC 1) (RC 2) ((a9 * RC 1 + b9) * RC 2 + i) 0).val := by rw [er4, (t0).2, x0, fc_v, Nat.mod_eq_of_lt t0.1]
    subst er4
    have h_o : S1 o = some (2000, .inr (10, [.int (nI nl), mv1, mv2, mv3, mv4, .int (nI n), .ref te, .ref tp, .ref tn, mv9, mv10, mv11, mv12, mv13, mv14, mv15, mv16, mv17, mv18, .ref rm, .ref ro, .int (nI zc), .ref ze, mv23, mv24, mv25, mv26, mv27, mv28, mv29, mv30])) := fq o _ _ h_o
    have h_te : S1 te = some (2002, .inl ((g 0), 12, .inl tf)) := fq te _ _ h_te
    have h_tp : S1 tp = some (2003, .inl ((g 0), 12000, .inl tpf)) := fq tp _ _ h_tp
    have h_tn : S1 tn = some (2004, .inl ((g 0), 12000, .inl tnf)) := fq tn _ _ h_tn
    have h_ro : S1 ro = some (2013, .inl ((g 0), 51, .inl (fun j => nI (RO j)))) := fq ro _ _ h_ro
    have h_rm : S1 rm = some (2012, .inl ((g 0), 3, .inl (fun j => nI (RMf j)))) := fq rm _ _ h_rm
    have h_ze : S1 ze = some (2014, .inl ((g 0), 51, .inl (fun j => nI (ZM j).val))) := fq ze _ _ h_ze
    have hfr : ∀ b t e9, B b = some (t, e9) → (t ≠ 2000) → (t ≠ 2014) → S1 b = some (t, e9) := fun b t e9 h9 k0 k1 => by have h8 := hfr b t e9 h9 k0 k1; exact fq b _ _ h8
    refine lv_aload_n hx hb d_M_findZeros_80 rfl (lv_at hl 5 rfl) ?_
    refine lv_iconst (v := nI 1) hx hb d_M_findZeros_81 (by decide) ?_
    refine lv_iload hx hb d_M_findZeros_82 (lv_at hl 1 rfl) ?_
    refine mp_calli hI (va_runV (As := [.int (nI 1), .int (nI b9)]) (rest := [.int (nI (zqX RT (RC 1) (RC 2) ((a9 * RC 1 + b9) * RC 2 + i) 0).val), .ref o]) ⟨hx, hb, hml, hown, hg⟩ (c_M_rootOf l D g S1 _ o ro nl 1 b9 mv1 mv2 mv3 mv4 (.int (nI n)) (.ref te) (.ref tp) (.ref tn) mv9 mv10 mv11 mv12 mv13 mv14 mv15 mv16 mv17 mv18 (.ref rm) (.int (nI zc)) (.ref ze) mv23 mv24 mv25 mv26 mv27 mv28 mv29 mv30 RO h_o h_ro hnl (by decide) (by omega)) ⟨(callB_of 2 hg (wd_goodG q_1041) rfl rfl rfl (hg _ q_5) (hg _ q_1038) (by decide +kernel) ⟨Nat.le_trans (Nat.le_of_ble_eq_true rfl) hRf, Nat.le_trans (Nat.le_of_ble_eq_true rfl) hRl⟩), hg _ q_1040, hg _ qs_43⟩ (mp_preV (C := R_M) (T := F_M) hI hK h_o rfl [.int (nI 1), .int (nI b9)]) rfl rfl hl.1 rfl (lv_room (Nat.le_of_ble_eq_true rfl)) d_M_findZeros_84 ⟨by omega, by omega⟩) (fun r8 S5 H6 locs p_7 hI => ?_)
    obtain ⟨er8, fq⟩ := p_7
    have er8 : r8 = nI (zqX RT (RC 1) (RC 2) ((a9 * RC 1 + b9) * RC 2 + i) 1).val := by rw [er8, (t1).2, x1, fc_v, Nat.mod_eq_of_lt t1.1]
    subst er8
    have h_o : S5 o = some (2000, .inr (10, [.int (nI nl), mv1, mv2, mv3, mv4, .int (nI n), .ref te, .ref tp, .ref tn, mv9, mv10, mv11, mv12, mv13, mv14, mv15, mv16, mv17, mv18, .ref rm, .ref ro, .int (nI zc), .ref ze, mv23, mv24, mv25, mv26, mv27, mv28, mv29, mv30])) := fq o _ _ h_o
    have h_te : S5 te = some (2002, .inl ((g 0), 12, .inl tf)) := fq te _ _ h_te
    have h_tp : S5 tp = some (2003, .inl ((g 0), 12000, .inl tpf)) := fq tp _ _ h_tp
    have h_tn : S5 tn = some (2004, .inl ((g 0), 12000, .inl tnf)) := fq tn _ _ h_tn
    have h_ro : S5 ro = some (2013, .inl ((g 0), 51, .inl (fun j => nI (RO j)))) := fq ro _ _ h_ro
    have h_rm : S5 rm = some (2012, .inl ((g 0), 3, .inl (fun j => nI (RMf j)))) := fq rm _ _ h_rm
    have h_ze : S5 ze = some (2014, .inl ((g 0), 51, .inl (fun j => nI (ZM j).val))) := fq ze _ _ h_ze
    have hfr : ∀ b t e9, B b = some (t, e9) → (t ≠ 2000) → (t ≠ 2014) → S5 b = some (t, e9) := fun b t e9 h9 k0 k1 => by have h8 := hfr b t e9 h9 k0 k1; exact fq b _ _ h8
    refine lv_aload_n hx hb d_M_findZeros_87 rfl (lv_at hl 5 rfl) ?_
    refine lv_iconst (v := nI 2) hx hb d_M_findZeros_88 (by decide) ?_
    refine lv_iload hx hb d_M_findZeros_89 (lv_at hl 0 rfl) ?_
    refine mp_calli hI (va_runV (As := [.int (nI 2), .int (nI i)]) (rest := [.int (nI (zqX RT (RC 1) (RC 2) ((a9 * RC 1 + b9) * RC 2 + i) 1).val), .int (nI (zqX RT (RC 1) (RC 2) ((a9 * RC 1 + b9) * RC 2 + i) 0).val), .ref o]) ⟨hx, hb, hml, hown, hg⟩ (c_M_rootOf l D g S5 _ o ro nl 2 i mv1 mv2 mv3 mv4 (.int (nI n)) (.ref te) (.ref tp) (.ref tn) mv9 mv10 mv11 mv12 mv13 mv14 mv15 mv16 mv17 mv18 (.ref rm) (.int (nI zc)) (.ref ze) mv23 mv24 mv25 mv26 mv27 mv28 mv29 mv30 RO h_o h_ro hnl (by decide) (by omega)) ⟨(callB_of 2 hg (wd_goodG q_1041) rfl rfl rfl (hg _ q_5) (hg _ q_1038) (by decide +kernel) ⟨Nat.le_trans (Nat.le_of_ble_eq_true rfl) hRf, Nat.le_trans (Nat.le_of_ble_eq_true rfl) hRl⟩), hg _ q_1040, hg _ qs_43⟩ (mp_preV (C := R_M) (T := F_M) hI hK h_o rfl [.int (nI 2), .int (nI i)]) rfl rfl hl.1 rfl (lv_room (Nat.le_of_ble_eq_true rfl)) d_M_findZeros_91 ⟨by omega, by omega⟩) (fun r12 S9 H10 locs p_11 hI => ?_)
    obtain ⟨er12, fq⟩ := p_11
    have er12 : r12 = nI (zqX RT (RC 1) (RC 2) ((a9 * RC 1 + b9) * RC 2 + i) 2).val := by rw [er12, (t2).2, x2, fc_v, Nat.mod_eq_of_lt t2.1]
    subst er12
    have h_o : S9 o = some (2000, .inr (10, [.int (nI nl), mv1, mv2, mv3, mv4, .int (nI n), .ref te, .ref tp, .ref tn, mv9, mv10, mv11, mv12, mv13, mv14, mv15, mv16, mv17, mv18, .ref rm, .ref ro, .int (nI zc), .ref ze, mv23, mv24, mv25, mv26, mv27, mv28, mv29, mv30])) := fq o _ _ h_o
    have h_te : S9 te = some (2002, .inl ((g 0), 12, .inl tf)) := fq te _ _ h_te
    have h_tp : S9 tp = some (2003, .inl ((g 0), 12000, .inl tpf)) := fq tp _ _ h_tp
    have h_tn : S9 tn = some (2004, .inl ((g 0), 12000, .inl tnf)) := fq tn _ _ h_tn
    have h_ro : S9 ro = some (2013, .inl ((g 0), 51, .inl (fun j => nI (RO j)))) := fq ro _ _ h_ro
    have h_rm : S9 rm = some (2012, .inl ((g 0), 3, .inl (fun j => nI (RMf j)))) := fq rm _ _ h_rm
    have h_ze : S9 ze = some (2014, .inl ((g 0), 51, .inl (fun j => nI (ZM j).val))) := fq ze _ _ h_ze
    have hfr : ∀ b t e9, B b = some (t, e9) → (t ≠ 2000) → (t ≠ 2014) → S9 b = some (t, e9) := fun b t e9 h9 k0 k1 => by have h8 := hfr b t e9 h9 k0 k1; exact fq b _ _ h8
    refine mp_calli hI (va_runV (As := [.int (nI (zqX RT (RC 1) (RC 2) ((a9 * RC 1 + b9) * RC 2 + i) 0).val), .int (nI (zqX RT (RC 1) (RC 2) ((a9 * RC 1 + b9) * RC 2 + i) 1).val), .int (nI (zqX RT (RC 1) (RC 2) ((a9 * RC 1 + b9) * RC 2 + i) 2).val)]) (rest := []) ⟨hx, hb, hml, hown, hg⟩ (c_M_areAll l D g S9 _ o te tp tn n (.int (nI nl)) mv1 mv2 mv3 mv4 mv9 mv10 mv11 mv12 mv13 mv14 mv15 mv16 mv17 mv18 (.ref rm) (.ref ro) (.int (nI zc)) (.ref ze) mv23 mv24 mv25 mv26 mv27 mv28 mv29 mv30 tf tpf tnf z2 mo2 co2 (zqX RT (RC 1) (RC 2) ((a9 * RC 1 + b9) * RC 2 + i) 0) (zqX RT (RC 1) (RC 2) ((a9 * RC 1 + b9) * RC 2 + i) 1) (zqX RT (RC 1) (RC 2) ((a9 * RC 1 + b9) * RC 2 + i) 2) h_o h_te h_tp h_tn hM.2.1 (lsM_k hM)) ⟨(callB_of 3 hg (wd_goodG q_1045) rfl rfl rfl (hg _ q_5) (hg _ q_1042) (by decide +kernel) ⟨Nat.le_trans (Nat.le_of_ble_eq_true rfl) hRf, Nat.le_trans (Nat.le_of_ble_eq_true rfl) hRl⟩), hg _ q_1044, hg _ qs_44⟩ (mp_preV (C := R_M) (T := F_M) hI hK h_o rfl [.int (nI (zqX RT (RC 1) (RC 2) ((a9 * RC 1 + b9) * RC 2 + i) 0).val), .int (nI (zqX RT (RC 1) (RC 2) ((a9 * RC 1 + b9) * RC 2 + i) 1).val), .int (nI (zqX RT (RC 1) (RC 2) ((a9 * RC 1 + b9) * RC 2 + i) 2).val)]) rfl rfl hl.1 rfl (lv_room (Nat.le_of_ble_eq_true rfl)) d_M_findZeros_94 ⟨by omega, by omega⟩) (fun r16 S13 H14 locs p_15 hI => ?_)
    obtain ⟨hv, fq⟩ := p_15
    have h_o : S13 o = some (2000, .inr (10, [.int (nI nl), mv1, mv2, mv3, mv4, .int (nI n), .ref te, .ref tp, .ref tn, mv9, mv10, mv11, mv12, mv13, mv14, mv15, mv16, mv17, mv18, .ref rm, .ref ro, .int (nI zc), .ref ze, mv23, mv24, mv25, mv26, mv27, mv28, mv29, mv30])) := fq o _ _ h_o
    have h_te : S13 te = some (2002, .inl ((g 0), 12, .inl tf)) := fq te _ _ h_te
    have h_tp : S13 tp = some (2003, .inl ((g 0), 12000, .inl tpf)) := fq tp _ _ h_tp
    have h_tn : S13 tn = some (2004, .inl ((g 0), 12000, .inl tnf)) := fq tn _ _ h_tn
    have h_ro : S13 ro = some (2013, .inl ((g 0), 51, .inl (fun j => nI (RO j)))) := fq ro _ _ h_ro
    have h_rm : S13 rm = some (2012, .inl ((g 0), 3, .inl (fun j => nI (RMf j)))) := fq rm _ _ h_rm
    have h_ze : S13 ze = some (2014, .inl ((g 0), 51, .inl (fun j => nI (ZM j).val))) := fq ze _ _ h_ze
    have hfr : ∀ b t e9, B b = some (t, e9) → (t ≠ 2000) → (t ≠ 2014) → S13 b = some (t, e9) := fun b t e9 h9 k0 k1 => by have h8 := hfr b t e9 h9 k0 k1; exact fq b _ _ h8
    have hiff := all_2 hM (ev (zqX RT (RC 1) (RC 2) ((a9 * RC 1 + b9) * RC 2 + i) 0) (zqX RT (RC 1) (RC 2) ((a9 * RC 1 + b9) * RC 2 + i) 1) (zqX RT (RC 1) (RC 2) ((a9 * RC 1 + b9) * RC 2 + i) 2))
    rw [hiff] at hv
    rcases hv with ⟨rfl, hv⟩ | ⟨rfl, hv⟩
    · refine lv_if_eq (tgt := 167) hx hb d_M_findZeros_97 (by decide) (fun h9 => absurd h9 (by decide)) (fun _ => ?_)
      have hk := zm_yes hzk hv
      have hzc := hZb _ _ _ (q3_le ha9 hb9 (show i < RC 2 by omega)) hk
      refine lv_aload_n hx hb d_M_findZeros_100 rfl (lv_at hl 5 rfl) ?_
      refine mp_get (C := R_M) (T := F_M) (N := 31) (v := .ref ze) hx hb hg i_M hown hK.va hI h_o rfl 22 (by decide) (hg _ q_826) (fun _ h9 => h9) rfl d_M_findZeros_101 ?_
      refine lv_iconst (v := nI 3) hx hb d_M_findZeros_104 (by decide) ?_
      refine lv_aload_n hx hb d_M_findZeros_105 rfl (lv_at hl 5 rfl) ?_
      refine mp_get (C := R_M) (T := F_M) (N := 31) (v := .int (nI zc)) hx hb hg i_M hown hK.va hI h_o rfl 21 (by decide) (hg _ q_825) (fun _ h9 => h9) rfl d_M_findZeros_106 ?_
      refine lv_imul hx hb d_M_findZeros_109 ?_
      refine lv_topi (fun v17 ev17 => ?_)
      obtain rfl : v17 = nI (3 * zc) := ev17.trans (pk_mul _ _)
      refine lv_aload_n hx hb d_M_findZeros_110 rfl (lv_at hl 5 rfl) ?_
      refine lv_iconst (v := nI 0) hx hb d_M_findZeros_111 (by decide) ?_
      refine lv_iload_n hx hb d_M_findZeros_112 rfl (lv_at hl 2 rfl) ?_
      refine mp_calli hI (va_runV (As := [.int (nI 0), .int (nI a9)]) (rest := [.int (nI (3 * zc)), .ref ze]) ⟨hx, hb, hml, hown, hg⟩ (c_M_rootOf l D g S13 _ o ro nl 0 a9 mv1 mv2 mv3 mv4 (.int (nI n)) (.ref te) (.ref tp) (.ref tn) mv9 mv10 mv11 mv12 mv13 mv14 mv15 mv16 mv17 mv18 (.ref rm) (.int (nI zc)) (.ref ze) mv23 mv24 mv25 mv26 mv27 mv28 mv29 mv30 RO h_o h_ro hnl (by decide) (by omega)) ⟨(callB_of 2 hg (wd_goodG q_1041) rfl rfl rfl (hg _ q_5) (hg _ q_1038) (by decide +kernel) ⟨Nat.le_trans (Nat.le_of_ble_eq_true rfl) hRf, Nat.le_trans (Nat.le_of_ble_eq_true rfl) hRl⟩), hg _ q_1040, hg _ qs_43⟩ (mp_preV (C := R_M) (T := F_M) hI hK h_o rfl [.int (nI 0), .int (nI a9)]) rfl rfl hl.1 rfl (lv_room (Nat.le_of_ble_eq_true rfl)) d_M_findZeros_113 ⟨by omega, by omega⟩) (fun r21 S18 H19 locs p_20 hI => ?_)
      obtain ⟨er21, fq⟩ := p_20
      have er21 : r21 = nI (zqX RT (RC 1) (RC 2) ((a9 * RC 1 + b9) * RC 2 + i) 0).val := by rw [er21, (t0).2, x0, fc_v, Nat.mod_eq_of_lt t0.1]
      subst er21
      have h_o : S18 o = some (2000, .inr (10, [.int (nI nl), mv1, mv2, mv3, mv4, .int (nI n), .ref te, .ref tp, .ref tn, mv9, mv10, mv11, mv12, mv13, mv14, mv15, mv16, mv17, mv18, .ref rm, .ref ro, .int (nI zc), .ref ze, mv23, mv24, mv25, mv26, mv27, mv28, mv29, mv30])) := fq o _ _ h_o
      have h_te : S18 te = some (2002, .inl ((g 0), 12, .inl tf)) := fq te _ _ h_te
      have h_tp : S18 tp = some (2003, .inl ((g 0), 12000, .inl tpf)) := fq tp _ _ h_tp
      have h_tn : S18 tn = some (2004, .inl ((g 0), 12000, .inl tnf)) := fq tn _ _ h_tn
      have h_ro : S18 ro = some (2013, .inl ((g 0), 51, .inl (fun j => nI (RO j)))) := fq ro _ _ h_ro
      have h_rm : S18 rm = some (2012, .inl ((g 0), 3, .inl (fun j => nI (RMf j)))) := fq rm _ _ h_rm
      have h_ze : S18 ze = some (2014, .inl ((g 0), 51, .inl (fun j => nI (ZM j).val))) := fq ze _ _ h_ze
      have hfr : ∀ b t e9, B b = some (t, e9) → (t ≠ 2000) → (t ≠ 2014) → S18 b = some (t, e9) := fun b t e9 h9 k0 k1 => by have h8 := hfr b t e9 h9 k0 k1; exact fq b _ _ h8
      refine mp_iast hx hb hK.va hI 0 h_ze rfl (vp_in_nI (show 3 * zc < 51 by omega) (by omega)) d_M_findZeros_116 (fun S22 H23 locs e_24 hI => ?_)
      have h_ze_o := h_ze
      have e_24 : S22 = va_up S18 ze (some (2014, .inl ((g 0), 51, .inl (upd (fun j => nI (ZM j).val) (nI (3 * zc)).toNatClampNeg (nI (zqX RT (RC 1) (RC 2) ((a9 * RC 1 + b9) * RC 2 + i) 0).val))))) := e_24
      have h_o : S22 o = some (2000, .inr (10, [.int (nI nl), mv1, mv2, mv3, mv4, .int (nI n), .ref te, .ref tp, .ref tn, mv9, mv10, mv11, mv12, mv13, mv14, mv15, mv16, mv17, mv18, .ref rm, .ref ro, .int (nI zc), .ref ze, mv23, mv24, mv25, mv26, mv27, mv28, mv29, mv30])) := by rw [e_24]; exact mp_keep h_o h_ze (by decide)
      have h_te : S22 te = some (2002, .inl ((g 0), 12, .inl tf)) := by rw [e_24]; exact mp_keep h_te h_ze (by decide)
      have h_tp : S22 tp = some (2003, .inl ((g 0), 12000, .inl tpf)) := by rw [e_24]; exact mp_keep h_tp h_ze (by decide)
      have h_tn : S22 tn = some (2004, .inl ((g 0), 12000, .inl tnf)) := by rw [e_24]; exact mp_keep h_tn h_ze (by decide)
      have h_ro : S22 ro = some (2013, .inl ((g 0), 51, .inl (fun j => nI (RO j)))) := by rw [e_24]; exact mp_keep h_ro h_ze (by decide)
      have h_rm : S22 rm = some (2012, .inl ((g 0), 3, .inl (fun j => nI (RMf j)))) := by rw [e_24]; exact mp_keep h_rm h_ze (by decide)
      have h_ze : S22 ze = some (2014, .inl ((g 0), 51, .inl (upd (fun j => nI (ZM j).val) (nI (3 * zc)).toNatClampNeg (nI (zqX RT (RC 1) (RC 2) ((a9 * RC 1 + b9) * RC 2 + i) 0).val)))) := by rw [e_24]; exact mp_us _ _ _
      have hfr : ∀ b t e9, B b = some (t, e9) → (t ≠ 2000) → (t ≠ 2014) → S22 b = some (t, e9) := fun b t e9 h9 k0 k1 => by rw [e_24]; exact mp_keep (hfr b t e9 h9 k0 k1) h_ze_o (by omega)
      rw [nI_clamp (by omega), nIv_up] at h_ze
      refine lv_aload_n hx hb d_M_findZeros_117 rfl (lv_at hl 5 rfl) ?_
      refine mp_get (C := R_M) (T := F_M) (N := 31) (v := .ref ze) hx hb hg i_M hown hK.va hI h_o rfl 22 (by decide) (hg _ q_826) (fun _ h9 => h9) rfl d_M_findZeros_118 ?_
      refine lv_iconst (v := nI 3) hx hb d_M_findZeros_121 (by decide) ?_
      refine lv_aload_n hx hb d_M_findZeros_122 rfl (lv_at hl 5 rfl) ?_
      refine mp_get (C := R_M) (T := F_M) (N := 31) (v := .int (nI zc)) hx hb hg i_M hown hK.va hI h_o rfl 21 (by decide) (hg _ q_825) (fun _ h9 => h9) rfl d_M_findZeros_123 ?_
      refine lv_imul hx hb d_M_findZeros_126 ?_
      refine lv_topi (fun v25 ev25 => ?_)
      obtain rfl : v25 = nI (3 * zc) := ev25.trans (pk_mul _ _)
      refine lv_iconst (v := nI 1) hx hb d_M_findZeros_127 (by decide) ?_
      refine lv_iadd hx hb d_M_findZeros_128 ?_
      refine lv_topi (fun v26 ev26 => ?_)
      obtain rfl : v26 = nI ((3 * zc) + 1) := ev26.trans (nI_add _ _)
      refine lv_aload_n hx hb d_M_findZeros_129 rfl (lv_at hl 5 rfl) ?_
      refine lv_iconst (v := nI 1) hx hb d_M_findZeros_130 (by decide) ?_
      refine lv_iload hx hb d_M_findZeros_131 (lv_at hl 1 rfl) ?_
      refine mp_calli hI (va_runV (As := [.int (nI 1), .int (nI b9)]) (rest := [.int (nI ((3 * zc) + 1)), .ref ze]) ⟨hx, hb, hml, hown, hg⟩ (c_M_rootOf l D g S22 _ o ro nl 1 b9 mv1 mv2 mv3 mv4 (.int (nI n)) (.ref te) (.ref tp) (.ref tn) mv9 mv10 mv11 mv12 mv13 mv14 mv15 mv16 mv17 mv18 (.ref rm) (.int (nI zc)) (.ref ze) mv23 mv24 mv25 mv26 mv27 mv28 mv29 mv30 RO h_o h_ro hnl (by decide) (by omega)) ⟨(callB_of 2 hg (wd_goodG q_1041) rfl rfl rfl (hg _ q_5) (hg _ q_1038) (by decide +kernel) ⟨Nat.le_trans (Nat.le_of_ble_eq_true rfl) hRf, Nat.le_trans (Nat.le_of_ble_eq_true rfl) hRl⟩), hg _ q_1040, hg _ qs_43⟩ (mp_preV (C := R_M) (T := F_M) hI hK h_o rfl [.int (nI 1), .int (nI b9)]) rfl rfl hl.1 rfl (lv_room (Nat.le_of_ble_eq_true rfl)) d_M_findZeros_133 ⟨by omega, by omega⟩) (fun r30 S27 H28 locs p_29 hI => ?_)
      obtain ⟨er30, fq⟩ := p_29
      have er30 : r30 = nI (zqX RT (RC 1) (RC 2) ((a9 * RC 1 + b9) * RC 2 + i) 1).val := by rw [er30, (t1).2, x1, fc_v, Nat.mod_eq_of_lt t1.1]
      subst er30
      have h_o : S27 o = some (2000, .inr (10, [.int (nI nl), mv1, mv2, mv3, mv4, .int (nI n), .ref te, .ref tp, .ref tn, mv9, mv10, mv11, mv12, mv13, mv14, mv15, mv16, mv17, mv18, .ref rm, .ref ro, .int (nI zc), .ref ze, mv23, mv24, mv25, mv26, mv27, mv28, mv29, mv30])) := fq o _ _ h_o
      have h_te : S27 te = some (2002, .inl ((g 0), 12, .inl tf)) := fq te _ _ h_te
      have h_tp : S27 tp = some (2003, .inl ((g 0), 12000, .inl tpf)) := fq tp _ _ h_tp
      have h_tn : S27 tn = some (2004, .inl ((g 0), 12000, .inl tnf)) := fq tn _ _ h_tn
      have h_ro : S27 ro = some (2013, .inl ((g 0), 51, .inl (fun j => nI (RO j)))) := fq ro _ _ h_ro
      have h_rm : S27 rm = some (2012, .inl ((g 0), 3, .inl (fun j => nI (RMf j)))) := fq rm _ _ h_rm
      have h_ze : S27 ze = some (2014, .inl ((g 0), 51, .inl (fun j => nI (va_up ZM (3 * zc) (zqX RT (RC 1) (RC 2) ((a9 * RC 1 + b9) * RC 2 + i) 0) j).val))) := fq ze _ _ h_ze
      have hfr : ∀ b t e9, B b = some (t, e9) → (t ≠ 2000) → (t ≠ 2014) → S27 b = some (t, e9) := fun b t e9 h9 k0 k1 => by have h8 := hfr b t e9 h9 k0 k1; exact fq b _ _ h8
      refine mp_iast hx hb hK.va hI 0 h_ze rfl (vp_in_nI (show (3 * zc) + 1 < 51 by omega) (by omega)) d_M_findZeros_136 (fun S31 H32 locs e_33 hI => ?_)
      have h_ze_o := h_ze
      have e_33 : S31 = va_up S27 ze (some (2014, .inl ((g 0), 51, .inl (upd (fun j => nI (va_up ZM (3 * zc) (zqX RT (RC 1) (RC 2) ((a9 * RC 1 + b9) * RC 2 + i) 0) j).val) (nI ((3 * zc) + 1)).toNatClampNeg (nI (zqX RT (RC 1) (RC 2) ((a9 * RC 1 + b9) * RC 2 + i) 1).val))))) := e_33
      have h_o : S31 o = some (2000, .inr (10, [.int (nI nl), mv1, mv2, mv3, mv4, .int (nI n), .ref te, .ref tp, .ref tn, mv9, mv10, mv11, mv12, mv13, mv14, mv15, mv16, mv17, mv18, .ref rm, .ref ro, .int (nI zc), .ref ze, mv23, mv24, mv25, mv26, mv27, mv28, mv29, mv30])) := by rw [e_33]; exact mp_keep h_o h_ze (by decide)
      have h_te : S31 te = some (2002, .inl ((g 0), 12, .inl tf)) := by rw [e_33]; exact mp_keep h_te h_ze (by decide)
      have h_tp : S31 tp = some (2003, .inl ((g 0), 12000, .inl tpf)) := by rw [e_33]; exact mp_keep h_tp h_ze (by decide)
      have h_tn : S31 tn = some (2004, .inl ((g 0), 12000, .inl tnf)) := by rw [e_33]; exact mp_keep h_tn h_ze (by decide)
      have h_ro : S31 ro = some (2013, .inl ((g 0), 51, .inl (fun j => nI (RO j)))) := by rw [e_33]; exact mp_keep h_ro h_ze (by decide)
      have h_rm : S31 rm = some (2012, .inl ((g 0), 3, .inl (fun j => nI (RMf j)))) := by rw [e_33]; exact mp_keep h_rm h_ze (by decide)
      have h_ze : S31 ze = some (2014, .inl ((g 0), 51, .inl (upd (fun j => nI (va_up ZM (3 * zc) (zqX RT (RC 1) (RC 2) ((a9 * RC 1 + b9) * RC 2 + i) 0) j).val) (nI ((3 * zc) + 1)).toNatClampNeg (nI (zqX RT (RC 1) (RC 2) ((a9 * RC 1 + b9) * RC 2 + i) 1).val)))) := by rw [e_33]; exact mp_us _ _ _
      have hfr : ∀ b t e9, B b = some (t, e9) → (t ≠ 2000) → (t ≠ 2014) → S31 b = some (t, e9) := fun b t e9 h9 k0 k1 => by rw [e_33]; exact mp_keep (hfr b t e9 h9 k0 k1) h_ze_o (by omega)
      rw [nI_clamp (by omega), nIv_up] at h_ze
      refine lv_aload_n hx hb d_M_findZeros_137 rfl (lv_at hl 5 rfl) ?_
      refine mp_get (C := R_M) (T := F_M) (N := 31) (v := .ref ze) hx hb hg i_M hown hK.va hI h_o rfl 22 (by decide) (hg _ q_826) (fun _ h9 => h9) rfl d_M_findZeros_138 ?_
      refine lv_iconst (v := nI 3) hx hb d_M_findZeros_141 (by decide) ?_
      refine lv_aload_n hx hb d_M_findZeros_142 rfl (lv_at hl 5 rfl) ?_
      refine mp_get (C := R_M) (T := F_M) (N := 31) (v := .int (nI zc)) hx hb hg i_M hown hK.va hI h_o rfl 21 (by decide) (hg _ q_825) (fun _ h9 => h9) rfl d_M_findZeros_143 ?_
      refine lv_imul hx hb d_M_findZeros_146 ?_
      refine lv_topi (fun v34 ev34 => ?_)
      obtain rfl : v34 = nI (3 * zc) := ev34.trans (pk_mul _ _)
      refine lv_iconst (v := nI 2) hx hb d_M_findZeros_147 (by decide) ?_
      refine lv_iadd hx hb d_M_findZeros_148 ?_
      refine lv_topi (fun v35 ev35 => ?_)
      obtain rfl : v35 = nI ((3 * zc) + 2) := ev35.trans (nI_add _ _)
      refine lv_aload_n hx hb d_M_findZeros_149 rfl (lv_at hl 5 rfl) ?_
      refine lv_iconst (v := nI 2) hx hb d_M_findZeros_150 (by decide) ?_
      refine lv_iload hx hb d_M_findZeros_151 (lv_at hl 0 rfl) ?_
      refine mp_calli hI (va_runV (As := [.int (nI 2), .int (nI i)]) (rest := [.int (nI ((3 * zc) + 2)), .ref ze]) ⟨hx, hb, hml, hown, hg⟩ (c_M_rootOf l D g S31 _ o ro nl 2 i mv1 mv2 mv3 mv4 (.int (nI n)) (.ref te) (.ref tp) (.ref tn) mv9 mv10 mv11 mv12 mv13 mv14 mv15 mv16 mv17 mv18 (.ref rm) (.int (nI zc)) (.ref ze) mv23 mv24 mv25 mv26 mv27 mv28 mv29 mv30 RO h_o h_ro hnl (by decide) (by omega)) ⟨(callB_of 2 hg (wd_goodG q_1041) rfl rfl rfl (hg _ q_5) (hg _ q_1038) (by decide +kernel) ⟨Nat.le_trans (Nat.le_of_ble_eq_true rfl) hRf, Nat.le_trans (Nat.le_of_ble_eq_true rfl) hRl⟩), hg _ q_1040, hg _ qs_43⟩ (mp_preV (C := R_M) (T := F_M) hI hK h_o rfl [.int (nI 2), .int (nI i)]) rfl rfl hl.1 rfl (lv_room (Nat.le_of_ble_eq_true rfl)) d_M_findZeros_153 ⟨by omega, by omega⟩) (fun r39 S36 H37 locs p_38 hI => ?_)
      obtain ⟨er39, fq⟩ := p_38
      have er39 : r39 = nI (zqX RT (RC 1) (RC 2) ((a9 * RC 1 + b9) * RC 2 + i) 2).val := by rw [er39, (t2).2, x2, fc_v, Nat.mod_eq_of_lt t2.1]
      subst er39
      have h_o : S36 o = some (2000, .inr (10, [.int (nI nl), mv1, mv2, mv3, mv4, .int (nI n), .ref te, .ref tp, .ref tn, mv9, mv10, mv11, mv12, mv13, mv14, mv15, mv16, mv17, mv18, .ref rm, .ref ro, .int (nI zc), .ref ze, mv23, mv24, mv25, mv26, mv27, mv28, mv29, mv30])) := fq o _ _ h_o
      have h_te : S36 te = some (2002, .inl ((g 0), 12, .inl tf)) := fq te _ _ h_te
      have h_tp : S36 tp = some (2003, .inl ((g 0), 12000, .inl tpf)) := fq tp _ _ h_tp
      have h_tn : S36 tn = some (2004, .inl ((g 0), 12000, .inl tnf)) := fq tn _ _ h_tn
      have h_ro : S36 ro = some (2013, .inl ((g 0), 51, .inl (fun j => nI (RO j)))) := fq ro _ _ h_ro
      have h_rm : S36 rm = some (2012, .inl ((g 0), 3, .inl (fun j => nI (RMf j)))) := fq rm _ _ h_rm
      have h_ze : S36 ze = some (2014, .inl ((g 0), 51, .inl (fun j => nI (va_up (va_up ZM (3 * zc) (zqX RT (RC 1) (RC 2) ((a9 * RC 1 + b9) * RC 2 + i) 0)) ((3 * zc) + 1) (zqX RT (RC 1) (RC 2) ((a9 * RC 1 + b9) * RC 2 + i) 1) j).val))) := fq ze _ _ h_ze
      have hfr : ∀ b t e9, B b = some (t, e9) → (t ≠ 2000) → (t ≠ 2014) → S36 b = some (t, e9) := fun b t e9 h9 k0 k1 => by have h8 := hfr b t e9 h9 k0 k1; exact fq b _ _ h8
      refine mp_iast hx hb hK.va hI 0 h_ze rfl (vp_in_nI (show (3 * zc) + 2 < 51 by omega) (by omega)) d_M_findZeros_156 (fun S40 H41 locs e_42 hI => ?_)
      have h_ze_o := h_ze
      have e_42 : S40 = va_up S36 ze (some (2014, .inl ((g 0), 51, .inl (upd (fun j => nI (va_up (va_up ZM (3 * zc) (zqX RT (RC 1) (RC 2) ((a9 * RC 1 + b9) * RC 2 + i) 0)) ((3 * zc) + 1) (zqX RT (RC 1) (RC 2) ((a9 * RC 1 + b9) * RC 2 + i) 1) j).val) (nI ((3 * zc) + 2)).toNatClampNeg (nI (zqX RT (RC 1) (RC 2) ((a9 * RC 1 + b9) * RC 2 + i) 2).val))))) := e_42
      have h_o : S40 o = some (2000, .inr (10, [.int (nI nl), mv1, mv2, mv3, mv4, .int (nI n), .ref te, .ref tp, .ref tn, mv9, mv10, mv11, mv12, mv13, mv14, mv15, mv16, mv17, mv18, .ref rm, .ref ro, .int (nI zc), .ref ze, mv23, mv24, mv25, mv26, mv27, mv28, mv29, mv30])) := by rw [e_42]; exact mp_keep h_o h_ze (by decide)
      have h_te : S40 te = some (2002, .inl ((g 0), 12, .inl tf)) := by rw [e_42]; exact mp_keep h_te h_ze (by decide)
      have h_tp : S40 tp = some (2003, .inl ((g 0), 12000, .inl tpf)) := by rw [e_42]; exact mp_keep h_tp h_ze (by decide)
      have h_tn : S40 tn = some (2004, .inl ((g 0), 12000, .inl tnf)) := by rw [e_42]; exact mp_keep h_tn h_ze (by decide)
      have h_ro : S40 ro = some (2013, .inl ((g 0), 51, .inl (fun j => nI (RO j)))) := by rw [e_42]; exact mp_keep h_ro h_ze (by decide)
      have h_rm : S40 rm = some (2012, .inl ((g 0), 3, .inl (fun j => nI (RMf j)))) := by rw [e_42]; exact mp_keep h_rm h_ze (by decide)
      have h_ze : S40 ze = some (2014, .inl ((g 0), 51, .inl (upd (fun j => nI (va_up (va_up ZM (3 * zc) (zqX RT (RC 1) (RC 2) ((a9 * RC 1 + b9) * RC 2 + i) 0)) ((3 * zc) + 1) (zqX RT (RC 1) (RC 2) ((a9 * RC 1 + b9) * RC 2 + i) 1) j).val) (nI ((3 * zc) + 2)).toNatClampNeg (nI (zqX RT (RC 1) (RC 2) ((a9 * RC 1 + b9) * RC 2 + i) 2).val)))) := by rw [e_42]; exact mp_us _ _ _
      have hfr : ∀ b t e9, B b = some (t, e9) → (t ≠ 2000) → (t ≠ 2014) → S40 b = some (t, e9) := fun b t e9 h9 k0 k1 => by rw [e_42]; exact mp_keep (hfr b t e9 h9 k0 k1) h_ze_o (by omega)
      rw [nI_clamp (by omega), nIv_up] at h_ze
      refine lv_aload_n hx hb d_M_findZeros_157 rfl (lv_at hl 5 rfl) ?_
      refine lv_dup hx hb d_M_findZeros_158 rfl ?_
      refine mp_get (C := R_M) (T := F_M) (N := 31) (v := .int (nI zc)) hx hb hg i_M hown hK.va hI h_o rfl 21 (by decide) (hg _ q_825) (fun _ h9 => h9) rfl d_M_findZeros_159 ?_
      refine lv_iconst (v := nI 1) hx hb d_M_findZeros_162 (by decide) ?_
      refine lv_iadd hx hb d_M_findZeros_163 ?_
      refine lv_topi (fun v43 ev43 => ?_)
      obtain rfl : v43 = nI (zc + 1) := ev43.trans (nI_add _ _)
      refine mp_put (C := R_M) (T := F_M) (N := 31) (v := .int (nI (zc + 1))) (ty := .int) hx hb hg i_M t_M t_M_ok n_M hown hK.va hI h_o rfl 21 (by decide) (hg _ q_825) (fun _ h9 => h9) rfl (by decide +kernel) (rfl) rfl (Nat.le_of_ble_eq_true rfl) d_M_findZeros_164 (fun S44 H45 locs e_46 hI => ?_)
      have h_o_o := h_o
      have e_46 : S44 = va_up S40 o (some (2000, .inr (10, [.int (nI nl), mv1, mv2, mv3, mv4, .int (nI n), .ref te, .ref tp, .ref tn, mv9, mv10, mv11, mv12, mv13, mv14, mv15, mv16, mv17, mv18, .ref rm, .ref ro, .int (nI (zc + 1)), .ref ze, mv23, mv24, mv25, mv26, mv27, mv28, mv29, mv30]))) := e_46
      have h_te : S44 te = some (2002, .inl ((g 0), 12, .inl tf)) := by rw [e_46]; exact mp_keep h_te h_o (by decide)
      have h_tp : S44 tp = some (2003, .inl ((g 0), 12000, .inl tpf)) := by rw [e_46]; exact mp_keep h_tp h_o (by decide)
      have h_tn : S44 tn = some (2004, .inl ((g 0), 12000, .inl tnf)) := by rw [e_46]; exact mp_keep h_tn h_o (by decide)
      have h_ro : S44 ro = some (2013, .inl ((g 0), 51, .inl (fun j => nI (RO j)))) := by rw [e_46]; exact mp_keep h_ro h_o (by decide)
      have h_rm : S44 rm = some (2012, .inl ((g 0), 3, .inl (fun j => nI (RMf j)))) := by rw [e_46]; exact mp_keep h_rm h_o (by decide)
      have h_ze : S44 ze = some (2014, .inl ((g 0), 51, .inl (fun j => nI (va_up (va_up (va_up ZM (3 * zc) (zqX RT (RC 1) (RC 2) ((a9 * RC 1 + b9) * RC 2 + i) 0)) ((3 * zc) + 1) (zqX RT (RC 1) (RC 2) ((a9 * RC 1 + b9) * RC 2 + i) 1)) ((3 * zc) + 2) (zqX RT (RC 1) (RC 2) ((a9 * RC 1 + b9) * RC 2 + i) 2) j).val))) := by rw [e_46]; exact mp_keep h_ze h_o (by decide)
      have h_o : S44 o = some (2000, .inr (10, [.int (nI nl), mv1, mv2, mv3, mv4, .int (nI n), .ref te, .ref tp, .ref tn, mv9, mv10, mv11, mv12, mv13, mv14, mv15, mv16, mv17, mv18, .ref rm, .ref ro, .int (nI (zc + 1)), .ref ze, mv23, mv24, mv25, mv26, mv27, mv28, mv29, mv30])) := by rw [e_46]; exact mp_us _ _ _
      have hfr : ∀ b t e9, B b = some (t, e9) → (t ≠ 2000) → (t ≠ 2014) → S44 b = some (t, e9) := fun b t e9 h9 k0 k1 => by rw [e_46]; exact mp_keep (hfr b t e9 h9 k0 k1) h_o_o (by omega)
      refine lv_iinc (v := nI (i + 1)) (lv' := [(5, .int (nI (i + 1))), (4, .int (nI b9)), (3, .int (nI a9)), (2, .int (nI (RC 2))), (1, .int (nI (RC 1))), (0, .ref o)]) hx hb d_M_findZeros_167 hl (k := 0) rfl (nI_1 _) (by decide) rfl (fun ls hl => ?_)
      refine lv_goto (tgt := 67) hx hb d_M_findZeros_170 (by decide) ?_
      exact ih (i + 1) (zc + 1) (va_up (va_up (va_up ZM (3 * zc) (zqX RT (RC 1) (RC 2) ((a9 * RC 1 + b9) * RC 2 + i) 0)) (3 * zc + 1) (zqX RT (RC 1) (RC 2) ((a9 * RC 1 + b9) * RC 2 + i) 1)) (3 * zc + 2) (zqX RT (RC 1) (RC 2) ((a9 * RC 1 + b9) * RC 2 + i) 2)) S44 H45 locs ls (by omega) hk h_o h_te h_tp h_tn h_ro h_rm h_ze hfr hI (lv_sub hl [0, 1, 2, 3, 4, 5] rfl) kx
    · refine lv_if_eq (tgt := 167) hx hb d_M_findZeros_97 (by decide) (fun _ => ?_) (fun h9 => absurd (by decide) h9)
      refine lv_iinc (v := nI (i + 1)) (lv' := [(5, .int (nI (i + 1))), (4, .int (nI b9)), (3, .int (nI a9)), (2, .int (nI (RC 2))), (1, .int (nI (RC 1))), (0, .ref o)]) hx hb d_M_findZeros_167 hl (k := 0) rfl (nI_1 _) (by decide) rfl (fun ls hl => ?_)
      refine lv_goto (tgt := 67) hx hb d_M_findZeros_170 (by decide) ?_
      exact ih (i + 1) zc ZM S13 H14 locs ls (by omega) (zk_no hzk hv) h_o h_te h_tp h_tn h_ro h_rm h_ze hfr hI (lv_sub hl [0, 1, 2, 3, 4, 5] rfl) kx
set_option maxHeartbeats 4000000 in
set_option maxRecDepth 100000 in
theorem lp_M_fz2 {p : Program} {l : Launch} {e : Env} {R : Room} {s : State} {m : MethodId} {args : Array Value} {below : List Frame} {meth : Method} {c : Code} {Q : State → Prop} {D : mp_G} {g : Nat → ClassId} {A : Nat → Prop} {cells slots : Nat} (hx : p.tables.exec = Jvm.exec) (hb : c.code = b_M_findZeros) (hml : c.maxLocals = 6) (hg : ∀ w ∈ gw, w.before args s = true) (hown : s.vm.findClass R_M = some m.cls) (hK : mp_K D classes (tys g) s) (hRf : 4 ≤ R.frames) (hRl : 93 ≤ R.locals) (hRc : cells ≤ R.cells) (hRs : slots ≤ R.slots) {B : mp_M} {o te tp tn ro rm ze n nl : Nat} {mv1 mv2 mv3 mv4 mv9 mv10 mv11 mv12 mv13 mv14 mv15 mv16 mv17 mv18 mv23 mv24 mv25 mv26 mv27 mv28 mv29 mv30 : Value} {tf tpf tnf hf hif : Nat → Int32} {h : Nat → m3} {z : Nat → Nat} {mo : Nat → Nat → m3} {co : Nat → Nat → fF} {z2 : Nat → Nat} {mo2 : Nat → Nat → m3} {co2 : Nat → Nat → fF} {ld : Nat → fF} {RO RMf : Nat → Nat} {RT : Nat → Nat → Nat} {RC : Nat → Nat} {a9 : Nat} (hM : lsM n h z mo co z2 mo2 co2 ld tf tpf tnf hf hif) (hnl : nl ≤ 3) (hnl1 : 1 ≤ nl) (hRC : ∀ l, l < 3 → RC l ≤ 16) (hRT : ∀ l, l < 3 → ∀ i, i < RC l → RT l i < 32003 ∧ (if l < nl then RO (17 * l + i) else 0) = RT l i) (hRM : ∀ l, l < 3 → (if l < nl then RMf l else 1) = RC l) (hZb : ∀ Q n9 ZZ, Q ≤ RC 0 * RC 1 * RC 2 → zkS (zqP n z mo co RT (RC 1) (RC 2)) (zqX RT (RC 1) (RC 2)) Q n9 ZZ → n9 ≤ 16) (ha9 : a9 < RC 0) : ∀ (k : Nat) (i : Nat) (zc : Nat) (ZM : Nat → fF) (S : mp_M) (H : Heap) (locs : List Loc) (ls : Array Slot), i + k = RC 1 → (zkS (zqP n z mo co RT (RC 1) (RC 2)) (zqX RT (RC 1) (RC 2)) ((a9 * RC 1 + i) * RC 2) zc (fun r l => ZM (3 * r + l))) → S o = some (2000, .inr (10, [.int (nI nl), mv1, mv2, mv3, mv4, .int (nI n), .ref te, .ref tp, .ref tn, mv9, mv10, mv11, mv12, mv13, mv14, mv15, mv16, mv17, mv18, .ref rm, .ref ro, .int (nI zc), .ref ze, mv23, mv24, mv25, mv26, mv27, mv28, mv29, mv30])) → S te = some (2002, .inl ((g 0), 12, .inl tf)) → S tp = some (2003, .inl ((g 0), 12000, .inl tpf)) → S tn = some (2004, .inl ((g 0), 12000, .inl tnf)) → S ro = some (2013, .inl ((g 0), 51, .inl (fun j => nI (RO j)))) → S rm = some (2012, .inl ((g 0), 3, .inl (fun j => nI (RMf j)))) → S ze = some (2014, .inl ((g 0), 51, .inl (fun j => nI (ZM j).val))) → (∀ b t e9, B b = some (t, e9) → (t ≠ 2000) → (t ≠ 2014) → S b = some (t, e9)) → mp_I D classes A s.heap S H locs → lv_has ls 6 [(4, .int (nI i)), (3, .int (nI a9)), (2, .int (nI (RC 2))), (1, .int (nI (RC 1))), (0, .ref o)] → (∀ (zc : Nat) (ZM : Nat → fF) (S : mp_M) (H : Heap) (locs : List Loc) (ls : Array Slot), (zkS (zqP n z mo co RT (RC 1) (RC 2)) (zqX RT (RC 1) (RC 2)) ((a9 * RC 1 + (RC 1)) * RC 2) zc (fun r l => ZM (3 * r + l))) → S o = some (2000, .inr (10, [.int (nI nl), mv1, mv2, mv3, mv4, .int (nI n), .ref te, .ref tp, .ref tn, mv9, mv10, mv11, mv12, mv13, mv14, mv15, mv16, mv17, mv18, .ref rm, .ref ro, .int (nI zc), .ref ze, mv23, mv24, mv25, mv26, mv27, mv28, mv29, mv30])) → S te = some (2002, .inl ((g 0), 12, .inl tf)) → S tp = some (2003, .inl ((g 0), 12000, .inl tpf)) → S tn = some (2004, .inl ((g 0), 12000, .inl tnf)) → S ro = some (2013, .inl ((g 0), 51, .inl (fun j => nI (RO j)))) → S rm = some (2012, .inl ((g 0), 3, .inl (fun j => nI (RMf j)))) → S ze = some (2014, .inl ((g 0), 51, .inl (fun j => nI (ZM j).val))) → (∀ b t e9, B b = some (t, e9) → (t ≠ 2000) → (t ≠ 2014) → S b = some (t, e9)) → mp_I D classes A s.heap S H locs → lv_has ls 6 [(4, .int (nI (RC 1))), (3, .int (nI a9)), (2, .int (nI (RC 2))), (1, .int (nI (RC 1))), (0, .ref o)] → W p l e R s m args below meth c H locs cells slots Q (F0 m 179 ls [])) → W p l e R s m args below meth c H locs cells slots Q (F0 m 58 ls []) := by
  intro k
  induction k with
  | zero =>
    intro i zc ZM S H locs ls hi hzk h_o h_te h_tp h_tn h_ro h_rm h_ze hfr hI hl kx
    have hr16 := hRC 1 (by decide)
    refine lv_iload hx hb d_M_findZeros_58 (lv_at hl 0 rfl) ?_
    refine lv_iload_n hx hb d_M_findZeros_60 rfl (lv_at hl 3 rfl) ?_
    refine lv_icmp_ge (tgt := 179) hx hb d_M_findZeros_61 (by decide) (fun _ => ?_) (fun h9 => absurd ((nI_leI (by omega) (by omega)).mpr (by omega)) h9)
    obtain rfl : i = RC 1 := by omega
    exact kx zc ZM S H locs ls hzk h_o h_te h_tp h_tn h_ro h_rm h_ze hfr hI (lv_sub hl [0, 1, 2, 3, 4] rfl)
  | succ k ih =>
    intro i zc ZM S H locs ls hi hzk h_o h_te h_tp h_tn h_ro h_rm h_ze hfr hI hl kx
    have hr1 := hRC 1 (by decide)
    refine lv_iload hx hb d_M_findZeros_58 (lv_at hl 0 rfl) ?_
    refine lv_iload_n hx hb d_M_findZeros_60 rfl (lv_at hl 3 rfl) ?_
    refine lv_icmp_ge (tgt := 179) hx hb d_M_findZeros_61 (by decide) (fun h9 => absurd h9 (by rw [nI_leI (by omega) (by omega)]; omega)) (fun _ => ?_)
    refine lv_iconst (v := nI 0) hx hb d_M_findZeros_64 (by decide) ?_
    refine lv_istore (lv' := [(5, .int (nI 0)), (4, .int (nI i)), (3, .int (nI a9)), (2, .int (nI (RC 2))), (1, .int (nI (RC 1))), (0, .ref o)]) hx hb d_M_findZeros_65 hl (by decide) rfl (fun ls hl => ?_)
    refine lp_M_fz3 (B := B) (o := o) (te := te) (tp := tp) (tn := tn) (ro := ro) (rm := rm) (ze := ze) (n := n) (nl := nl) (mv1 := mv1) (mv2 := mv2) (mv3 := mv3) (mv4 := mv4) (mv9 := mv9) (mv10 := mv10) (mv11 := mv11) (mv12 := mv12) (mv13 := mv13) (mv14 := mv14) (mv15 := mv15) (mv16 := mv16) (mv17 := mv17) (mv18 := mv18) (mv23 := mv23) (mv24 := mv24) (mv25 := mv25) (mv26 := mv26) (mv27 := mv27) (mv28 := mv28) (mv29 := mv29) (mv30 := mv30) (tf := tf) (tpf := tpf) (tnf := tnf) (hf := hf) (hif := hif) (h := h) (z := z) (mo := mo) (co := co) (z2 := z2) (mo2 := mo2) (co2 := co2) (ld := ld) (RO := RO) (RMf := RMf) (RT := RT) (RC := RC) (a9 := a9) (b9 := i) hx hb hml hg hown hK (Nat.le_trans (Nat.le_of_ble_eq_true rfl) hRf) (Nat.le_trans (Nat.le_of_ble_eq_true rfl) hRl) (by omega) (by omega) hM hnl hnl1 hRC hRT hRM hZb ha9 (by omega) (RC 2) 0 zc ZM S H _ ls (by omega) hzk h_o h_te h_tp h_tn h_ro h_rm h_ze hfr hI (lv_sub hl [0, 1, 2, 3, 4, 5] rfl) (fun zc2 ZM2 S1 H2 locs ls hzk2 j_o j_te j_tp j_tn j_ro j_rm j_ze hfr hI hl => ?_)
    refine lv_iinc (v := nI (i + 1)) (lv' := [(4, .int (nI (i + 1))), (5, .int (nI (RC 2))), (3, .int (nI a9)), (2, .int (nI (RC 2))), (1, .int (nI (RC 1))), (0, .ref o)]) hx hb d_M_findZeros_173 hl (k := 1) rfl (nI_1 _) (by decide) rfl (fun ls hl => ?_)
    refine lv_goto (tgt := 58) hx hb d_M_findZeros_176 (by decide) ?_
    exact ih (i + 1) zc2 ZM2 S1 H2 locs ls (by omega) (by rw [show (a9 * RC 1 + (i + 1)) * RC 2 = (a9 * RC 1 + i) * RC 2 + RC 2 by rw [← Nat.add_assoc, Nat.succ_mul]]; exact hzk2) j_o j_te j_tp j_tn j_ro j_rm j_ze hfr hI (lv_sub hl [0, 2, 3, 4, 5] rfl) kx
set_option maxHeartbeats 4000000 in
set_option maxRecDepth 100000 in
theorem lp_M_fz1 {p : Program} {l : Launch} {e : Env} {R : Room} {s : State} {m : MethodId} {args : Array Value} {below : List Frame} {meth : Method} {c : Code} {Q : State → Prop} {D : mp_G} {g : Nat → ClassId} {A : Nat → Prop} {cells slots : Nat} (hx : p.tables.exec = Jvm.exec) (hb : c.code = b_M_findZeros) (hml : c.maxLocals = 6) (hg : ∀ w ∈ gw, w.before args s = true) (hown : s.vm.findClass R_M = some m.cls) (hK : mp_K D classes (tys g) s) (hRf : 4 ≤ R.frames) (hRl : 93 ≤ R.locals) (hRc : cells ≤ R.cells) (hRs : slots ≤ R.slots) {B : mp_M} {o te tp tn ro rm ze n nl : Nat} {mv1 mv2 mv3 mv4 mv9 mv10 mv11 mv12 mv13 mv14 mv15 mv16 mv17 mv18 mv23 mv24 mv25 mv26 mv27 mv28 mv29 mv30 : Value} {tf tpf tnf hf hif : Nat → Int32} {h : Nat → m3} {z : Nat → Nat} {mo : Nat → Nat → m3} {co : Nat → Nat → fF} {z2 : Nat → Nat} {mo2 : Nat → Nat → m3} {co2 : Nat → Nat → fF} {ld : Nat → fF} {RO RMf : Nat → Nat} {RT : Nat → Nat → Nat} {RC : Nat → Nat} (hM : lsM n h z mo co z2 mo2 co2 ld tf tpf tnf hf hif) (hnl : nl ≤ 3) (hnl1 : 1 ≤ nl) (hRC : ∀ l, l < 3 → RC l ≤ 16) (hRT : ∀ l, l < 3 → ∀ i, i < RC l → RT l i < 32003 ∧ (if l < nl then RO (17 * l + i) else 0) = RT l i) (hRM : ∀ l, l < 3 → (if l < nl then RMf l else 1) = RC l) (hZb : ∀ Q n9 ZZ, Q ≤ RC 0 * RC 1 * RC 2 → zkS (zqP n z mo co RT (RC 1) (RC 2)) (zqX RT (RC 1) (RC 2)) Q n9 ZZ → n9 ≤ 16) : ∀ (k : Nat) (i : Nat) (zc : Nat) (ZM : Nat → fF) (S : mp_M) (H : Heap) (locs : List Loc) (ls : Array Slot), i + k = RC 0 → (zkS (zqP n z mo co RT (RC 1) (RC 2)) (zqX RT (RC 1) (RC 2)) (i * RC 1 * RC 2) zc (fun r l => ZM (3 * r + l))) → S o = some (2000, .inr (10, [.int (nI nl), mv1, mv2, mv3, mv4, .int (nI n), .ref te, .ref tp, .ref tn, mv9, mv10, mv11, mv12, mv13, mv14, mv15, mv16, mv17, mv18, .ref rm, .ref ro, .int (nI zc), .ref ze, mv23, mv24, mv25, mv26, mv27, mv28, mv29, mv30])) → S te = some (2002, .inl ((g 0), 12, .inl tf)) → S tp = some (2003, .inl ((g 0), 12000, .inl tpf)) → S tn = some (2004, .inl ((g 0), 12000, .inl tnf)) → S ro = some (2013, .inl ((g 0), 51, .inl (fun j => nI (RO j)))) → S rm = some (2012, .inl ((g 0), 3, .inl (fun j => nI (RMf j)))) → S ze = some (2014, .inl ((g 0), 51, .inl (fun j => nI (ZM j).val))) → (∀ b t e9, B b = some (t, e9) → (t ≠ 2000) → (t ≠ 2014) → S b = some (t, e9)) → mp_I D classes A s.heap S H locs → lv_has ls 6 [(3, .int (nI i)), (2, .int (nI (RC 2))), (1, .int (nI (RC 1))), (0, .ref o)] → (∀ (zc : Nat) (ZM : Nat → fF) (S : mp_M) (H : Heap) (locs : List Loc) (ls : Array Slot), (zkS (zqP n z mo co RT (RC 1) (RC 2)) (zqX RT (RC 1) (RC 2)) ((RC 0) * RC 1 * RC 2) zc (fun r l => ZM (3 * r + l))) → S o = some (2000, .inr (10, [.int (nI nl), mv1, mv2, mv3, mv4, .int (nI n), .ref te, .ref tp, .ref tn, mv9, mv10, mv11, mv12, mv13, mv14, mv15, mv16, mv17, mv18, .ref rm, .ref ro, .int (nI zc), .ref ze, mv23, mv24, mv25, mv26, mv27, mv28, mv29, mv30])) → S te = some (2002, .inl ((g 0), 12, .inl tf)) → S tp = some (2003, .inl ((g 0), 12000, .inl tpf)) → S tn = some (2004, .inl ((g 0), 12000, .inl tnf)) → S ro = some (2013, .inl ((g 0), 51, .inl (fun j => nI (RO j)))) → S rm = some (2012, .inl ((g 0), 3, .inl (fun j => nI (RMf j)))) → S ze = some (2014, .inl ((g 0), 51, .inl (fun j => nI (ZM j).val))) → (∀ b t e9, B b = some (t, e9) → (t ≠ 2000) → (t ≠ 2014) → S b = some (t, e9)) → mp_I D classes A s.heap S H locs → lv_has ls 6 [(3, .int (nI (RC 0))), (2, .int (nI (RC 2))), (1, .int (nI (RC 1))), (0, .ref o)] → W p l e R s m args below meth c H locs cells slots Q (F0 m 185 ls [])) → W p l e R s m args below meth c H locs cells slots Q (F0 m 45 ls []) := by
  intro k
  induction k with
  | zero =>
    intro i zc ZM S H locs ls hi hzk h_o h_te h_tp h_tn h_ro h_rm h_ze hfr hI hl kx
    have hr16 := hRC 0 (by decide)
    refine lv_iload_n hx hb d_M_findZeros_45 rfl (lv_at hl 0 rfl) ?_
    refine lv_aload_n hx hb d_M_findZeros_46 rfl (lv_at hl 3 rfl) ?_
    refine mp_get (C := R_M) (T := F_M) (N := 31) (v := .ref rm) hx hb hg i_M hown hK.va hI h_o rfl 19 (by decide) (hg _ q_823) (fun _ h9 => h9) rfl d_M_findZeros_47 ?_
    refine lv_iconst (v := nI 0) hx hb d_M_findZeros_50 (by decide) ?_
    refine mp_iald hx hb hK.va hI 0 h_rm rfl (vp_in_nI (show 0 < 3 by omega) (by omega)) d_M_findZeros_51 ?_
    refine lv_topi (fun v1 ev1 => ?_)
    obtain rfl : v1 = nI (RC 0) := ev1.trans (by rw [nI_clamp (by omega)]; have h9 := hRM 0 (by decide); rw [if_pos (by omega)] at h9; rw [h9])
    refine lv_icmp_ge (tgt := 185) hx hb d_M_findZeros_52 (by decide) (fun _ => ?_) (fun h9 => absurd ((nI_leI (by omega) (by omega)).mpr (by omega)) h9)
    obtain rfl : i = RC 0 := by omega
    exact kx zc ZM S H locs ls hzk h_o h_te h_tp h_tn h_ro h_rm h_ze hfr hI (lv_sub hl [0, 1, 2, 3] rfl)
  | succ k ih =>
    intro i zc ZM S H locs ls hi hzk h_o h_te h_tp h_tn h_ro h_rm h_ze hfr hI hl kx
    have hr0 := hRC 0 (by decide)
    refine lv_iload_n hx hb d_M_findZeros_45 rfl (lv_at hl 0 rfl) ?_
    refine lv_aload_n hx hb d_M_findZeros_46 rfl (lv_at hl 3 rfl) ?_
    refine mp_get (C := R_M) (T := F_M) (N := 31) (v := .ref rm) hx hb hg i_M hown hK.va hI h_o rfl 19 (by decide) (hg _ q_823) (fun _ h9 => h9) rfl d_M_findZeros_47 ?_
    refine lv_iconst (v := nI 0) hx hb d_M_findZeros_50 (by decide) ?_
    refine mp_iald hx hb hK.va hI 0 h_rm rfl (vp_in_nI (show 0 < 3 by omega) (by omega)) d_M_findZeros_51 ?_
    refine lv_topi (fun v1 ev1 => ?_)
    obtain rfl : v1 = nI (RC 0) := ev1.trans (by rw [nI_clamp (by omega)]; have h9 := hRM 0 (by decide); rw [if_pos (by omega)] at h9; rw [h9])
    refine lv_icmp_ge (tgt := 185) hx hb d_M_findZeros_52 (by decide) (fun h9 => absurd h9 (by rw [nI_leI (by omega) (by omega)]; omega)) (fun _ => ?_)
    refine lv_iconst (v := nI 0) hx hb d_M_findZeros_55 (by decide) ?_
    refine lv_istore (lv' := [(4, .int (nI 0)), (3, .int (nI i)), (2, .int (nI (RC 2))), (1, .int (nI (RC 1))), (0, .ref o)]) hx hb d_M_findZeros_56 hl (by decide) rfl (fun ls hl => ?_)
    refine lp_M_fz2 (B := B) (o := o) (te := te) (tp := tp) (tn := tn) (ro := ro) (rm := rm) (ze := ze) (n := n) (nl := nl) (mv1 := mv1) (mv2 := mv2) (mv3 := mv3) (mv4 := mv4) (mv9 := mv9) (mv10 := mv10) (mv11 := mv11) (mv12 := mv12) (mv13 := mv13) (mv14 := mv14) (mv15 := mv15) (mv16 := mv16) (mv17 := mv17) (mv18 := mv18) (mv23 := mv23) (mv24 := mv24) (mv25 := mv25) (mv26 := mv26) (mv27 := mv27) (mv28 := mv28) (mv29 := mv29) (mv30 := mv30) (tf := tf) (tpf := tpf) (tnf := tnf) (hf := hf) (hif := hif) (h := h) (z := z) (mo := mo) (co := co) (z2 := z2) (mo2 := mo2) (co2 := co2) (ld := ld) (RO := RO) (RMf := RMf) (RT := RT) (RC := RC) (a9 := i) hx hb hml hg hown hK (Nat.le_trans (Nat.le_of_ble_eq_true rfl) hRf) (Nat.le_trans (Nat.le_of_ble_eq_true rfl) hRl) (by omega) (by omega) hM hnl hnl1 hRC hRT hRM hZb (by omega) (RC 1) 0 zc ZM S H _ ls (by omega) hzk h_o h_te h_tp h_tn h_ro h_rm h_ze hfr hI (lv_sub hl [0, 1, 2, 3, 4] rfl) (fun zc2 ZM2 S2 H3 locs ls hzk2 j_o j_te j_tp j_tn j_ro j_rm j_ze hfr hI hl => ?_)
    refine lv_iinc (v := nI (i + 1)) (lv' := [(3, .int (nI (i + 1))), (4, .int (nI (RC 1))), (2, .int (nI (RC 2))), (1, .int (nI (RC 1))), (0, .ref o)]) hx hb d_M_findZeros_179 hl (k := 1) rfl (nI_1 _) (by decide) rfl (fun ls hl => ?_)
    refine lv_goto (tgt := 45) hx hb d_M_findZeros_182 (by decide) ?_
    exact ih (i + 1) zc2 ZM2 S2 H3 locs ls (by omega) (by rw [show (i + 1) * RC 1 = i * RC 1 + RC 1 from Nat.succ_mul _ _]; exact hzk2) j_o j_te j_tp j_tn j_ro j_rm j_ze hfr hI (lv_sub hl [0, 2, 3, 4] rfl) kx
set_option maxHeartbeats 4000000 in
set_option maxRecDepth 100000 in
/-- the zeros, in the reference -/
theorem c_M_findZeros (l : Launch) (D : mp_G) (g : Nat → ClassId) (S : mp_M) (sz : Nat) (o te tp tn ro rm ze n nl : Nat) (mv1 mv2 mv3 mv4 mv9 mv10 mv11 mv12 mv13 mv14 mv15 mv16 mv17 mv18 mv23 mv24 mv25 mv26 mv27 mv28 mv29 mv30 : Value) (tf tpf tnf hf hif : Nat → Int32) (h : Nat → m3) (z : Nat → Nat) (mo : Nat → Nat → m3) (co : Nat → Nat → fF) (z2 : Nat → Nat) (mo2 : Nat → Nat → m3) (co2 : Nat → Nat → fF) (ld : Nat → fF) (RO RMf : Nat → Nat) (RT : Nat → Nat → Nat) (RC : Nat → Nat) (z0 : Int32) (ZM : Nat → fF) (h_o : S o = some (2000, .inr (10, [.int (nI nl), mv1, mv2, mv3, mv4, .int (nI n), .ref te, .ref tp, .ref tn, mv9, mv10, mv11, mv12, mv13, mv14, mv15, mv16, mv17, mv18, .ref rm, .ref ro, .int z0, .ref ze, mv23, mv24, mv25, mv26, mv27, mv28, mv29, mv30]))) (h_te : S te = some (2002, .inl ((g 0), 12, .inl tf))) (h_tp : S tp = some (2003, .inl ((g 0), 12000, .inl tpf))) (h_tn : S tn = some (2004, .inl ((g 0), 12000, .inl tnf))) (h_ro : S ro = some (2013, .inl ((g 0), 51, .inl (fun j => nI (RO j))))) (h_rm : S rm = some (2012, .inl ((g 0), 3, .inl (fun j => nI (RMf j))))) (h_ze : S ze = some (2014, .inl ((g 0), 51, .inl (fun j => nI (ZM j).val)))) (hM : lsM n h z mo co z2 mo2 co2 ld tf tpf tnf hf hif) (hnl : nl ≤ 3) (hnl1 : 1 ≤ nl) (hRC : ∀ l, l < 3 → RC l ≤ 16) (hRT : ∀ l, l < 3 → ∀ i, i < RC l → RT l i < 32003 ∧ (if l < nl then RO (17 * l + i) else 0) = RT l i) (hRM : ∀ l, l < 3 → (if l < nl then RMf l else 1) = RC l) (hZb : ∀ Q n9 ZZ, Q ≤ RC 0 * RC 1 * RC 2 → zkS (zqP n z mo co RT (RC 1) (RC 2)) (zqX RT (RC 1) (RC 2)) Q n9 ZZ → n9 ≤ 16) : Met l y_M_findZeros w_M_findZeros ({ frames := 4, cells := 0, slots := 0, locals := 93 }) (va_Pc [.ref o] (mp_B0 D classes (tys g) S sz)) (va_Qv (fun (S1 : mp_M) => ∃ (zc : Nat) (ZM1 : Nat → fF), zkS (zqP n z mo co RT (RC 1) (RC 2)) (zqX RT (RC 1) (RC 2)) (RC 0 * RC 1 * RC 2) zc (fun r l => ZM1 (3 * r + l)) ∧ S1 o = some (2000, .inr (10, [.int (nI nl), mv1, mv2, mv3, mv4, .int (nI n), .ref te, .ref tp, .ref tn, mv9, mv10, mv11, mv12, mv13, mv14, mv15, mv16, mv17, mv18, .ref rm, .ref ro, .int (nI zc), .ref ze, mv23, mv24, mv25, mv26, mv27, mv28, mv29, mv30])) ∧ S1 ze = some (2014, .inl ((g 0), 51, .inl (fun j => nI (ZM1 j).val))) ∧ (∀ b t e9, S b = some (t, e9) → (t ≠ 2000) → (t ≠ 2014) → S1 b = some (t, e9))) (mp_B1 D classes S sz) (mp_A S sz)) 0 0 (mp_A S sz) := by
  refine Met.ofW (cc := b_M_findZeros) (maxL := 6) (ret := none) (by decide) rfl ?_
  intro p e s m args below meth c s₁ B hml hv
  obtain ⟨rfl, hsz, hH, hK⟩ := hv
  have hx := B.exec
  have hb := B.bytes
  have hr := B.returns
  have hts := atoms_spec (ws := w_M_findZeros) B.pre
  have hg : ∀ w ∈ gw, w.before _ s = true := fun w h => hts w (List.mem_cons_of_mem _ h)
  have hown : s.vm.findClass R_M = some m.cls := findClass_of_methodNamed B.named
  have hlocks := B.notSynchronized
  subst hsz
  have hI := mp_I.start hH
  have hl := lv_entry ([.ref o]) (n := 6) (Nat.le_of_ble_eq_true rfl)
  rw [lg_entry_eq]
  generalize (lg_sl ([.ref o]) ++ List.replicate (6 - (lg_sl ([.ref o])).length) Slot.unset).toArray = ls at hl ⊢
  have hl : lv_has ls 6 [(0, .ref o)] := hl
  have hfr : ∀ b t e9, S b = some (t, e9) → (t ≠ 2000) → (t ≠ 2014) → S b = some (t, e9) := fun _ _ _ h9 _ _ => h9
  have hm1 := hRM 1 (by decide)
  have hm2 := hRM 2 (by decide)
  refine lv_aload_n hx hb d_M_findZeros_0 rfl (lv_at hl 0 rfl) ?_
  refine lv_iconst (v := nI 0) hx hb d_M_findZeros_1 (by decide) ?_
  refine mp_put (C := R_M) (T := F_M) (N := 31) (v := .int (nI 0)) (ty := .int) hx hb hg i_M t_M t_M_ok n_M hown hK.va hI h_o rfl 21 (by decide) (hg _ q_825) (fun _ h9 => h9) rfl (by decide +kernel) (rfl) rfl (Nat.le_of_ble_eq_true rfl) d_M_findZeros_2 (fun S1 H2 locs e_3 hI => ?_)
  have h_o_o := h_o
  have e_3 : S1 = va_up S o (some (2000, .inr (10, [.int (nI nl), mv1, mv2, mv3, mv4, .int (nI n), .ref te, .ref tp, .ref tn, mv9, mv10, mv11, mv12, mv13, mv14, mv15, mv16, mv17, mv18, .ref rm, .ref ro, .int (nI 0), .ref ze, mv23, mv24, mv25, mv26, mv27, mv28, mv29, mv30]))) := e_3
  have h_te : S1 te = some (2002, .inl ((g 0), 12, .inl tf)) := by rw [e_3]; exact mp_keep h_te h_o (by decide)
  have h_tp : S1 tp = some (2003, .inl ((g 0), 12000, .inl tpf)) := by rw [e_3]; exact mp_keep h_tp h_o (by decide)
  have h_tn : S1 tn = some (2004, .inl ((g 0), 12000, .inl tnf)) := by rw [e_3]; exact mp_keep h_tn h_o (by decide)
  have h_ro : S1 ro = some (2013, .inl ((g 0), 51, .inl (fun j => nI (RO j)))) := by rw [e_3]; exact mp_keep h_ro h_o (by decide)
  have h_rm : S1 rm = some (2012, .inl ((g 0), 3, .inl (fun j => nI (RMf j)))) := by rw [e_3]; exact mp_keep h_rm h_o (by decide)
  have h_ze : S1 ze = some (2014, .inl ((g 0), 51, .inl (fun j => nI (ZM j).val))) := by rw [e_3]; exact mp_keep h_ze h_o (by decide)
  have h_o : S1 o = some (2000, .inr (10, [.int (nI nl), mv1, mv2, mv3, mv4, .int (nI n), .ref te, .ref tp, .ref tn, mv9, mv10, mv11, mv12, mv13, mv14, mv15, mv16, mv17, mv18, .ref rm, .ref ro, .int (nI 0), .ref ze, mv23, mv24, mv25, mv26, mv27, mv28, mv29, mv30])) := by rw [e_3]; exact mp_us _ _ _
  have hfr : ∀ b t e9, S b = some (t, e9) → (t ≠ 2000) → (t ≠ 2014) → S1 b = some (t, e9) := fun b t e9 h9 k0 k1 => by rw [e_3]; exact mp_keep (hfr b t e9 h9 k0 k1) h_o_o (by omega)
  refine lv_aload_n hx hb d_M_findZeros_5 rfl (lv_at hl 0 rfl) ?_
  refine mp_get (C := R_M) (T := F_M) (N := 31) (v := .int (nI nl)) hx hb hg i_M hown hK.va hI h_o rfl 0 (by decide) (hg _ q_804) (fun _ h9 => h9) rfl d_M_findZeros_6 ?_
  refine lv_iconst (v := nI 1) hx hb d_M_findZeros_9 (by decide) ?_
  refine lv_icmp_le (tgt := 22) hx hb d_M_findZeros_10 (by decide) (fun c1 => ?_) (fun c1 => ?_)
  · rw [nI_leI (by omega) (by omega)] at c1
    refine lv_iconst (v := nI 1) hx hb d_M_findZeros_22 (by decide) ?_
    refine lv_topi (fun v4 ev4 => ?_)
    obtain rfl : v4 = nI (RC 1) := ev4.trans (by rw [← hm1, if_neg (by omega)])
    refine lv_istore_n (lv' := [(1, .int (nI (RC 1))), (0, .ref o)]) hx hb d_M_findZeros_23 rfl hl (by decide) rfl (fun ls hl => ?_)
    refine lv_aload_n hx hb d_M_findZeros_24 rfl (lv_at hl 1 rfl) ?_
    refine mp_get (C := R_M) (T := F_M) (N := 31) (v := .int (nI nl)) hx hb hg i_M hown hK.va hI h_o rfl 0 (by decide) (hg _ q_804) (fun _ h9 => h9) rfl d_M_findZeros_25 ?_
    refine lv_iconst (v := nI 2) hx hb d_M_findZeros_28 (by decide) ?_
    refine lv_icmp_le (tgt := 41) hx hb d_M_findZeros_29 (by decide) (fun c2 => ?_) (fun c2 => ?_)
    · rw [nI_leI (by omega) (by omega)] at c2
      refine lv_iconst (v := nI 1) hx hb d_M_findZeros_41 (by decide) ?_
      refine lv_topi (fun v5 ev5 => ?_)
      obtain rfl : v5 = nI (RC 2) := ev5.trans (by rw [← hm2, if_neg (by omega)])
      refine lv_istore_n (lv' := [(2, .int (nI (RC 2))), (1, .int (nI (RC 1))), (0, .ref o)]) hx hb d_M_findZeros_42 rfl hl (by decide) rfl (fun ls hl => ?_)
      refine lv_iconst (v := nI 0) hx hb d_M_findZeros_43 (by decide) ?_
      refine lv_istore_n (lv' := [(3, .int (nI 0)), (2, .int (nI (RC 2))), (1, .int (nI (RC 1))), (0, .ref o)]) hx hb d_M_findZeros_44 rfl hl (by decide) rfl (fun ls hl => ?_)
      refine lp_M_fz1 (B := S) (o := o) (te := te) (tp := tp) (tn := tn) (ro := ro) (rm := rm) (ze := ze) (n := n) (nl := nl) (mv1 := mv1) (mv2 := mv2) (mv3 := mv3) (mv4 := mv4) (mv9 := mv9) (mv10 := mv10) (mv11 := mv11) (mv12 := mv12) (mv13 := mv13) (mv14 := mv14) (mv15 := mv15) (mv16 := mv16) (mv17 := mv17) (mv18 := mv18) (mv23 := mv23) (mv24 := mv24) (mv25 := mv25) (mv26 := mv26) (mv27 := mv27) (mv28 := mv28) (mv29 := mv29) (mv30 := mv30) (tf := tf) (tpf := tpf) (tnf := tnf) (hf := hf) (hif := hif) (h := h) (z := z) (mo := mo) (co := co) (z2 := z2) (mo2 := mo2) (co2 := co2) (ld := ld) (RO := RO) (RMf := RMf) (RT := RT) (RC := RC) hx hb hml hg hown hK (Nat.le_of_ble_eq_true rfl) (Nat.le_of_ble_eq_true rfl) (Nat.le_of_ble_eq_true rfl) (Nat.le_of_ble_eq_true rfl) hM hnl hnl1 hRC hRT hRM hZb (RC 0) 0 0 ZM S1 H2 _ ls (by omega) ⟨fun _ => 0, by rw [Nat.zero_mul, Nat.zero_mul]; exact colS_0 _ _, fun r hr => absurd hr (Nat.not_lt_zero r)⟩ h_o h_te h_tp h_tn h_ro h_rm h_ze hfr hI (lv_sub hl [0, 1, 2, 3] rfl) (fun zc ZM1 S6 H7 locs ls hzk j_o j_te j_tp j_tn j_ro j_rm j_ze hfr hI hl => ?_)
      refine mp_vret hx hb hr hlocks hI (Nat.le_of_ble_eq_true rfl) (Nat.le_of_ble_eq_true rfl) ?_ d_M_findZeros_185
      exact ⟨zc, ZM1, hzk, j_o, j_ze, hfr⟩
    · rw [nI_leI (by omega) (by omega)] at c2
      refine lv_aload_n hx hb d_M_findZeros_32 rfl (lv_at hl 1 rfl) ?_
      refine mp_get (C := R_M) (T := F_M) (N := 31) (v := .ref rm) hx hb hg i_M hown hK.va hI h_o rfl 19 (by decide) (hg _ q_823) (fun _ h9 => h9) rfl d_M_findZeros_33 ?_
      refine lv_iconst (v := nI 2) hx hb d_M_findZeros_36 (by decide) ?_
      refine mp_iald hx hb hK.va hI 0 h_rm rfl (vp_in_nI (show 2 < 3 by omega) (by omega)) d_M_findZeros_37 ?_
      refine lv_topi (fun v8 ev8 => ?_)
      obtain rfl : v8 = nI (RMf 2) := ev8.trans (by rw [nI_clamp (by omega)])
      refine lv_topi (fun v9 ev9 => ?_)
      obtain rfl : v9 = nI (RC 2) := ev9.trans (by rw [← hm2, if_pos (by omega)])
      refine lv_goto (tgt := 42) hx hb d_M_findZeros_38 (by decide) ?_
      refine lv_istore_n (lv' := [(2, .int (nI (RC 2))), (1, .int (nI (RC 1))), (0, .ref o)]) hx hb d_M_findZeros_42 rfl hl (by decide) rfl (fun ls hl => ?_)
      refine lv_iconst (v := nI 0) hx hb d_M_findZeros_43 (by decide) ?_
      refine lv_istore_n (lv' := [(3, .int (nI 0)), (2, .int (nI (RC 2))), (1, .int (nI (RC 1))), (0, .ref o)]) hx hb d_M_findZeros_44 rfl hl (by decide) rfl (fun ls hl => ?_)
      refine lp_M_fz1 (B := S) (o := o) (te := te) (tp := tp) (tn := tn) (ro := ro) (rm := rm) (ze := ze) (n := n) (nl := nl) (mv1 := mv1) (mv2 := mv2) (mv3 := mv3) (mv4 := mv4) (mv9 := mv9) (mv10 := mv10) (mv11 := mv11) (mv12 := mv12) (mv13 := mv13) (mv14 := mv14) (mv15 := mv15) (mv16 := mv16) (mv17 := mv17) (mv18 := mv18) (mv23 := mv23) (mv24 := mv24) (mv25 := mv25) (mv26 := mv26) (mv27 := mv27) (mv28 := mv28) (mv29 := mv29) (mv30 := mv30) (tf := tf) (tpf := tpf) (tnf := tnf) (hf := hf) (hif := hif) (h := h) (z := z) (mo := mo) (co := co) (z2 := z2) (mo2 := mo2) (co2 := co2) (ld := ld) (RO := RO) (RMf := RMf) (RT := RT) (RC := RC) hx hb hml hg hown hK (Nat.le_of_ble_eq_true rfl) (Nat.le_of_ble_eq_true rfl) (Nat.le_of_ble_eq_true rfl) (Nat.le_of_ble_eq_true rfl) hM hnl hnl1 hRC hRT hRM hZb (RC 0) 0 0 ZM S1 H2 _ ls (by omega) ⟨fun _ => 0, by rw [Nat.zero_mul, Nat.zero_mul]; exact colS_0 _ _, fun r hr => absurd hr (Nat.not_lt_zero r)⟩ h_o h_te h_tp h_tn h_ro h_rm h_ze hfr hI (lv_sub hl [0, 1, 2, 3] rfl) (fun zc ZM1 S10 H11 locs ls hzk j_o j_te j_tp j_tn j_ro j_rm j_ze hfr hI hl => ?_)
      refine mp_vret hx hb hr hlocks hI (Nat.le_of_ble_eq_true rfl) (Nat.le_of_ble_eq_true rfl) ?_ d_M_findZeros_185
      exact ⟨zc, ZM1, hzk, j_o, j_ze, hfr⟩
  · rw [nI_leI (by omega) (by omega)] at c1
    refine lv_aload_n hx hb d_M_findZeros_13 rfl (lv_at hl 0 rfl) ?_
    refine mp_get (C := R_M) (T := F_M) (N := 31) (v := .ref rm) hx hb hg i_M hown hK.va hI h_o rfl 19 (by decide) (hg _ q_823) (fun _ h9 => h9) rfl d_M_findZeros_14 ?_
    refine lv_iconst (v := nI 1) hx hb d_M_findZeros_17 (by decide) ?_
    refine mp_iald hx hb hK.va hI 0 h_rm rfl (vp_in_nI (show 1 < 3 by omega) (by omega)) d_M_findZeros_18 ?_
    refine lv_topi (fun v12 ev12 => ?_)
    obtain rfl : v12 = nI (RMf 1) := ev12.trans (by rw [nI_clamp (by omega)])
    refine lv_topi (fun v13 ev13 => ?_)
    obtain rfl : v13 = nI (RC 1) := ev13.trans (by rw [← hm1, if_pos (by omega)])
    refine lv_goto (tgt := 23) hx hb d_M_findZeros_19 (by decide) ?_
    refine lv_istore_n (lv' := [(1, .int (nI (RC 1))), (0, .ref o)]) hx hb d_M_findZeros_23 rfl hl (by decide) rfl (fun ls hl => ?_)
    refine lv_aload_n hx hb d_M_findZeros_24 rfl (lv_at hl 1 rfl) ?_
    refine mp_get (C := R_M) (T := F_M) (N := 31) (v := .int (nI nl)) hx hb hg i_M hown hK.va hI h_o rfl 0 (by decide) (hg _ q_804) (fun _ h9 => h9) rfl d_M_findZeros_25 ?_
    refine lv_iconst (v := nI 2) hx hb d_M_findZeros_28 (by decide) ?_
    refine lv_icmp_le (tgt := 41) hx hb d_M_findZeros_29 (by decide) (fun c2 => ?_) (fun c2 => ?_)
    · rw [nI_leI (by omega) (by omega)] at c2
      refine lv_iconst (v := nI 1) hx hb d_M_findZeros_41 (by decide) ?_
      refine lv_topi (fun v14 ev14 => ?_)
      obtain rfl : v14 = nI (RC 2) := ev14.trans (by rw [← hm2, if_neg (by omega)])
      refine lv_istore_n (lv' := [(2, .int (nI (RC 2))), (1, .int (nI (RC 1))), (0, .ref o)]) hx hb d_M_findZeros_42 rfl hl (by decide) rfl (fun ls hl => ?_)
      refine lv_iconst (v := nI 0) hx hb d_M_findZeros_43 (by decide) ?_
      refine lv_istore_n (lv' := [(3, .int (nI 0)), (2, .int (nI (RC 2))), (1, .int (nI (RC 1))), (0, .ref o)]) hx hb d_M_findZeros_44 rfl hl (by decide) rfl (fun ls hl => ?_)
      refine lp_M_fz1 (B := S) (o := o) (te := te) (tp := tp) (tn := tn) (ro := ro) (rm := rm) (ze := ze) (n := n) (nl := nl) (mv1 := mv1) (mv2 := mv2) (mv3 := mv3) (mv4 := mv4) (mv9 := mv9) (mv10 := mv10) (mv11 := mv11) (mv12 := mv12) (mv13 := mv13) (mv14 := mv14) (mv15 := mv15) (mv16 := mv16) (mv17 := mv17) (mv18 := mv18) (mv23 := mv23) (mv24 := mv24) (mv25 := mv25) (mv26 := mv26) (mv27 := mv27) (mv28 := mv28) (mv29 := mv29) (mv30 := mv30) (tf := tf) (tpf := tpf) (tnf := tnf) (hf := hf) (hif := hif) (h := h) (z := z) (mo := mo) (co := co) (z2 := z2) (mo2 := mo2) (co2 := co2) (ld := ld) (RO := RO) (RMf := RMf) (RT := RT) (RC := RC) hx hb hml hg hown hK (Nat.le_of_ble_eq_true rfl) (Nat.le_of_ble_eq_true rfl) (Nat.le_of_ble_eq_true rfl) (Nat.le_of_ble_eq_true rfl) hM hnl hnl1 hRC hRT hRM hZb (RC 0) 0 0 ZM S1 H2 _ ls (by omega) ⟨fun _ => 0, by rw [Nat.zero_mul, Nat.zero_mul]; exact colS_0 _ _, fun r hr => absurd hr (Nat.not_lt_zero r)⟩ h_o h_te h_tp h_tn h_ro h_rm h_ze hfr hI (lv_sub hl [0, 1, 2, 3] rfl) (fun zc ZM1 S15 H16 locs ls hzk j_o j_te j_tp j_tn j_ro j_rm j_ze hfr hI hl => ?_)
      refine mp_vret hx hb hr hlocks hI (Nat.le_of_ble_eq_true rfl) (Nat.le_of_ble_eq_true rfl) ?_ d_M_findZeros_185
      exact ⟨zc, ZM1, hzk, j_o, j_ze, hfr⟩
    · rw [nI_leI (by omega) (by omega)] at c2
      refine lv_aload_n hx hb d_M_findZeros_32 rfl (lv_at hl 1 rfl) ?_
      refine mp_get (C := R_M) (T := F_M) (N := 31) (v := .ref rm) hx hb hg i_M hown hK.va hI h_o rfl 19 (by decide) (hg _ q_823) (fun _ h9 => h9) rfl d_M_findZeros_33 ?_
      refine lv_iconst (v := nI 2) hx hb d_M_findZeros_36 (by decide) ?_
      refine mp_iald hx hb hK.va hI 0 h_rm rfl (vp_in_nI (show 2 < 3 by omega) (by omega)) d_M_findZeros_37 ?_
      refine lv_topi (fun v17 ev17 => ?_)
      obtain rfl : v17 = nI (RMf 2) := ev17.trans (by rw [nI_clamp (by omega)])
      refine lv_topi (fun v18 ev18 => ?_)
      obtain rfl : v18 = nI (RC 2) := ev18.trans (by rw [← hm2, if_pos (by omega)])
      refine lv_goto (tgt := 42) hx hb d_M_findZeros_38 (by decide) ?_
      refine lv_istore_n (lv' := [(2, .int (nI (RC 2))), (1, .int (nI (RC 1))), (0, .ref o)]) hx hb d_M_findZeros_42 rfl hl (by decide) rfl (fun ls hl => ?_)
      refine lv_iconst (v := nI 0) hx hb d_M_findZeros_43 (by decide) ?_
      refine lv_istore_n (lv' := [(3, .int (nI 0)), (2, .int (nI (RC 2))), (1, .int (nI (RC 1))), (0, .ref o)]) hx hb d_M_findZeros_44 rfl hl (by decide) rfl (fun ls hl => ?_)
      refine lp_M_fz1 (B := S) (o := o) (te := te) (tp := tp) (tn := tn) (ro := ro) (rm := rm) (ze := ze) (n := n) (nl := nl) (mv1 := mv1) (mv2 := mv2) (mv3 := mv3) (mv4 := mv4) (mv9 := mv9) (mv10 := mv10) (mv11 := mv11) (mv12 := mv12) (mv13 := mv13) (mv14 := mv14) (mv15 := mv15) (mv16 := mv16) (mv17 := mv17) (mv18 := mv18) (mv23 := mv23) (mv24 := mv24) (mv25 := mv25) (mv26 := mv26) (mv27 := mv27) (mv28 := mv28) (mv29 := mv29) (mv30 := mv30) (tf := tf) (tpf := tpf) (tnf := tnf) (hf := hf) (hif := hif) (h := h) (z := z) (mo := mo) (co := co) (z2 := z2) (mo2 := mo2) (co2 := co2) (ld := ld) (RO := RO) (RMf := RMf) (RT := RT) (RC := RC) hx hb hml hg hown hK (Nat.le_of_ble_eq_true rfl) (Nat.le_of_ble_eq_true rfl) (Nat.le_of_ble_eq_true rfl) (Nat.le_of_ble_eq_true rfl) hM hnl hnl1 hRC hRT hRM hZb (RC 0) 0 0 ZM S1 H2 _ ls (by omega) ⟨fun _ => 0, by rw [Nat.zero_mul, Nat.zero_mul]; exact colS_0 _ _, fun r hr => absurd hr (Nat.not_lt_zero r)⟩ h_o h_te h_tp h_tn h_ro h_rm h_ze hfr hI (lv_sub hl [0, 1, 2, 3] rfl) (fun zc ZM1 S19 H20 locs ls hzk j_o j_te j_tp j_tn j_ro j_rm j_ze hfr hI hl => ?_)
      refine mp_vret hx hb hr hlocks hI (Nat.le_of_ble_eq_true rfl) (Nat.le_of_ble_eq_true rfl) ?_ d_M_findZeros_185
      exact ⟨zc, ZM1, hzk, j_o, j_ze, hfr⟩
