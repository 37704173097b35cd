theorem pN_z {a b d : Nat} : pN a b d = 0 ↔ a = 0 ∧ b = 0 ∧ d = 0 := by unfold pN; omega
theorem bnd_al {a b d j : Nat} (ha : a ≤ 9) (hb : b ≤ 9) (hd : d ≤ 9) (hj : j < 3) : bnd j a b d ↔ (pN a b d = 0 ∨ (pN a b d ≠ 0 ∧ dN (pN a b d) = eN (pN a b d) j)) := by
  have h0 := pN_0 ha hb hd
  have h1 := pN_1 ha hb hd
  have h2 := pN_2 ha hb hd
  have hz := pN_z (a := a) (b := b) (d := d)
  have hd9 : dN (pN a b d) = a + b + d := by unfold dN pN; omega
  rw [hd9]
  rcases (show j = 0 ∨ j = 1 ∨ j = 2 by omega) with rfl | rfl | rfl
  · rw [h0]; simp only [bnd, if_true]; omega
  · rw [h1]; simp only [bnd]; simp; omega
  · rw [h2]; simp only [bnd]; simp; omega
/-- the reference's list of free letters, against the heads -/
def frM (nl n : Nat) (hA hB hC : Nat → Nat) (q9 : Nat) (FV : Nat → Int32) : Prop := ∀ q, q < q9 → (FV q = nI 1 ∧ q < nl ∧ ¬ bndL n hA hB hC q) ∨ (FV q = nI 0 ∧ ¬ (q < nl ∧ ¬ bndL n hA hB hC q))
def alM (hA hB hC : Nat → Nat) (j f : Nat) : Prop := pN (hA f) (hB f) (hC f) ≠ 0 ∧ dN (pN (hA f) (hB f) (hC f)) = eN (pN (hA f) (hB f) (hC f)) j
theorem bndL_al {n : Nat} {hA hB hC : Nat → Nat} {hf : Nat → Int32} (H : mhS n hA hB hC hf) {j : Nat} (hj : j < 3) : bndL n hA hB hC j ↔ ((∃ f, f < n ∧ pN (hA f) (hB f) (hC f) = 0) ∨ ∃ f, f < n ∧ alM hA hB hC j f) := by
  constructor
  · rintro ⟨f, hf, hb⟩
    obtain ⟨_, h1, h2, h3⟩ := H f hf
    rcases (bnd_al h1 h2 h3 hj).mp hb with q | q
    · exact Or.inl ⟨f, hf, q⟩
    · exact Or.inr ⟨f, hf, q⟩
  · rintro (⟨f, hf, q⟩ | ⟨f, hf, q⟩)
    all_goals
      obtain ⟨_, h1, h2, h3⟩ := H f hf
    · exact ⟨f, hf, (bnd_al h1 h2 h3 hj).mpr (Or.inl q)⟩
    · exact ⟨f, hf, (bnd_al h1 h2 h3 hj).mpr (Or.inr q)⟩
/-- the inner loop of lookForFree: letter j, i heads seen -/
def lkI (hA hB hC : Nat → Nat) (j i : Nat) (F0 FV : Nat → Int32) : Prop := (∀ q, q ≠ j → FV q = F0 q) ∧ ((FV j = F0 j ∧ ∀ f, f < i → ¬ alM hA hB hC j f) ∨ (FV j = nI 0 ∧ ∃ f, f < i ∧ alM hA hB hC j f))
theorem lkI_0 (hA hB hC : Nat → Nat) (j : Nat) (F0 : Nat → Int32) : lkI hA hB hC j 0 F0 F0 := ⟨fun _ _ => rfl, Or.inl ⟨rfl, fun f hf => absurd hf (Nat.not_lt_zero f)⟩⟩
theorem lkI_y {hA hB hC : Nat → Nat} {j i : Nat} {F0 FV : Nat → Int32} (h : lkI hA hB hC j i F0 FV) (ha : alM hA hB hC j i) : lkI hA hB hC j (i + 1) F0 (upd FV j (nI 0)) := by
  refine ⟨fun q hq => ?_, Or.inr ⟨?_, i, Nat.lt_succ_self i, ha⟩⟩
  · rw [← h.1 q hq]; simp [upd, hq]
  · simp [upd]
theorem lkI_n {hA hB hC : Nat → Nat} {j i : Nat} {F0 FV : Nat → Int32} (h : lkI hA hB hC j i F0 FV) (ha : ¬ alM hA hB hC j i) : lkI hA hB hC j (i + 1) F0 FV := by
  refine ⟨h.1, ?_⟩
  rcases h.2 with ⟨q, r⟩ | ⟨q, f, hf, r⟩
  · exact Or.inl ⟨q, fun f hf => by by_cases e : f = i; exact e ▸ ha; exact r f (by omega)⟩
  · exact Or.inr ⟨q, f, by omega, r⟩
/-- a letter is through -/
theorem frM_s {nl n : Nat} {hA hB hC : Nat → Nat} {hf : Nat → Int32} (H : mhS n hA hB hC hf) {j : Nat} (hj : j < 3) {F0 FV : Nat → Int32} {v : Int32} (h : frM nl n hA hB hC j F0) (hk : lkI hA hB hC j n (upd F0 j v) FV) (hv : (v = nI 1 ∧ j < nl ∧ ¬ ∃ f, f < n ∧ pN (hA f) (hB f) (hC f) = 0) ∨ (v = nI 0 ∧ ¬ (j < nl ∧ ¬ ∃ f, f < n ∧ pN (hA f) (hB f) (hC f) = 0))) : frM nl n hA hB hC (j + 1) FV := by
  intro q hq
  by_cases e : q = j
  · subst e
    have h9 : upd F0 q v q = v := by simp [upd]
    rw [bndL_al H hj]
    have hk2 := hk.2
    rw [h9] at hk2
    rcases hk2 with ⟨e1, e2⟩ | ⟨e1, f, hf, e2⟩
    · rcases hv with ⟨rfl, a, b⟩ | ⟨rfl, a⟩
      · exact Or.inl ⟨e1, a, fun w => w.elim b (fun ⟨f, hf, w⟩ => e2 f hf w)⟩
      · exact Or.inr ⟨e1, fun ⟨w1, w2⟩ => a ⟨w1, fun w => w2 (Or.inl w)⟩⟩
    · exact Or.inr ⟨e1, fun ⟨_, w⟩ => w (Or.inr ⟨f, hf, e2⟩)⟩
  · rw [hk.1 q e, show upd F0 j v q = F0 q by simp [upd, e]]
    exact h q (by omega)
theorem cnt_ex {P : Nat → Prop} : ∀ {nl k : Nat}, k < cntF P nl → ∃ j, j < nl ∧ ¬ P j ∧ cntF P j = k
  | 0, k, h => by simp [cntF] at h
  | nl + 1, k, h => by
    by_cases e : P nl
    · rw [cntF_y e] at h
      obtain ⟨j, h1, h2⟩ := cnt_ex h
      exact ⟨j, by omega, h2⟩
    · rw [cntF_n e] at h
      by_cases e2 : k = cntF P nl
      · exact ⟨nl, by omega, e, e2.symm⟩
      · obtain ⟨j, h1, h2⟩ := cnt_ex (P := P) (nl := nl) (k := k) (by omega)
        exact ⟨j, by omega, h2⟩
theorem cnt_lt {P : Nat → Prop} {nl j : Nat} (h : j < nl) (hj : ¬ P j) : cntF P j < cntF P nl := by
  have := cntF_mono P (show j + 1 ≤ nl by omega)
  rw [cntF_n hj] at this; omega

theorem d_M_free_24 : decode b_M_free 24 = .ok (.aload_n 0, 1) := by decide +kernel
theorem d_M_free_25 : decode b_M_free 25 = .ok (.getfield 56, 3) := by decide +kernel
theorem d_M_free_28 : decode b_M_free 28 = .ok (.iload_n 3, 1) := by decide +kernel
theorem d_M_free_29 : decode b_M_free 29 = .ok (.baload, 1) := by decide +kernel
theorem d_M_free_30 : decode b_M_free 30 = .ok (.ifCond .eq 13, 3) := by decide +kernel
theorem d_M_free_33 : decode b_M_free 33 = .ok (.iload_n 2, 1) := by decide +kernel
theorem d_M_free_34 : decode b_M_free 34 = .ok (.iload_n 1, 1) := by decide +kernel
theorem d_M_free_35 : decode b_M_free 35 = .ok (.if_icmp .ne 5, 3) := by decide +kernel
theorem d_M_free_38 : decode b_M_free 38 = .ok (.iload_n 3, 1) := by decide +kernel
theorem d_M_free_39 : decode b_M_free 39 = .ok (.ireturn, 1) := by decide +kernel
theorem d_M_free_40 : decode b_M_free 40 = .ok (.iinc 2 1, 3) := by decide +kernel
theorem d_M_free_43 : decode b_M_free 43 = .ok (.iinc 3 1, 3) := by decide +kernel
theorem d_M_free_46 : decode b_M_free 46 = .ok (.goto (-37), 3) := by decide +kernel
theorem d_M_hasOne_10 : decode b_M_hasOne 10 = .ok (.aload_n 0, 1) := by decide +kernel
theorem d_M_hasOne_11 : decode b_M_hasOne 11 = .ok (.getfield 23, 3) := by decide +kernel
theorem d_M_hasOne_14 : decode b_M_hasOne 14 = .ok (.iload_n 1, 1) := by decide +kernel
theorem d_M_hasOne_15 : decode b_M_hasOne 15 = .ok (.iaload, 1) := by decide +kernel
theorem d_M_hasOne_16 : decode b_M_hasOne 16 = .ok (.ifCond .ne 5, 3) := by decide +kernel
theorem d_M_hasOne_19 : decode b_M_hasOne 19 = .ok (.iconst 1, 1) := by decide +kernel
theorem d_M_hasOne_20 : decode b_M_hasOne 20 = .ok (.ireturn, 1) := by decide +kernel
theorem d_M_hasOne_21 : decode b_M_hasOne 21 = .ok (.iinc 1 1, 3) := by decide +kernel
theorem d_M_hasOne_24 : decode b_M_hasOne 24 = .ok (.goto (-22), 3) := by decide +kernel
theorem d_M_isFinite_21 : decode b_M_isFinite 21 = .ok (.iinc 1 1, 3) := by decide +kernel
theorem d_M_isFinite_24 : decode b_M_isFinite 24 = .ok (.goto (-22), 3) := by decide +kernel
theorem d_M_isFinite_27 : decode b_M_isFinite 27 = .ok (.iconst 1, 1) := by decide +kernel
theorem d_M_isFinite_28 : decode b_M_isFinite 28 = .ok (.ireturn, 1) := by decide +kernel
theorem d_M_lookForFree_43 : decode b_M_lookForFree 43 = .ok (.aload_n 0, 1) := by decide +kernel
theorem d_M_lookForFree_44 : decode b_M_lookForFree 44 = .ok (.getfield 23, 3) := by decide +kernel
theorem d_M_lookForFree_47 : decode b_M_lookForFree 47 = .ok (.iload_n 2, 1) := by decide +kernel
theorem d_M_lookForFree_48 : decode b_M_lookForFree 48 = .ok (.iaload, 1) := by decide +kernel
theorem d_M_lookForFree_49 : decode b_M_lookForFree 49 = .ok (.iload_n 1, 1) := by decide +kernel
theorem d_M_lookForFree_50 : decode b_M_lookForFree 50 = .ok (.invokestatic 168, 3) := by decide +kernel
theorem d_M_lookForFree_53 : decode b_M_lookForFree 53 = .ok (.ifCond .eq 10, 3) := by decide +kernel
theorem d_M_lookForFree_56 : decode b_M_lookForFree 56 = .ok (.aload_n 0, 1) := by decide +kernel
theorem d_M_lookForFree_57 : decode b_M_lookForFree 57 = .ok (.getfield 56, 3) := by decide +kernel
theorem d_M_lookForFree_60 : decode b_M_lookForFree 60 = .ok (.iload_n 1, 1) := by decide +kernel
theorem d_M_lookForFree_61 : decode b_M_lookForFree 61 = .ok (.iconst 0, 1) := by decide +kernel
theorem d_M_lookForFree_62 : decode b_M_lookForFree 62 = .ok (.bastore, 1) := by decide +kernel
theorem d_M_lookForFree_63 : decode b_M_lookForFree 63 = .ok (.iinc 2 1, 3) := by decide +kernel
theorem d_M_lookForFree_66 : decode b_M_lookForFree 66 = .ok (.goto (-31), 3) := by decide +kernel
set_option maxHeartbeats 4000000 in
set_option maxRecDepth 100000 in
theorem lp_M_hasOne {p : Program} {l : Launch} {e : Env} {R : Room} {s : State} {m : MethodId} {args : Array Value} {below : List Frame} {meth : Method} {c : Code} {Q : State → Prop} {D : mp_G} {g : Nat → ClassId} {A : Nat → Prop} {cells slots : Nat} (hx : p.tables.exec = Jvm.exec) (hb : c.code = b_M_hasOne) (hml : c.maxLocals = 2) (hg : ∀ w ∈ gw, w.before args s = true) (hown : s.vm.findClass R_M = some m.cls) (hK : mp_K D classes (tys g) s) (hRf : 0 ≤ R.frames) (hRl : 0 ≤ R.locals) (hRc : cells ≤ R.cells) (hRs : slots ≤ R.slots) {B : mp_M} {o hd n : Nat} {mv0 mv1 mv2 mv3 mv4 mv6 mv7 mv8 mv10 mv11 mv12 mv13 mv14 mv15 mv16 mv17 mv18 mv19 mv20 mv21 mv22 mv23 mv24 mv25 mv26 mv27 mv28 mv29 mv30 : Value} {hf : Nat → Int32} {hA hB hC : Nat → Nat} (hh : mhS n hA hB hC hf) (hn : n ≤ 12) : ∀ (k : Nat) (i : Nat) (S : mp_M) (H : Heap) (locs : List Loc) (ls : Array Slot), i + k = n → (∀ j, j < i → (pN (hA j) (hB j) (hC j)) ≠ 0) → S o = some (2000, .inr (10, [mv0, mv1, mv2, mv3, mv4, .int (nI n), mv6, mv7, mv8, .ref hd, mv10, mv11, mv12, mv13, mv14, mv15, mv16, mv17, mv18, mv19, mv20, mv21, mv22, mv23, mv24, mv25, mv26, mv27, mv28, mv29, mv30])) → S hd = some (2005, .inl ((g 0), 12, .inl hf)) → (∀ b t e9, B b = some (t, e9) → S b = some (t, e9)) → mp_I D classes A s.heap S H locs → lv_has ls 2 [(1, .int (nI i)), (0, .ref o)] → (∀ (S : mp_M) (H : Heap) (locs : List Loc) (ls : Array Slot), (∀ j, j < n → (pN (hA j) (hB j) (hC j)) ≠ 0) → S o = some (2000, .inr (10, [mv0, mv1, mv2, mv3, mv4, .int (nI n), mv6, mv7, mv8, .ref hd, mv10, mv11, mv12, mv13, mv14, mv15, mv16, mv17, mv18, mv19, mv20, mv21, mv22, mv23, mv24, mv25, mv26, mv27, mv28, mv29, mv30])) → S hd = some (2005, .inl ((g 0), 12, .inl hf)) → (∀ b t e9, B b = some (t, e9) → S b = some (t, e9)) → mp_I D classes A s.heap S H locs → lv_has ls 2 [(1, .int (nI n)), (0, .ref o)] → W p l e R s m args below meth c H locs cells slots Q (F0 m 27 ls [])) → (∀ (S : mp_M) (H : Heap) (locs : List Loc) (ls : Array Slot), (∃ f, f < n ∧ (pN (hA f) (hB f) (hC f)) = 0) → S o = some (2000, .inr (10, [mv0, mv1, mv2, mv3, mv4, .int (nI n), mv6, mv7, mv8, .ref hd, mv10, mv11, mv12, mv13, mv14, mv15, mv16, mv17, mv18, mv19, mv20, mv21, mv22, mv23, mv24, mv25, mv26, mv27, mv28, mv29, mv30])) → S hd = some (2005, .inl ((g 0), 12, .inl hf)) → (∀ b t e9, B b = some (t, e9) → S b = some (t, e9)) → mp_I D classes A s.heap S H locs → lv_has ls 2 [(0, .ref o)] → W p l e R s m args below meth c H locs cells slots Q (F0 m 19 ls [])) → W p l e R s m args below meth c H locs cells slots Q (F0 m 2 ls []) := by
  intro k
  induction k with
  | zero =>
    intro i S H locs ls hi hz h_o h_hd hfr hI hl kx ky
    refine lv_iload_n hx hb d_M_hasOne_2 rfl (lv_at hl 0 rfl) ?_
    refine lv_aload_n hx hb d_M_hasOne_3 rfl (lv_at hl 1 rfl) ?_
    refine mp_get (C := R_M) (T := F_M) (N := 31) (v := .int (nI n)) hx hb hg i_M hown hK.va hI h_o rfl 5 (by decide) (hg _ q_809) (fun _ h9 => h9) rfl d_M_hasOne_4 ?_
    refine lv_icmp_ge (tgt := 27) hx hb d_M_hasOne_7 (by decide) (fun _ => ?_) (fun h9 => absurd ((nI_leI (by omega) (by omega)).mpr (by omega)) h9)
    obtain rfl : i = n := by omega
    exact kx S H locs ls hz h_o h_hd hfr hI (lv_sub hl [0, 1] rfl)
  | succ k ih =>
    intro i S H locs ls hi hz h_o h_hd hfr hI hl kx ky
    obtain ⟨he, k1, k2, k3⟩ := hh i (by omega)
    have hp9 := pN_lt k1 k2 k3
    refine lv_iload_n hx hb d_M_hasOne_2 rfl (lv_at hl 0 rfl) ?_
    refine lv_aload_n hx hb d_M_hasOne_3 rfl (lv_at hl 1 rfl) ?_
    refine mp_get (C := R_M) (T := F_M) (N := 31) (v := .int (nI n)) hx hb hg i_M hown hK.va hI h_o rfl 5 (by decide) (hg _ q_809) (fun _ h9 => h9) rfl d_M_hasOne_4 ?_
    refine lv_icmp_ge (tgt := 27) hx hb d_M_hasOne_7 (by decide) (fun h9 => absurd h9 (by rw [nI_leI (by omega) (by omega)]; omega)) (fun _ => ?_)
    refine lv_aload_n hx hb d_M_hasOne_10 rfl (lv_at hl 1 rfl) ?_
    refine mp_get (C := R_M) (T := F_M) (N := 31) (v := .ref hd) hx hb hg i_M hown hK.va hI h_o rfl 9 (by decide) (hg _ q_813) (fun _ h9 => h9) rfl d_M_hasOne_11 ?_
    refine lv_iload_n hx hb d_M_hasOne_14 rfl (lv_at hl 0 rfl) ?_
    refine mp_iald hx hb hK.va hI 0 h_hd rfl (vp_in_nI (show i < 12 by omega) (by omega)) d_M_hasOne_15 ?_
    refine lv_topi (fun v1 ev1 => ?_)
    obtain rfl : v1 = nI (pN (hA i) (hB i) (hC i)) := ev1.trans (by rw [nI_clamp (by omega)]; exact he)
    refine lv_if_ne (tgt := 21) hx hb d_M_hasOne_16 (by decide) (fun c1 => ?_) (fun c1 => ?_)
    · rw [zI_eq (by omega)] at c1
      refine lv_iinc (v := nI (i + 1)) (lv' := [(1, .int (nI (i + 1))), (0, .ref o)]) hx hb d_M_hasOne_21 hl (k := 0) rfl (nI_1 _) (by decide) rfl (fun ls hl => ?_)
      refine lv_goto (tgt := 2) hx hb d_M_hasOne_24 (by decide) ?_
      exact ih (i + 1) S H locs ls (by omega) (fun j hj => by by_cases e9 : j = i; exact (by rw [e9]; exact c1); exact hz j (by omega)) h_o h_hd hfr hI (lv_sub hl [0, 1] rfl) kx ky
    · rw [zI_eq (by omega)] at c1
      exact ky S H locs ls ⟨i, by omega, c1⟩ h_o h_hd hfr hI (lv_sub hl [1] rfl)
set_option maxHeartbeats 4000000 in
set_option maxRecDepth 100000 in
/-- whether a head is 1, in the reference -/
theorem c_M_hasOne (l : Launch) (D : mp_G) (g : Nat → ClassId) (S : mp_M) (sz : Nat) (o hd n : Nat) (mv0 mv1 mv2 mv3 mv4 mv6 mv7 mv8 mv10 mv11 mv12 mv13 mv14 mv15 mv16 mv17 mv18 mv19 mv20 mv21 mv22 mv23 mv24 mv25 mv26 mv27 mv28 mv29 mv30 : Value) (hf : Nat → Int32) (hA hB hC : Nat → Nat) (h_o : S o = some (2000, .inr (10, [mv0, mv1, mv2, mv3, mv4, .int (nI n), mv6, mv7, mv8, .ref hd, mv10, mv11, mv12, mv13, mv14, mv15, mv16, mv17, mv18, mv19, mv20, mv21, mv22, mv23, mv24, mv25, mv26, mv27, mv28, mv29, mv30]))) (h_hd : S hd = some (2005, .inl ((g 0), 12, .inl hf))) (hh : mhS n hA hB hC hf) (hn : n ≤ 12) : Met l y_M_hasOne w_M_hasOne ({ frames := 0, cells := 0, slots := 0, locals := 0 }) (va_Pc [.ref o] (mp_B0 D classes (tys g) S sz)) (va_Qi (fun (r : Int32) (S1 : mp_M) => ((r = 1 ∧ ∃ f, f < n ∧ (pN (hA f) (hB f) (hC f)) = 0) ∨ (r = 0 ∧ ¬ ∃ f, f < n ∧ (pN (hA f) (hB f) (hC f)) = 0)) ∧ (∀ b t e9, S b = some (t, e9) → S1 b = some (t, e9))) (mp_B1 D classes S sz) (mp_A S sz)) 0 0 (mp_A S sz) := by
  refine Met.ofW (cc := b_M_hasOne) (maxL := 2) (ret := (some .boolean)) (by decide) rfl ?_
  intro p e s m args below meth c s₁ B hml hv
  obtain ⟨rfl, hsz, hH, hK⟩ := hv
  have hx := B.exec
  have hb := B.bytes
  have hr := B.returns
  have hts := atoms_spec (ws := w_M_hasOne) B.pre
  have hg : ∀ w ∈ gw, w.before _ s = true := fun w h => hts w (List.mem_cons_of_mem _ h)
  have hown : s.vm.findClass R_M = some m.cls := findClass_of_methodNamed B.named
  have hlocks := B.notSynchronized
  subst hsz
  have hI := mp_I.start hH
  have hl := lv_entry ([.ref o]) (n := 2) (Nat.le_of_ble_eq_true rfl)
  rw [lg_entry_eq]
  generalize (lg_sl ([.ref o]) ++ List.replicate (2 - (lg_sl ([.ref o])).length) Slot.unset).toArray = ls at hl ⊢
  have hl : lv_has ls 2 [(0, .ref o)] := hl
  have hfr : ∀ b t e9, S b = some (t, e9) → S b = some (t, e9) := fun _ _ _ h9 => h9
  refine lv_iconst (v := nI 0) hx hb d_M_hasOne_0 (by decide) ?_
  refine lv_istore_n (lv' := [(1, .int (nI 0)), (0, .ref o)]) hx hb d_M_hasOne_1 rfl hl (by decide) rfl (fun ls hl => ?_)
  refine lp_M_hasOne (B := S) (o := o) (hd := hd) (n := n) (mv0 := mv0) (mv1 := mv1) (mv2 := mv2) (mv3 := mv3) (mv4 := mv4) (mv6 := mv6) (mv7 := mv7) (mv8 := mv8) (mv10 := mv10) (mv11 := mv11) (mv12 := mv12) (mv13 := mv13) (mv14 := mv14) (mv15 := mv15) (mv16 := mv16) (mv17 := mv17) (mv18 := mv18) (mv19 := mv19) (mv20 := mv20) (mv21 := mv21) (mv22 := mv22) (mv23 := mv23) (mv24 := mv24) (mv25 := mv25) (mv26 := mv26) (mv27 := mv27) (mv28 := mv28) (mv29 := mv29) (mv30 := mv30) (hf := hf) (hA := hA) (hB := hB) (hC := hC) hx hb hml hg hown hK (Nat.le_of_ble_eq_true rfl) (Nat.le_of_ble_eq_true rfl) (Nat.le_of_ble_eq_true rfl) (Nat.le_of_ble_eq_true rfl) hh hn n 0 S s.heap _ ls (by omega) (fun j hj => absurd hj (Nat.not_lt_zero j)) h_o h_hd hfr hI (lv_sub hl [0, 1] rfl) (fun S1 H2 locs ls hz j_o j_hd hfr hI hl => ?_) (fun S9 H9 locs ls hno j_o j_hd hfr hI hl => ?_)
  · refine lv_iconst (v := nI 0) hx hb d_M_hasOne_27 (by decide) ?_
    refine mp_zret hx hb hr hlocks hI (Nat.le_of_ble_eq_true rfl) (Nat.le_of_ble_eq_true rfl) ?_ (by decide) d_M_hasOne_28
    exact ⟨Or.inr ⟨rfl, fun ⟨f, h8, h9⟩ => hz f h8 h9⟩, hfr⟩
  · refine lv_iconst (v := nI 1) hx hb d_M_hasOne_19 (by decide) ?_
    refine mp_zret hx hb hr hlocks hI (Nat.le_of_ble_eq_true rfl) (Nat.le_of_ble_eq_true rfl) ?_ (by decide) d_M_hasOne_20
    exact ⟨Or.inl ⟨rfl, hno⟩, hfr⟩
set_option maxHeartbeats 4000000 in
set_option maxRecDepth 100000 in
theorem lp_M_look1 {p : Program} {l : Launch} {e : Env} {R : Room} {s : State} {m : MethodId} {args : Array Value} {below : List Frame} {meth : Method} {c : Code} {Q : State → Prop} {D : mp_G} {g : Nat → ClassId} {A : Nat → Prop} {cells slots : Nat} (hx : p.tables.exec = Jvm.exec) (hb : c.code = b_M_lookForFree) (hml : c.maxLocals = 3) (hg : ∀ w ∈ gw, w.before args s = true) (hown : s.vm.findClass R_M = some m.cls) (hK : mp_K D classes (tys g) s) (hRf : 3 ≤ R.frames) (hRl : 62 ≤ R.locals) (hRc : cells ≤ R.cells) (hRs : slots ≤ R.slots) {B : mp_M} {o hd fa n nl : Nat} {mv1 mv2 mv3 mv4 mv6 mv7 mv8 mv10 mv11 mv12 mv13 mv14 mv15 mv16 mv17 mv18 mv19 mv20 mv21 mv22 mv23 mv25 mv26 mv27 mv28 mv29 mv30 : Value} {hf : Nat → Int32} {hA hB hC : Nat → Nat} {l9 : Nat} {G0 : Nat → Int32} (hh : mhS n hA hB hC hf) (hn : n ≤ 12) (hnl : nl ≤ 3) (hl9 : l9 < 3) : ∀ (k : Nat) (i : Nat) (FV : Nat → Int32) (S : mp_M) (H : Heap) (locs : List Loc) (ls : Array Slot), i + k = n → (lkI hA hB hC l9 i G0 FV) → S o = some (2000, .inr (10, [.int (nI nl), mv1, mv2, mv3, mv4, .int (nI n), mv6, mv7, mv8, .ref hd, mv10, mv11, mv12, mv13, mv14, mv15, mv16, mv17, mv18, mv19, mv20, mv21, mv22, mv23, .ref fa, mv25, mv26, mv27, mv28, mv29, mv30])) → S hd = some (2005, .inl ((g 0), 12, .inl hf)) → S fa = some (2016, .inl ((g 5), 3, .inl FV)) → (∀ b t e9, B b = some (t, e9) → (t ≠ 2016) → S b = some (t, e9)) → mp_I D classes A s.heap S H locs → lv_has ls 3 [(2, .int (nI i)), (1, .int (nI l9)), (0, .ref o)] → (∀ (FV : Nat → Int32) (S : mp_M) (H : Heap) (locs : List Loc) (ls : Array Slot), (lkI hA hB hC l9 n G0 FV) → S o = some (2000, .inr (10, [.int (nI nl), mv1, mv2, mv3, mv4, .int (nI n), mv6, mv7, mv8, .ref hd, mv10, mv11, mv12, mv13, mv14, mv15, mv16, mv17, mv18, mv19, mv20, mv21, mv22, mv23, .ref fa, mv25, mv26, mv27, mv28, mv29, mv30])) → S hd = some (2005, .inl ((g 0), 12, .inl hf)) → S fa = some (2016, .inl ((g 5), 3, .inl FV)) → (∀ b t e9, B b = some (t, e9) → (t ≠ 2016) → S b = some (t, e9)) → mp_I D classes A s.heap S H locs → lv_has ls 3 [(2, .int (nI n)), (1, .int (nI l9)), (0, .ref o)] → W p l e R s m args below meth c H locs cells slots Q (F0 m 69 ls [])) → W p l e R s m args below meth c H locs cells slots Q (F0 m 35 ls []) := by
  intro k
  induction k with
  | zero =>
    intro i FV S H locs ls hi hk9 h_o h_hd h_fa hfr hI hl kx
    refine lv_iload_n hx hb d_M_lookForFree_35 rfl (lv_at hl 0 rfl) ?_
    refine lv_aload_n hx hb d_M_lookForFree_36 rfl (lv_at hl 2 rfl) ?_
    refine mp_get (C := R_M) (T := F_M) (N := 31) (v := .int (nI n)) hx hb hg i_M hown hK.va hI h_o rfl 5 (by decide) (hg _ q_809) (fun _ h9 => h9) rfl d_M_lookForFree_37 ?_
    refine lv_icmp_ge (tgt := 69) hx hb d_M_lookForFree_40 (by decide) (fun _ => ?_) (fun h9 => absurd ((nI_leI (by omega) (by omega)).mpr (by omega)) h9)
    obtain rfl : i = n := by omega
    exact kx FV S H locs ls hk9 h_o h_hd h_fa hfr hI (lv_sub hl [0, 1, 2] rfl)
  | succ k ih =>
    intro i FV S H locs ls hi hk9 h_o h_hd h_fa hfr hI hl kx
    obtain ⟨he, k1, k2, k3⟩ := hh i (by omega)
    have hp9 := pN_lt k1 k2 k3
    refine lv_iload_n hx hb d_M_lookForFree_35 rfl (lv_at hl 0 rfl) ?_
    refine lv_aload_n hx hb d_M_lookForFree_36 rfl (lv_at hl 2 rfl) ?_
    refine mp_get (C := R_M) (T := F_M) (N := 31) (v := .int (nI n)) hx hb hg i_M hown hK.va hI h_o rfl 5 (by decide) (hg _ q_809) (fun _ h9 => h9) rfl d_M_lookForFree_37 ?_
    refine lv_icmp_ge (tgt := 69) hx hb d_M_lookForFree_40 (by decide) (fun h9 => absurd h9 (by rw [nI_leI (by omega) (by omega)]; omega)) (fun _ => ?_)
    refine lv_aload_n hx hb d_M_lookForFree_43 rfl (lv_at hl 2 rfl) ?_
    refine mp_get (C := R_M) (T := F_M) (N := 31) (v := .ref hd) hx hb hg i_M hown hK.va hI h_o rfl 9 (by decide) (hg _ q_813) (fun _ h9 => h9) rfl d_M_lookForFree_44 ?_
    refine lv_iload_n hx hb d_M_lookForFree_47 rfl (lv_at hl 0 rfl) ?_
    refine mp_iald hx hb hK.va hI 0 h_hd rfl (vp_in_nI (show i < 12 by omega) (by omega)) d_M_lookForFree_48 ?_
    refine lv_topi (fun v1 ev1 => ?_)
    obtain rfl : v1 = nI (pN (hA i) (hB i) (hC i)) := ev1.trans (by rw [nI_clamp (by omega)]; exact he)
    refine lv_iload_n hx hb d_M_lookForFree_49 rfl (lv_at hl 1 rfl) ?_
    refine mp_calli hI (va_runS (As := [.int (nI (pN (hA i) (hB i) (hC i))), .int (nI l9)]) (rest := []) ⟨hx, hb, hml, hown, hg⟩ (c_M_isAlone l D g S _ (pN (hA i) (hB i) (hC i)) l9 (by omega) hl9) ⟨(callB_of 2 hg (wd_goodG q_962) rfl rfl rfl (hg _ q_5) (hg _ q_960) (by decide +kernel) ⟨Nat.le_trans (Nat.le_of_ble_eq_true rfl) hRf, Nat.le_trans (Nat.le_of_ble_eq_true rfl) hRl⟩), hg _ q_961⟩ (mp_pre hI hK [.int (nI (pN (hA i) (hB i) (hC i))), .int (nI l9)]) rfl rfl hl.1 rfl (lv_room (Nat.le_of_ble_eq_true rfl)) d_M_lookForFree_50 ⟨by omega, by omega⟩) (fun r5 S2 H3 locs p_4 hI => ?_)
    obtain ⟨er5, eS6⟩ := p_4
    rw [eS6] at hI
    rcases er5 with ⟨hal, rfl⟩ | ⟨hal, rfl⟩
    · refine lv_if_eq (tgt := 63) hx hb d_M_lookForFree_53 (by decide) (fun h9 => absurd h9 (by decide)) (fun _ => ?_)
      refine lv_aload_n hx hb d_M_lookForFree_56 rfl (lv_at hl 2 rfl) ?_
      refine mp_get (C := R_M) (T := F_M) (N := 31) (v := .ref fa) hx hb hg i_M hown hK.va hI h_o rfl 24 (by decide) (hg _ q_828) (fun _ h9 => h9) rfl d_M_lookForFree_57 ?_
      refine lv_iload_n hx hb d_M_lookForFree_60 rfl (lv_at hl 1 rfl) ?_
      refine lv_iconst (v := nI 0) hx hb d_M_lookForFree_61 (by decide) ?_
      refine mp_zast hx hb hK.va hI 5 h_fa rfl (vp_in_nI (show l9 < 3 by omega) (by omega)) d_M_lookForFree_62 (fun S7 H8 locs e_9 hI => ?_)
      have h_fa_o := h_fa
      have e_9 : S7 = va_up S fa (some (2016, .inl ((g 5), 3, .inl (upd FV (nI l9).toNatClampNeg (vp_nar .boolean (nI 0)))))) := e_9
      have h_o : S7 o = some (2000, .inr (10, [.int (nI nl), mv1, mv2, mv3, mv4, .int (nI n), mv6, mv7, mv8, .ref hd, mv10, mv11, mv12, mv13, mv14, mv15, mv16, mv17, mv18, mv19, mv20, mv21, mv22, mv23, .ref fa, mv25, mv26, mv27, mv28, mv29, mv30])) := by rw [e_9]; exact mp_keep h_o h_fa (by decide)
      have h_hd : S7 hd = some (2005, .inl ((g 0), 12, .inl hf)) := by rw [e_9]; exact mp_keep h_hd h_fa (by decide)
      have h_fa : S7 fa = some (2016, .inl ((g 5), 3, .inl (upd FV (nI l9).toNatClampNeg (vp_nar .boolean (nI 0))))) := by rw [e_9]; exact mp_us _ _ _
      have hfr : ∀ b t e9, B b = some (t, e9) → (t ≠ 2016) → S7 b = some (t, e9) := fun b t e9 h9 k0 => by rw [e_9]; exact mp_keep (hfr b t e9 h9 k0) h_fa_o (by omega)
      have e9h_fa : (upd FV (nI l9).toNatClampNeg (vp_nar .boolean (nI 0))) = (upd FV l9 (nI 0)) := by rw [nI_clamp (by omega)]; rfl
      rw [e9h_fa] at h_fa
      refine lv_iinc (v := nI (i + 1)) (lv' := [(2, .int (nI (i + 1))), (1, .int (nI l9)), (0, .ref o)]) hx hb d_M_lookForFree_63 hl (k := 0) rfl (nI_1 _) (by decide) rfl (fun ls hl => ?_)
      refine lv_goto (tgt := 35) hx hb d_M_lookForFree_66 (by decide) ?_
      exact ih (i + 1) (upd FV l9 (nI 0)) S7 H8 locs ls (by omega) (lkI_y hk9 hal) h_o h_hd h_fa hfr hI (lv_sub hl [0, 1, 2] rfl) kx
    · refine lv_if_eq (tgt := 63) hx hb d_M_lookForFree_53 (by decide) (fun _ => ?_) (fun h9 => absurd (by decide) h9)
      refine lv_iinc (v := nI (i + 1)) (lv' := [(2, .int (nI (i + 1))), (1, .int (nI l9)), (0, .ref o)]) hx hb d_M_lookForFree_63 hl (k := 0) rfl (nI_1 _) (by decide) rfl (fun ls hl => ?_)
      refine lv_goto (tgt := 35) hx hb d_M_lookForFree_66 (by decide) ?_
      exact ih (i + 1) FV S H3 locs ls (by omega) (lkI_n hk9 hal) h_o h_hd h_fa hfr hI (lv_sub hl [0, 1, 2] rfl) kx
set_option maxHeartbeats 4000000 in
set_option maxRecDepth 100000 in
theorem lp_M_look2 {p : Program} {l : Launch} {e : Env} {R : Room} {s : State} {m : MethodId} {args : Array Value} {below : List Frame} {meth : Method} {c : Code} {Q : State → Prop} {D : mp_G} {g : Nat → ClassId} {A : Nat → Prop} {cells slots : Nat} (hx : p.tables.exec = Jvm.exec) (hb : c.code = b_M_lookForFree) (hml : c.maxLocals = 3) (hg : ∀ w ∈ gw, w.before args s = true) (hown : s.vm.findClass R_M = some m.cls) (hK : mp_K D classes (tys g) s) (hRf : 3 ≤ R.frames) (hRl : 62 ≤ R.locals) (hRc : cells ≤ R.cells) (hRs : slots ≤ R.slots) {B : mp_M} {o hd fa n nl : Nat} {mv1 mv2 mv3 mv4 mv6 mv7 mv8 mv10 mv11 mv12 mv13 mv14 mv15 mv16 mv17 mv18 mv19 mv20 mv21 mv22 mv23 mv25 mv26 mv27 mv28 mv29 mv30 : Value} {hf : Nat → Int32} {hA hB hC : Nat → Nat} (hh : mhS n hA hB hC hf) (hn : n ≤ 12) (hnl : nl ≤ 3) : ∀ (k : Nat) (i : Nat) (FV : Nat → Int32) (S : mp_M) (H : Heap) (locs : List Loc) (ls : Array Slot), i + k = 3 → (frM nl n hA hB hC i FV) → S o = some (2000, .inr (10, [.int (nI nl), mv1, mv2, mv3, mv4, .int (nI n), mv6, mv7, mv8, .ref hd, mv10, mv11, mv12, mv13, mv14, mv15, mv16, mv17, mv18, mv19, mv20, mv21, mv22, mv23, .ref fa, mv25, mv26, mv27, mv28, mv29, mv30])) → S hd = some (2005, .inl ((g 0), 12, .inl hf)) → S fa = some (2016, .inl ((g 5), 3, .inl FV)) → (∀ b t e9, B b = some (t, e9) → (t ≠ 2016) → S b = some (t, e9)) → mp_I D classes A s.heap S H locs → lv_has ls 3 [(1, .int (nI i)), (0, .ref o)] → (∀ (FV : Nat → Int32) (S : mp_M) (H : Heap) (locs : List Loc) (ls : Array Slot), (frM nl n hA hB hC 3 FV) → S o = some (2000, .inr (10, [.int (nI nl), mv1, mv2, mv3, mv4, .int (nI n), mv6, mv7, mv8, .ref hd, mv10, mv11, mv12, mv13, mv14, mv15, mv16, mv17, mv18, mv19, mv20, mv21, mv22, mv23, .ref fa, mv25, mv26, mv27, mv28, mv29, mv30])) → S hd = some (2005, .inl ((g 0), 12, .inl hf)) → S fa = some (2016, .inl ((g 5), 3, .inl FV)) → (∀ b t e9, B b = some (t, e9) → (t ≠ 2016) → S b = some (t, e9)) → mp_I D classes A s.heap S H locs → lv_has ls 3 [(1, .int (nI 3)), (0, .ref o)] → W p l e R s m args below meth c H locs cells slots Q (F0 m 75 ls [])) → W p l e R s m args below meth c H locs cells slots Q (F0 m 2 ls []) := by
  intro k
  induction k with
  | zero =>
    intro i FV S H locs ls hi hF h_o h_hd h_fa hfr hI hl kx
    refine lv_iload_n hx hb d_M_lookForFree_2 rfl (lv_at hl 0 rfl) ?_
    refine lv_iconst (v := nI 3) hx hb d_M_lookForFree_3 (by decide) ?_
    refine lv_icmp_ge (tgt := 75) hx hb d_M_lookForFree_4 (by decide) (fun _ => ?_) (fun h9 => absurd ((nI_leI (by omega) (by omega)).mpr (by omega)) h9)
    obtain rfl : i = 3 := by omega
    exact kx FV S H locs ls hF h_o h_hd h_fa hfr hI (lv_sub hl [0, 1] rfl)
  | succ k ih =>
    intro i FV S H locs ls hi hF h_o h_hd h_fa hfr hI hl kx
    refine lv_iload_n hx hb d_M_lookForFree_2 rfl (lv_at hl 0 rfl) ?_
    refine lv_iconst (v := nI 3) hx hb d_M_lookForFree_3 (by decide) ?_
    refine lv_icmp_ge (tgt := 75) hx hb d_M_lookForFree_4 (by decide) (fun h9 => absurd h9 (by rw [nI_leI (by omega) (by omega)]; omega)) (fun _ => ?_)
    refine lv_aload_n hx hb d_M_lookForFree_7 rfl (lv_at hl 1 rfl) ?_
    refine mp_get (C := R_M) (T := F_M) (N := 31) (v := .ref fa) hx hb hg i_M hown hK.va hI h_o rfl 24 (by decide) (hg _ q_828) (fun _ h9 => h9) rfl d_M_lookForFree_8 ?_
    refine lv_iload_n hx hb d_M_lookForFree_11 rfl (lv_at hl 0 rfl) ?_
    refine lv_iload_n hx hb d_M_lookForFree_12 rfl (lv_at hl 0 rfl) ?_
    refine lv_aload_n hx hb d_M_lookForFree_13 rfl (lv_at hl 1 rfl) ?_
    refine mp_get (C := R_M) (T := F_M) (N := 31) (v := .int (nI nl)) hx hb hg i_M hown hK.va hI h_o rfl 0 (by decide) (hg _ q_804) (fun _ h9 => h9) rfl d_M_lookForFree_14 ?_
    refine lv_icmp_ge (tgt := 31) hx hb d_M_lookForFree_17 (by decide) (fun c1 => ?_) (fun c1 => ?_)
    · rw [nI_leI (by omega) (by omega)] at c1
      refine lv_iconst (v := nI 0) hx hb d_M_lookForFree_31 (by decide) ?_
      refine mp_zast hx hb hK.va hI 5 h_fa rfl (vp_in_nI (show i < 3 by omega) (by omega)) d_M_lookForFree_32 (fun S1 H2 locs e_3 hI => ?_)
      have h_fa_o := h_fa
      have e_3 : S1 = va_up S fa (some (2016, .inl ((g 5), 3, .inl (upd FV (nI i).toNatClampNeg (vp_nar .boolean (nI 0)))))) := e_3
      have h_o : S1 o = some (2000, .inr (10, [.int (nI nl), mv1, mv2, mv3, mv4, .int (nI n), mv6, mv7, mv8, .ref hd, mv10, mv11, mv12, mv13, mv14, mv15, mv16, mv17, mv18, mv19, mv20, mv21, mv22, mv23, .ref fa, mv25, mv26, mv27, mv28, mv29, mv30])) := by rw [e_3]; exact mp_keep h_o h_fa (by decide)
      have h_hd : S1 hd = some (2005, .inl ((g 0), 12, .inl hf)) := by rw [e_3]; exact mp_keep h_hd h_fa (by decide)
      have h_fa : S1 fa = some (2016, .inl ((g 5), 3, .inl (upd FV (nI i).toNatClampNeg (vp_nar .boolean (nI 0))))) := by rw [e_3]; exact mp_us _ _ _
      have hfr : ∀ b t e9, B b = some (t, e9) → (t ≠ 2016) → S1 b = some (t, e9) := fun b t e9 h9 k0 => by rw [e_3]; exact mp_keep (hfr b t e9 h9 k0) h_fa_o (by omega)
      have e9h_fa : (upd FV (nI i).toNatClampNeg (vp_nar .boolean (nI 0))) = (upd FV i (nI 0)) := by rw [nI_clamp (by omega)]; rfl
      rw [e9h_fa] at h_fa
      refine lv_iconst (v := nI 0) hx hb d_M_lookForFree_33 (by decide) ?_
      refine lv_istore_n (lv' := [(2, .int (nI 0)), (1, .int (nI i)), (0, .ref o)]) hx hb d_M_lookForFree_34 rfl hl (by decide) rfl (fun ls hl => ?_)
      refine lp_M_look1 (B := B) (o := o) (hd := hd) (fa := fa) (n := n) (nl := nl) (mv1 := mv1) (mv2 := mv2) (mv3 := mv3) (mv4 := mv4) (mv6 := mv6) (mv7 := mv7) (mv8 := mv8) (mv10 := mv10) (mv11 := mv11) (mv12 := mv12) (mv13 := mv13) (mv14 := mv14) (mv15 := mv15) (mv16 := mv16) (mv17 := mv17) (mv18 := mv18) (mv19 := mv19) (mv20 := mv20) (mv21 := mv21) (mv22 := mv22) (mv23 := mv23) (mv25 := mv25) (mv26 := mv26) (mv27 := mv27) (mv28 := mv28) (mv29 := mv29) (mv30 := mv30) (hf := hf) (hA := hA) (hB := hB) (hC := hC) (l9 := i) (G0 := (upd FV i (nI 0))) hx hb hml hg hown hK (Nat.le_trans (Nat.le_of_ble_eq_true rfl) hRf) (Nat.le_trans (Nat.le_of_ble_eq_true rfl) hRl) (by omega) (by omega) hh hn hnl (by omega) n 0 (upd FV i (nI 0)) S1 H2 _ ls (by omega) (lkI_0 _ _ _ _ _) h_o h_hd h_fa hfr hI (lv_sub hl [0, 1, 2] rfl) (fun FV1 S4 H5 locs ls hk9 j_o j_hd j_fa hfr hI hl => ?_)
      refine lv_iinc (v := nI (i + 1)) (lv' := [(1, .int (nI (i + 1))), (2, .int (nI n)), (0, .ref o)]) hx hb d_M_lookForFree_69 hl (k := 1) rfl (nI_1 _) (by decide) rfl (fun ls hl => ?_)
      refine lv_goto (tgt := 2) hx hb d_M_lookForFree_72 (by decide) ?_
      exact ih (i + 1) FV1 S4 H5 locs ls (by omega) (frM_s hh (by omega) hF hk9 (Or.inr ⟨rfl, fun w9 => by omega⟩)) j_o j_hd j_fa hfr hI (lv_sub hl [0, 2] rfl) kx
    · rw [nI_leI (by omega) (by omega)] at c1
      refine lv_aload_n hx hb d_M_lookForFree_20 rfl (lv_at hl 1 rfl) ?_
      refine mp_calli hI (va_runV (As := []) (rest := [.int (nI i), .ref fa]) ⟨hx, hb, hml, hown, hg⟩ (c_M_hasOne l D g S _ o hd n (.int (nI nl)) mv1 mv2 mv3 mv4 mv6 mv7 mv8 mv10 mv11 mv12 mv13 mv14 mv15 mv16 mv17 mv18 mv19 mv20 mv21 mv22 mv23 (.ref fa) mv25 mv26 mv27 mv28 mv29 mv30 hf hA hB hC h_o h_hd hh hn) ⟨(callB_of 0 hg (wd_goodG q_959) rfl rfl rfl (hg _ q_5) (hg _ q_956) (by decide +kernel) ⟨Nat.le_trans (Nat.le_of_ble_eq_true rfl) hRf, Nat.le_trans (Nat.le_of_ble_eq_true rfl) hRl⟩), hg _ q_958, hg _ qs_27⟩ (mp_preV (C := R_M) (T := F_M) hI hK h_o rfl []) rfl rfl hl.1 rfl (lv_room (Nat.le_of_ble_eq_true rfl)) d_M_lookForFree_21 ⟨by omega, by omega⟩) (fun r9 S6 H7 locs p_8 hI => ?_)
      obtain ⟨hr9, fq⟩ := p_8
      have h_o : S6 o = some (2000, .inr (10, [.int (nI nl), mv1, mv2, mv3, mv4, .int (nI n), mv6, mv7, mv8, .ref hd, mv10, mv11, mv12, mv13, mv14, mv15, mv16, mv17, mv18, mv19, mv20, mv21, mv22, mv23, .ref fa, mv25, mv26, mv27, mv28, mv29, mv30])) := fq o _ _ h_o
      have h_hd : S6 hd = some (2005, .inl ((g 0), 12, .inl hf)) := fq hd _ _ h_hd
      have h_fa : S6 fa = some (2016, .inl ((g 5), 3, .inl FV)) := fq fa _ _ h_fa
      have hfr : ∀ b t e9, B b = some (t, e9) → (t ≠ 2016) → S6 b = some (t, e9) := fun b t e9 h9 k0 => by have h8 := hfr b t e9 h9 k0; exact fq b _ _ h8
      rcases hr9 with ⟨rfl, ho⟩ | ⟨rfl, ho⟩
      · refine lv_if_ne (tgt := 31) hx hb d_M_lookForFree_24 (by decide) (fun _ => ?_) (fun h9 => absurd h9 (by decide))
        refine lv_iconst (v := nI 0) hx hb d_M_lookForFree_31 (by decide) ?_
        refine mp_zast hx hb hK.va hI 5 h_fa rfl (vp_in_nI (show i < 3 by omega) (by omega)) d_M_lookForFree_32 (fun S10 H11 locs e_12 hI => ?_)
        have h_fa_o := h_fa
        have e_12 : S10 = va_up S6 fa (some (2016, .inl ((g 5), 3, .inl (upd FV (nI i).toNatClampNeg (vp_nar .boolean (nI 0)))))) := e_12
        have h_o : S10 o = some (2000, .inr (10, [.int (nI nl), mv1, mv2, mv3, mv4, .int (nI n), mv6, mv7, mv8, .ref hd, mv10, mv11, mv12, mv13, mv14, mv15, mv16, mv17, mv18, mv19, mv20, mv21, mv22, mv23, .ref fa, mv25, mv26, mv27, mv28, mv29, mv30])) := by rw [e_12]; exact mp_keep h_o h_fa (by decide)
        have h_hd : S10 hd = some (2005, .inl ((g 0), 12, .inl hf)) := by rw [e_12]; exact mp_keep h_hd h_fa (by decide)
        have h_fa : S10 fa = some (2016, .inl ((g 5), 3, .inl (upd FV (nI i).toNatClampNeg (vp_nar .boolean (nI 0))))) := by rw [e_12]; exact mp_us _ _ _
        have hfr : ∀ b t e9, B b = some (t, e9) → (t ≠ 2016) → S10 b = some (t, e9) := fun b t e9 h9 k0 => by rw [e_12]; exact mp_keep (hfr b t e9 h9 k0) h_fa_o (by omega)
        have e9h_fa : (upd FV (nI i).toNatClampNeg (vp_nar .boolean (nI 0))) = (upd FV i (nI 0)) := by rw [nI_clamp (by omega)]; rfl
        rw [e9h_fa] at h_fa
        refine lv_iconst (v := nI 0) hx hb d_M_lookForFree_33 (by decide) ?_
        refine lv_istore_n (lv' := [(2, .int (nI 0)), (1, .int (nI i)), (0, .ref o)]) hx hb d_M_lookForFree_34 rfl hl (by decide) rfl (fun ls hl => ?_)
        refine lp_M_look1 (B := B) (o := o) (hd := hd) (fa := fa) (n := n) (nl := nl) (mv1 := mv1) (mv2 := mv2) (mv3 := mv3) (mv4 := mv4) (mv6 := mv6) (mv7 := mv7) (mv8 := mv8) (mv10 := mv10) (mv11 := mv11) (mv12 := mv12) (mv13 := mv13) (mv14 := mv14) (mv15 := mv15) (mv16 := mv16) (mv17 := mv17) (mv18 := mv18) (mv19 := mv19) (mv20 := mv20) (mv21 := mv21) (mv22 := mv22) (mv23 := mv23) (mv25 := mv25) (mv26 := mv26) (mv27 := mv27) (mv28 := mv28) (mv29 := mv29) (mv30 := mv30) (hf := hf) (hA := hA) (hB := hB) (hC := hC) (l9 := i) (G0 := (upd FV i (nI 0))) hx hb hml hg hown hK (Nat.le_trans (Nat.le_of_ble_eq_true rfl) hRf) (Nat.le_trans (Nat.le_of_ble_eq_true rfl) hRl) (by omega) (by omega) hh hn hnl (by omega) n 0 (upd FV i (nI 0)) S10 H11 _ ls (by omega) (lkI_0 _ _ _ _ _) h_o h_hd h_fa hfr hI (lv_sub hl [0, 1, 2] rfl) (fun FV1 S13 H14 locs ls hk9 j_o j_hd j_fa hfr hI hl => ?_)
        refine lv_iinc (v := nI (i + 1)) (lv' := [(1, .int (nI (i + 1))), (2, .int (nI n)), (0, .ref o)]) hx hb d_M_lookForFree_69 hl (k := 1) rfl (nI_1 _) (by decide) rfl (fun ls hl => ?_)
        refine lv_goto (tgt := 2) hx hb d_M_lookForFree_72 (by decide) ?_
        exact ih (i + 1) FV1 S13 H14 locs ls (by omega) (frM_s hh (by omega) hF hk9 (Or.inr ⟨rfl, fun w9 => w9.2 ho⟩)) j_o j_hd j_fa hfr hI (lv_sub hl [0, 2] rfl) kx
      · refine lv_if_ne (tgt := 31) hx hb d_M_lookForFree_24 (by decide) (fun h9 => absurd h9 (by decide)) (fun _ => ?_)
        refine lv_iconst (v := nI 1) hx hb d_M_lookForFree_27 (by decide) ?_
        refine lv_goto (tgt := 32) hx hb d_M_lookForFree_28 (by decide) ?_
        refine mp_zast hx hb hK.va hI 5 h_fa rfl (vp_in_nI (show i < 3 by omega) (by omega)) d_M_lookForFree_32 (fun S15 H16 locs e_17 hI => ?_)
        have h_fa_o := h_fa
        have e_17 : S15 = va_up S6 fa (some (2016, .inl ((g 5), 3, .inl (upd FV (nI i).toNatClampNeg (vp_nar .boolean (nI 1)))))) := e_17
        have h_o : S15 o = some (2000, .inr (10, [.int (nI nl), mv1, mv2, mv3, mv4, .int (nI n), mv6, mv7, mv8, .ref hd, mv10, mv11, mv12, mv13, mv14, mv15, mv16, mv17, mv18, mv19, mv20, mv21, mv22, mv23, .ref fa, mv25, mv26, mv27, mv28, mv29, mv30])) := by rw [e_17]; exact mp_keep h_o h_fa (by decide)
        have h_hd : S15 hd = some (2005, .inl ((g 0), 12, .inl hf)) := by rw [e_17]; exact mp_keep h_hd h_fa (by decide)
        have h_fa : S15 fa = some (2016, .inl ((g 5), 3, .inl (upd FV (nI i).toNatClampNeg (vp_nar .boolean (nI 1))))) := by rw [e_17]; exact mp_us _ _ _
        have hfr : ∀ b t e9, B b = some (t, e9) → (t ≠ 2016) → S15 b = some (t, e9) := fun b t e9 h9 k0 => by rw [e_17]; exact mp_keep (hfr b t e9 h9 k0) h_fa_o (by omega)
        have e9h_fa : (upd FV (nI i).toNatClampNeg (vp_nar .boolean (nI 1))) = (upd FV i (nI 1)) := by rw [nI_clamp (by omega)]; rfl
        rw [e9h_fa] at h_fa
        refine lv_iconst (v := nI 0) hx hb d_M_lookForFree_33 (by decide) ?_
        refine lv_istore_n (lv' := [(2, .int (nI 0)), (1, .int (nI i)), (0, .ref o)]) hx hb d_M_lookForFree_34 rfl hl (by decide) rfl (fun ls hl => ?_)
        refine lp_M_look1 (B := B) (o := o) (hd := hd) (fa := fa) (n := n) (nl := nl) (mv1 := mv1) (mv2 := mv2) (mv3 := mv3) (mv4 := mv4) (mv6 := mv6) (mv7 := mv7) (mv8 := mv8) (mv10 := mv10) (mv11 := mv11) (mv12 := mv12) (mv13 := mv13) (mv14 := mv14) (mv15 := mv15) (mv16 := mv16) (mv17 := mv17) (mv18 := mv18) (mv19 := mv19) (mv20 := mv20) (mv21 := mv21) (mv22 := mv22) (mv23 := mv23) (mv25 := mv25) (mv26 := mv26) (mv27 := mv27) (mv28 := mv28) (mv29 := mv29) (mv30 := mv30) (hf := hf) (hA := hA) (hB := hB) (hC := hC) (l9 := i) (G0 := (upd FV i (nI 1))) hx hb hml hg hown hK (Nat.le_trans (Nat.le_of_ble_eq_true rfl) hRf) (Nat.le_trans (Nat.le_of_ble_eq_true rfl) hRl) (by omega) (by omega) hh hn hnl (by omega) n 0 (upd FV i (nI 1)) S15 H16 _ ls (by omega) (lkI_0 _ _ _ _ _) h_o h_hd h_fa hfr hI (lv_sub hl [0, 1, 2] rfl) (fun FV1 S18 H19 locs ls hk9 j_o j_hd j_fa hfr hI hl => ?_)
        refine lv_iinc (v := nI (i + 1)) (lv' := [(1, .int (nI (i + 1))), (2, .int (nI n)), (0, .ref o)]) hx hb d_M_lookForFree_69 hl (k := 1) rfl (nI_1 _) (by decide) rfl (fun ls hl => ?_)
        refine lv_goto (tgt := 2) hx hb d_M_lookForFree_72 (by decide) ?_
        exact ih (i + 1) FV1 S18 H19 locs ls (by omega) (frM_s hh (by omega) hF hk9 (Or.inl ⟨rfl, by omega, ho⟩)) j_o j_hd j_fa hfr hI (lv_sub hl [0, 2] rfl) kx
set_option maxHeartbeats 4000000 in
set_option maxRecDepth 100000 in
/-- the free letters, in the reference -/
theorem c_M_look (l : Launch) (D : mp_G) (g : Nat → ClassId) (S : mp_M) (sz : Nat) (o hd fa n nl : Nat) (mv1 mv2 mv3 mv4 mv6 mv7 mv8 mv10 mv11 mv12 mv13 mv14 mv15 mv16 mv17 mv18 mv19 mv20 mv21 mv22 mv23 mv25 mv26 mv27 mv28 mv29 mv30 : Value) (hf : Nat → Int32) (hA hB hC : Nat → Nat) (G0 : Nat → Int32) (h_o : S o = some (2000, .inr (10, [.int (nI nl), mv1, mv2, mv3, mv4, .int (nI n), mv6, mv7, mv8, .ref hd, mv10, mv11, mv12, mv13, mv14, mv15, mv16, mv17, mv18, mv19, mv20, mv21, mv22, mv23, .ref fa, mv25, mv26, mv27, mv28, mv29, mv30]))) (h_hd : S hd = some (2005, .inl ((g 0), 12, .inl hf))) (h_fa : S fa = some (2016, .inl ((g 5), 3, .inl G0))) (hh : mhS n hA hB hC hf) (hn : n ≤ 12) (hnl : nl ≤ 3) : Met l y_M_lookForFree w_M_lookForFree ({ frames := 3, cells := 0, slots := 0, locals := 62 }) (va_Pc [.ref o] (mp_B0 D classes (tys g) S sz)) (va_Qv (fun (S1 : mp_M) => ∃ FV : Nat → Int32, S1 fa = some (2016, .inl ((g 5), 3, .inl FV)) ∧ frM nl n hA hB hC 3 FV ∧ (∀ b t e9, S b = some (t, e9) → (t ≠ 2016) → S1 b = some (t, e9))) (mp_B1 D classes S sz) (mp_A S sz)) 0 0 (mp_A S sz) := by
  refine Met.ofW (cc := b_M_lookForFree) (maxL := 3) (ret := none) (by decide) rfl ?_
  intro p e s m args below meth c s₁ B hml hv
  obtain ⟨rfl, hsz, hH, hK⟩ := hv
  have hx := B.exec
  have hb := B.bytes
  have hr := B.returns
  have hts := atoms_spec (ws := w_M_lookForFree) B.pre
  have hg : ∀ w ∈ gw, w.before _ s = true := fun w h => hts w (List.mem_cons_of_mem _ h)
  have hown : s.vm.findClass R_M = some m.cls := findClass_of_methodNamed B.named
  have hlocks := B.notSynchronized
  subst hsz
  have hI := mp_I.start hH
  have hl := lv_entry ([.ref o]) (n := 3) (Nat.le_of_ble_eq_true rfl)
  rw [lg_entry_eq]
  generalize (lg_sl ([.ref o]) ++ List.replicate (3 - (lg_sl ([.ref o])).length) Slot.unset).toArray = ls at hl ⊢
  have hl : lv_has ls 3 [(0, .ref o)] := hl
  have hfr : ∀ b t e9, S b = some (t, e9) → (t ≠ 2016) → S b = some (t, e9) := fun _ _ _ h9 _ => h9
  refine lv_iconst (v := nI 0) hx hb d_M_lookForFree_0 (by decide) ?_
  refine lv_istore_n (lv' := [(1, .int (nI 0)), (0, .ref o)]) hx hb d_M_lookForFree_1 rfl hl (by decide) rfl (fun ls hl => ?_)
  refine lp_M_look2 (B := S) (o := o) (hd := hd) (fa := fa) (n := n) (nl := nl) (mv1 := mv1) (mv2 := mv2) (mv3 := mv3) (mv4 := mv4) (mv6 := mv6) (mv7 := mv7) (mv8 := mv8) (mv10 := mv10) (mv11 := mv11) (mv12 := mv12) (mv13 := mv13) (mv14 := mv14) (mv15 := mv15) (mv16 := mv16) (mv17 := mv17) (mv18 := mv18) (mv19 := mv19) (mv20 := mv20) (mv21 := mv21) (mv22 := mv22) (mv23 := mv23) (mv25 := mv25) (mv26 := mv26) (mv27 := mv27) (mv28 := mv28) (mv29 := mv29) (mv30 := mv30) (hf := hf) (hA := hA) (hB := hB) (hC := hC) hx hb hml hg hown hK (Nat.le_of_ble_eq_true rfl) (Nat.le_of_ble_eq_true rfl) (Nat.le_of_ble_eq_true rfl) (Nat.le_of_ble_eq_true rfl) hh hn hnl 3 0 G0 S s.heap _ ls (by omega) (fun q h9 => absurd h9 (Nat.not_lt_zero q)) h_o h_hd h_fa hfr hI (lv_sub hl [0, 1] rfl) (fun FV S1 H2 locs ls hF j_o j_hd j_fa hfr hI hl => ?_)
  refine mp_vret hx hb hr hlocks hI (Nat.le_of_ble_eq_true rfl) (Nat.le_of_ble_eq_true rfl) ?_ d_M_lookForFree_75
  exact ⟨FV, j_fa, hF, hfr⟩
set_option maxHeartbeats 4000000 in
set_option maxRecDepth 100000 in
theorem lp_M_isFinite {p : Program} {l : Launch} {e : Env} {R : Room} {s : State} {m : MethodId} {args : Array Value} {below : List Frame} {meth : Method} {c : Code} {Q : State → Prop} {D : mp_G} {g : Nat → ClassId} {A : Nat → Prop} {cells slots : Nat} (hx : p.tables.exec = Jvm.exec) (hb : c.code = b_M_isFinite) (hml : c.maxLocals = 2) (hg : ∀ w ∈ gw, w.before args s = true) (hown : s.vm.findClass R_M = some m.cls) (hK : mp_K D classes (tys g) s) (hRf : 0 ≤ R.frames) (hRl : 0 ≤ R.locals) (hRc : cells ≤ R.cells) (hRs : slots ≤ R.slots) {B : mp_M} {o fa n nl : Nat} {mv1 mv2 mv3 mv4 mv5 mv6 mv7 mv8 mv9 mv10 mv11 mv12 mv13 mv14 mv15 mv16 mv17 mv18 mv19 mv20 mv21 mv22 mv23 mv25 mv26 mv27 mv28 mv29 mv30 : Value} {hA hB hC : Nat → Nat} {FV : Nat → Int32} (hnl : nl ≤ 3) (hF : frM nl n hA hB hC 3 FV) : ∀ (k : Nat) (i : Nat) (S : mp_M) (H : Heap) (locs : List Loc) (ls : Array Slot), i + k = nl → (∀ j, j < i → bndL n hA hB hC j) → S o = some (2000, .inr (10, [.int (nI nl), mv1, mv2, mv3, mv4, mv5, mv6, mv7, mv8, mv9, mv10, mv11, mv12, mv13, mv14, mv15, mv16, mv17, mv18, mv19, mv20, mv21, mv22, mv23, .ref fa, mv25, mv26, mv27, mv28, mv29, mv30])) → S fa = some (2016, .inl ((g 5), 3, .inl FV)) → (∀ b t e9, B b = some (t, e9) → S b = some (t, e9)) → mp_I D classes A s.heap S H locs → lv_has ls 2 [(1, .int (nI i)), (0, .ref o)] → (∀ (S : mp_M) (H : Heap) (locs : List Loc) (ls : Array Slot), (∀ j, j < nl → bndL n hA hB hC j) → S o = some (2000, .inr (10, [.int (nI nl), mv1, mv2, mv3, mv4, mv5, mv6, mv7, mv8, mv9, mv10, mv11, mv12, mv13, mv14, mv15, mv16, mv17, mv18, mv19, mv20, mv21, mv22, mv23, .ref fa, mv25, mv26, mv27, mv28, mv29, mv30])) → S fa = some (2016, .inl ((g 5), 3, .inl FV)) → (∀ b t e9, B b = some (t, e9) → S b = some (t, e9)) → mp_I D classes A s.heap S H locs → lv_has ls 2 [(1, .int (nI nl)), (0, .ref o)] → W p l e R s m args below meth c H locs cells slots Q (F0 m 27 ls [])) → (∀ (S : mp_M) (H : Heap) (locs : List Loc) (ls : Array Slot), (¬ (∀ j, j < nl → bndL n hA hB hC j)) → S o = some (2000, .inr (10, [.int (nI nl), mv1, mv2, mv3, mv4, mv5, mv6, mv7, mv8, mv9, mv10, mv11, mv12, mv13, mv14, mv15, mv16, mv17, mv18, mv19, mv20, mv21, mv22, mv23, .ref fa, mv25, mv26, mv27, mv28, mv29, mv30])) → S fa = some (2016, .inl ((g 5), 3, .inl FV)) → (∀ b t e9, B b = some (t, e9) → S b = some (t, e9)) → mp_I D classes A s.heap S H locs → lv_has ls 2 [(0, .ref o)] → W p l e R s m args below meth c H locs cells slots Q (F0 m 19 ls [])) → W p l e R s m args below meth c H locs cells slots Q (F0 m 2 ls []) := by
  intro k
  induction k with
  | zero =>
    intro i S H locs ls hi hz h_o h_fa hfr hI hl kx ky
    refine lv_iload_n hx hb d_M_isFinite_2 rfl (lv_at hl 0 rfl) ?_
    refine lv_aload_n hx hb d_M_isFinite_3 rfl (lv_at hl 1 rfl) ?_
    refine mp_get (C := R_M) (T := F_M) (N := 31) (v := .int (nI nl)) hx hb hg i_M hown hK.va hI h_o rfl 0 (by decide) (hg _ q_804) (fun _ h9 => h9) rfl d_M_isFinite_4 ?_
    refine lv_icmp_ge (tgt := 27) hx hb d_M_isFinite_7 (by decide) (fun _ => ?_) (fun h9 => absurd ((nI_leI (by omega) (by omega)).mpr (by omega)) h9)
    obtain rfl : i = nl := by omega
    exact kx S H locs ls hz h_o h_fa hfr hI (lv_sub hl [0, 1] rfl)
  | succ k ih =>
    intro i S H locs ls hi hz h_o h_fa hfr hI hl kx ky
    refine lv_iload_n hx hb d_M_isFinite_2 rfl (lv_at hl 0 rfl) ?_
    refine lv_aload_n hx hb d_M_isFinite_3 rfl (lv_at hl 1 rfl) ?_
    refine mp_get (C := R_M) (T := F_M) (N := 31) (v := .int (nI nl)) hx hb hg i_M hown hK.va hI h_o rfl 0 (by decide) (hg _ q_804) (fun _ h9 => h9) rfl d_M_isFinite_4 ?_
    refine lv_icmp_ge (tgt := 27) hx hb d_M_isFinite_7 (by decide) (fun h9 => absurd h9 (by rw [nI_leI (by omega) (by omega)]; omega)) (fun _ => ?_)
    refine lv_aload_n hx hb d_M_isFinite_10 rfl (lv_at hl 1 rfl) ?_
    refine mp_get (C := R_M) (T := F_M) (N := 31) (v := .ref fa) hx hb hg i_M hown hK.va hI h_o rfl 24 (by decide) (hg _ q_828) (fun _ h9 => h9) rfl d_M_isFinite_11 ?_
    refine lv_iload_n hx hb d_M_isFinite_14 rfl (lv_at hl 0 rfl) ?_
    refine mp_zald hx hb hK.va hI 5 h_fa rfl (vp_in_nI (show i < 3 by omega) (by omega)) d_M_isFinite_15 ?_
    refine lv_topi (fun v1 ev1 => ?_)
    obtain rfl : v1 = FV i := ev1.trans (by rw [nI_clamp (by omega)])
    refine lv_topi (fun v2 ev2 => ?_)
    rcases hF i (by omega) with ⟨w1, w2, w3⟩ | ⟨w1, w2⟩
    · obtain rfl : v2 = nI 1 := ev2.trans w1
      refine lv_if_eq (tgt := 21) hx hb d_M_isFinite_16 (by decide) (fun h9 => absurd h9 (by decide)) (fun _ => ?_)
      exact ky S H locs ls (fun q9 => w3 (q9 i (by omega))) h_o h_fa hfr hI (lv_sub hl [1] rfl)
    · obtain rfl : v2 = nI 0 := ev2.trans w1
      refine lv_if_eq (tgt := 21) hx hb d_M_isFinite_16 (by decide) (fun _ => ?_) (fun h9 => absurd (by decide) h9)
      refine lv_iinc (v := nI (i + 1)) (lv' := [(1, .int (nI (i + 1))), (0, .ref o)]) hx hb d_M_isFinite_21 hl (k := 0) rfl (nI_1 _) (by decide) rfl (fun ls hl => ?_)
      refine lv_goto (tgt := 2) hx hb d_M_isFinite_24 (by decide) ?_
      exact ih (i + 1) S H locs ls (by omega) (fun j hj => by by_cases e9 : j = i; exact (by rw [e9]; exact Classical.byContradiction (fun w9 => w2 ⟨by omega, w9⟩)); exact hz j (by omega)) h_o h_fa hfr hI (lv_sub hl [0, 1] rfl) kx ky
set_option maxHeartbeats 4000000 in
set_option maxRecDepth 100000 in
/-- whether no letter is free, in the reference -/
theorem c_M_isFinite (l : Launch) (D : mp_G) (g : Nat → ClassId) (S : mp_M) (sz : Nat) (o fa n nl : Nat) (mv1 mv2 mv3 mv4 mv5 mv6 mv7 mv8 mv9 mv10 mv11 mv12 mv13 mv14 mv15 mv16 mv17 mv18 mv19 mv20 mv21 mv22 mv23 mv25 mv26 mv27 mv28 mv29 mv30 : Value) (hA hB hC : Nat → Nat) (FV : Nat → Int32) (h_o : S o = some (2000, .inr (10, [.int (nI nl), mv1, mv2, mv3, mv4, mv5, mv6, mv7, mv8, mv9, mv10, mv11, mv12, mv13, mv14, mv15, mv16, mv17, mv18, mv19, mv20, mv21, mv22, mv23, .ref fa, mv25, mv26, mv27, mv28, mv29, mv30]))) (h_fa : S fa = some (2016, .inl ((g 5), 3, .inl FV))) (hnl : nl ≤ 3) (hF : frM nl n hA hB hC 3 FV) : Met l y_M_isFinite w_M_isFinite ({ frames := 0, cells := 0, slots := 0, locals := 0 }) (va_Pc [.ref o] (mp_B0 D classes (tys g) S sz)) (va_Qi (fun (r : Int32) (S1 : mp_M) => ((r = 1 ∧ ∀ j, j < nl → bndL n hA hB hC j) ∨ (r = 0 ∧ ¬ (∀ j, j < nl → bndL n hA hB hC j))) ∧ (∀ b t e9, S b = some (t, e9) → S1 b = some (t, e9))) (mp_B1 D classes S sz) (mp_A S sz)) 0 0 (mp_A S sz) := by
  refine Met.ofW (cc := b_M_isFinite) (maxL := 2) (ret := (some .boolean)) (by decide) rfl ?_
  intro p e s m args below meth c s₁ B hml hv
  obtain ⟨rfl, hsz, hH, hK⟩ := hv
  have hx := B.exec
  have hb := B.bytes
  have hr := B.returns
  have hts := atoms_spec (ws := w_M_isFinite) B.pre
  have hg : ∀ w ∈ gw, w.before _ s = true := fun w h => hts w (List.mem_cons_of_mem _ h)
  have hown : s.vm.findClass R_M = some m.cls := findClass_of_methodNamed B.named
  have hlocks := B.notSynchronized
  subst hsz
  have hI := mp_I.start hH
  have hl := lv_entry ([.ref o]) (n := 2) (Nat.le_of_ble_eq_true rfl)
  rw [lg_entry_eq]
  generalize (lg_sl ([.ref o]) ++ List.replicate (2 - (lg_sl ([.ref o])).length) Slot.unset).toArray = ls at hl ⊢
  have hl : lv_has ls 2 [(0, .ref o)] := hl
  have hfr : ∀ b t e9, S b = some (t, e9) → S b = some (t, e9) := fun _ _ _ h9 => h9
  refine lv_iconst (v := nI 0) hx hb d_M_isFinite_0 (by decide) ?_
  refine lv_istore_n (lv' := [(1, .int (nI 0)), (0, .ref o)]) hx hb d_M_isFinite_1 rfl hl (by decide) rfl (fun ls hl => ?_)
  refine lp_M_isFinite (B := S) (o := o) (fa := fa) (n := n) (nl := nl) (mv1 := mv1) (mv2 := mv2) (mv3 := mv3) (mv4 := mv4) (mv5 := mv5) (mv6 := mv6) (mv7 := mv7) (mv8 := mv8) (mv9 := mv9) (mv10 := mv10) (mv11 := mv11) (mv12 := mv12) (mv13 := mv13) (mv14 := mv14) (mv15 := mv15) (mv16 := mv16) (mv17 := mv17) (mv18 := mv18) (mv19 := mv19) (mv20 := mv20) (mv21 := mv21) (mv22 := mv22) (mv23 := mv23) (mv25 := mv25) (mv26 := mv26) (mv27 := mv27) (mv28 := mv28) (mv29 := mv29) (mv30 := mv30) (hA := hA) (hB := hB) (hC := hC) (FV := FV) hx hb hml hg hown hK (Nat.le_of_ble_eq_true rfl) (Nat.le_of_ble_eq_true rfl) (Nat.le_of_ble_eq_true rfl) (Nat.le_of_ble_eq_true rfl) hnl hF nl 0 S s.heap _ ls (by omega) (fun j hj => absurd hj (Nat.not_lt_zero j)) h_o h_fa hfr hI (lv_sub hl [0, 1] rfl) (fun S1 H2 locs ls hz j_o j_fa hfr hI hl => ?_) (fun S9 H9 locs ls hno j_o j_fa hfr hI hl => ?_)
  · refine lv_iconst (v := nI 1) hx hb d_M_isFinite_27 (by decide) ?_
    refine mp_zret hx hb hr hlocks hI (Nat.le_of_ble_eq_true rfl) (Nat.le_of_ble_eq_true rfl) ?_ (by decide) d_M_isFinite_28
    exact ⟨Or.inl ⟨rfl, hz⟩, hfr⟩
  · refine lv_iconst (v := nI 0) hx hb d_M_isFinite_19 (by decide) ?_
    refine mp_zret hx hb hr hlocks hI (Nat.le_of_ble_eq_true rfl) (Nat.le_of_ble_eq_true rfl) ?_ (by decide) d_M_isFinite_20
    exact ⟨Or.inr ⟨rfl, hno⟩, hfr⟩
set_option maxHeartbeats 4000000 in
set_option maxRecDepth 100000 in
theorem lp_M_free {p : Program} {l : Launch} {e : Env} {R : Room} {s : State} {m : MethodId} {args : Array Value} {below : List Frame} {meth : Method} {c : Code} {Q : State → Prop} {D : mp_G} {g : Nat → ClassId} {A : Nat → Prop} {cells slots : Nat} (hx : p.tables.exec = Jvm.exec) (hb : c.code = b_M_free) (hml : c.maxLocals = 4) (hg : ∀ w ∈ gw, w.before args s = true) (hown : s.vm.findClass R_M = some m.cls) (hK : mp_K D classes (tys g) s) (hRf : 0 ≤ R.frames) (hRl : 0 ≤ R.locals) (hRc : cells ≤ R.cells) (hRs : slots ≤ R.slots) {B : mp_M} {o fa n nl : Nat} {mv1 mv2 mv4 mv5 mv6 mv7 mv8 mv9 mv10 mv11 mv12 mv14 mv15 mv16 mv17 mv18 mv19 mv20 mv21 mv22 mv23 mv25 mv26 mv27 mv28 mv29 mv30 : Value} {hA hB hC : Nat → Nat} {FV : Nat → Int32} {x : Int32} (hnl : nl ≤ 3) (hF : frM nl n hA hB hC 3 FV) : ∀ (k : Nat) (i : Nat) (n9 : Nat) (S : mp_M) (H : Heap) (locs : List Loc) (ls : Array Slot), i + k = nl → (n9 = (cntF (bndL n hA hB hC) i)) → (∀ j, j < i → ¬ bndL n hA hB hC j → x ≠ nI (cntF (bndL n hA hB hC) j)) → S o = some (2000, .inr (10, [.int (nI nl), mv1, mv2, .int (nI 0), mv4, mv5, mv6, mv7, mv8, mv9, mv10, mv11, mv12, .int (nI 1), mv14, mv15, mv16, mv17, mv18, mv19, mv20, mv21, mv22, mv23, .ref fa, mv25, mv26, mv27, mv28, mv29, mv30])) → S fa = some (2016, .inl ((g 5), 3, .inl FV)) → (∀ b t e9, B b = some (t, e9) → (t ≠ 2000) → S b = some (t, e9)) → mp_I D classes A s.heap S H locs → lv_has ls 4 [(3, .int (nI i)), (2, .int (nI n9)), (1, .int x), (0, .ref o)] → (∀ (n9 : Nat) (S : mp_M) (H : Heap) (locs : List Loc) (ls : Array Slot), (n9 = (cntF (bndL n hA hB hC) nl)) → (∀ j, j < nl → ¬ bndL n hA hB hC j → x ≠ nI (cntF (bndL n hA hB hC) j)) → S o = some (2000, .inr (10, [.int (nI nl), mv1, mv2, .int (nI 0), mv4, mv5, mv6, mv7, mv8, mv9, mv10, mv11, mv12, .int (nI 1), mv14, mv15, mv16, mv17, mv18, mv19, mv20, mv21, mv22, mv23, .ref fa, mv25, mv26, mv27, mv28, mv29, mv30])) → S fa = some (2016, .inl ((g 5), 3, .inl FV)) → (∀ b t e9, B b = some (t, e9) → (t ≠ 2000) → S b = some (t, e9)) → mp_I D classes A s.heap S H locs → lv_has ls 4 [(3, .int (nI nl)), (2, .int (nI n9)), (1, .int x), (0, .ref o)] → W p l e R s m args below meth c H locs cells slots Q (F0 m 49 ls [])) → (∀ (i : Nat) (S : mp_M) (H : Heap) (locs : List Loc) (ls : Array Slot), (i < nl ∧ ¬ bndL n hA hB hC i ∧ x = nI (cntF (bndL n hA hB hC) i)) → S o = some (2000, .inr (10, [.int (nI nl), mv1, mv2, .int (nI 0), mv4, mv5, mv6, mv7, mv8, mv9, mv10, mv11, mv12, .int (nI 1), mv14, mv15, mv16, mv17, mv18, mv19, mv20, mv21, mv22, mv23, .ref fa, mv25, mv26, mv27, mv28, mv29, mv30])) → S fa = some (2016, .inl ((g 5), 3, .inl FV)) → (∀ b t e9, B b = some (t, e9) → (t ≠ 2000) → S b = some (t, e9)) → mp_I D classes A s.heap S H locs → lv_has ls 4 [(3, .int (nI i)), (0, .ref o)] → W p l e R s m args below meth c H locs cells slots Q (F0 m 38 ls [])) → W p l e R s m args below meth c H locs cells slots Q (F0 m 9 ls []) := by
  intro k
  induction k with
  | zero =>
    intro i n9 S H locs ls hi hn9 hz h_o h_fa hfr hI hl kx ky
    refine lv_iload_n hx hb d_M_free_9 rfl (lv_at hl 0 rfl) ?_
    refine lv_aload_n hx hb d_M_free_10 rfl (lv_at hl 3 rfl) ?_
    refine mp_get (C := R_M) (T := F_M) (N := 31) (v := .int (nI nl)) hx hb hg i_M hown hK.va hI h_o rfl 0 (by decide) (hg _ q_804) (fun _ h9 => h9) rfl d_M_free_11 ?_
    refine lv_icmp_ge (tgt := 49) hx hb d_M_free_14 (by decide) (fun _ => ?_) (fun h9 => absurd ((nI_leI (by omega) (by omega)).mpr (by omega)) h9)
    obtain rfl : i = nl := by omega
    exact kx n9 S H locs ls hn9 hz h_o h_fa hfr hI (lv_sub hl [0, 1, 2, 3] rfl)
  | succ k ih =>
    intro i n9 S H locs ls hi hn9 hz h_o h_fa hfr hI hl kx ky
    have hc3 := cntF_le (bndL n hA hB hC) i
    refine lv_iload_n hx hb d_M_free_9 rfl (lv_at hl 0 rfl) ?_
    refine lv_aload_n hx hb d_M_free_10 rfl (lv_at hl 3 rfl) ?_
    refine mp_get (C := R_M) (T := F_M) (N := 31) (v := .int (nI nl)) hx hb hg i_M hown hK.va hI h_o rfl 0 (by decide) (hg _ q_804) (fun _ h9 => h9) rfl d_M_free_11 ?_
    refine lv_icmp_ge (tgt := 49) hx hb d_M_free_14 (by decide) (fun h9 => absurd h9 (by rw [nI_leI (by omega) (by omega)]; omega)) (fun _ => ?_)
    refine lv_aload_n hx hb d_M_free_17 rfl (lv_at hl 3 rfl) ?_
    refine mp_get (C := R_M) (T := F_M) (N := 31) (v := .int (nI 1)) hx hb hg i_M hown hK.va hI h_o rfl 13 (by decide) (hg _ q_817) (fun _ h9 => h9) rfl d_M_free_18 ?_
    refine lv_if_eq (tgt := 49) hx hb d_M_free_21 (by decide) (fun h9 => absurd h9 (by decide)) (fun _ => ?_)
    refine lv_aload_n hx hb d_M_free_24 rfl (lv_at hl 3 rfl) ?_
    refine mp_get (C := R_M) (T := F_M) (N := 31) (v := .ref fa) hx hb hg i_M hown hK.va hI h_o rfl 24 (by decide) (hg _ q_828) (fun _ h9 => h9) rfl d_M_free_25 ?_
    refine lv_iload_n hx hb d_M_free_28 rfl (lv_at hl 0 rfl) ?_
    refine mp_zald hx hb hK.va hI 5 h_fa rfl (vp_in_nI (show i < 3 by omega) (by omega)) d_M_free_29 ?_
    refine lv_topi (fun v1 ev1 => ?_)
    obtain rfl : v1 = FV i := ev1.trans (by rw [nI_clamp (by omega)])
    refine lv_topi (fun v2 ev2 => ?_)
    rcases hF i (by omega) with ⟨w1, w2, w3⟩ | ⟨w1, w2⟩
    · obtain rfl : v2 = nI 1 := ev2.trans w1
      refine lv_if_eq (tgt := 43) hx hb d_M_free_30 (by decide) (fun h9 => absurd h9 (by decide)) (fun _ => ?_)
      refine lv_iload_n hx hb d_M_free_33 rfl (lv_at hl 1 rfl) ?_
      refine lv_iload_n hx hb d_M_free_34 rfl (lv_at hl 2 rfl) ?_
      refine lv_icmp_ne (tgt := 40) hx hb d_M_free_35 (by decide) (fun c1 => ?_) (fun c1 => ?_)
      · refine lv_iinc (v := nI (n9 + 1)) (lv' := [(2, .int (nI (n9 + 1))), (3, .int (nI i)), (1, .int x), (0, .ref o)]) hx hb d_M_free_40 hl (k := 1) rfl (nI_1 _) (by decide) rfl (fun ls hl => ?_)
        refine lv_iinc (v := nI (i + 1)) (lv' := [(3, .int (nI (i + 1))), (2, .int (nI (n9 + 1))), (1, .int x), (0, .ref o)]) hx hb d_M_free_43 hl (k := 1) rfl (nI_1 _) (by decide) rfl (fun ls hl => ?_)
        refine lv_goto (tgt := 9) hx hb d_M_free_46 (by decide) ?_
        exact ih (i + 1) (n9 + 1) S H locs ls (by omega) (by rw [cntF_n w3, hn9]) (fun j hj h8 => by by_cases e9 : j = i; exact (by rw [e9, ← hn9]; exact fun h9 => c1 h9.symm); exact hz j (by omega) h8) h_o h_fa hfr hI (lv_sub hl [0, 1, 2, 3] rfl) kx ky
      · exact ky i S H locs ls ⟨by omega, w3, by rw [← hn9]; exact c1.symm⟩ h_o h_fa hfr hI (lv_sub hl [0, 3] rfl)
    · obtain rfl : v2 = nI 0 := ev2.trans w1
      refine lv_if_eq (tgt := 43) hx hb d_M_free_30 (by decide) (fun _ => ?_) (fun h9 => absurd (by decide) h9)
      refine lv_iinc (v := nI (i + 1)) (lv' := [(3, .int (nI (i + 1))), (2, .int (nI n9)), (1, .int x), (0, .ref o)]) hx hb d_M_free_43 hl (k := 0) rfl (nI_1 _) (by decide) rfl (fun ls hl => ?_)
      refine lv_goto (tgt := 9) hx hb d_M_free_46 (by decide) ?_
      exact ih (i + 1) n9 S H locs ls (by omega) (by rw [cntF_y (Classical.byContradiction (fun w9 => w2 ⟨by omega, w9⟩)), hn9]) (fun j hj h8 => by by_cases e9 : j = i; exact absurd ⟨by omega, e9 ▸ h8⟩ w2; exact hz j (by omega) h8) h_o h_fa hfr hI (lv_sub hl [0, 1, 2, 3] rfl) kx ky
set_option maxHeartbeats 4000000 in
set_option maxRecDepth 100000 in
/-- the free letters one by one, in the reference -/
theorem c_M_free (l : Launch) (D : mp_G) (g : Nat → ClassId) (S : mp_M) (sz : Nat) (o fa n nl : Nat) (mv1 mv2 mv4 mv5 mv6 mv7 mv8 mv9 mv10 mv11 mv12 mv14 mv15 mv16 mv17 mv18 mv19 mv20 mv21 mv22 mv23 mv25 mv26 mv27 mv28 mv29 mv30 : Value) (hA hB hC : Nat → Nat) (FV : Nat → Int32) (x : Int32) (th : Int32) (h_o : S o = some (2000, .inr (10, [.int (nI nl), mv1, mv2, .int th, mv4, mv5, mv6, mv7, mv8, mv9, mv10, mv11, mv12, .int (nI 1), mv14, mv15, mv16, mv17, mv18, mv19, mv20, mv21, mv22, mv23, .ref fa, mv25, mv26, mv27, mv28, mv29, mv30]))) (h_fa : S fa = some (2016, .inl ((g 5), 3, .inl FV))) (hnl : nl ≤ 3) (hF : frM nl n hA hB hC 3 FV) : Met l y_M_free w_M_free ({ frames := 0, cells := 0, slots := 0, locals := 0 }) (va_Pc [.ref o, .int x] (mp_B0 D classes (tys g) S sz)) (va_Qi (fun (r : Int32) (S1 : mp_M) => ((∃ j, j < nl ∧ ¬ bndL n hA hB hC j ∧ x = nI (cntF (bndL n hA hB hC) j) ∧ r = nI j) ∨ (r = -1 ∧ ∀ j, j < nl → ¬ bndL n hA hB hC j → x ≠ nI (cntF (bndL n hA hB hC) j))) ∧ S1 o = some (2000, .inr (10, [.int (nI nl), mv1, mv2, .int (nI 0), mv4, mv5, mv6, mv7, mv8, mv9, mv10, mv11, mv12, .int (nI 1), mv14, mv15, mv16, mv17, mv18, mv19, mv20, mv21, mv22, mv23, .ref fa, mv25, mv26, mv27, mv28, mv29, mv30])) ∧ (∀ b t e9, S b = some (t, e9) → (t ≠ 2000) → S1 b = some (t, e9))) (mp_B1 D classes S sz) (mp_A S sz)) 0 0 (mp_A S sz) := by
  refine Met.ofW (cc := b_M_free) (maxL := 4) (ret := (some .int)) (by decide) rfl ?_
  intro p e s m args below meth c s₁ B hml hv
  obtain ⟨rfl, hsz, hH, hK⟩ := hv
  have hx := B.exec
  have hb := B.bytes
  have hr := B.returns
  have hts := atoms_spec (ws := w_M_free) B.pre
  have hg : ∀ w ∈ gw, w.before _ s = true := fun w h => hts w (List.mem_cons_of_mem _ h)
  have hown : s.vm.findClass R_M = some m.cls := findClass_of_methodNamed B.named
  have hlocks := B.notSynchronized
  subst hsz
  have hI := mp_I.start hH
  have hl := lv_entry ([.ref o, .int x]) (n := 4) (Nat.le_of_ble_eq_true rfl)
  rw [lg_entry_eq]
  generalize (lg_sl ([.ref o, .int x]) ++ List.replicate (4 - (lg_sl ([.ref o, .int x])).length) Slot.unset).toArray = ls at hl ⊢
  have hl : lv_has ls 4 [(0, .ref o), (1, .int x)] := hl
  have hfr : ∀ b t e9, S b = some (t, e9) → (t ≠ 2000) → S b = some (t, e9) := fun _ _ _ h9 _ => h9
  refine lv_aload_n hx hb d_M_free_0 rfl (lv_at hl 0 rfl) ?_
  refine lv_iconst (v := nI 0) hx hb d_M_free_1 (by decide) ?_
  refine mp_put (C := R_M) (T := F_M) (N := 31) (v := .int (nI 0)) (ty := .int) hx hb hg i_M t_M t_M_ok n_M hown hK.va hI h_o rfl 3 (by decide) (hg _ q_807) (fun _ h9 => h9) rfl (by decide +kernel) (rfl) rfl (Nat.le_of_ble_eq_true rfl) d_M_free_2 (fun S1 H2 locs e_3 hI => ?_)
  have h_o_o := h_o
  have e_3 : S1 = va_up S o (some (2000, .inr (10, [.int (nI nl), mv1, mv2, .int (nI 0), mv4, mv5, mv6, mv7, mv8, mv9, mv10, mv11, mv12, .int (nI 1), mv14, mv15, mv16, mv17, mv18, mv19, mv20, mv21, mv22, mv23, .ref fa, mv25, mv26, mv27, mv28, mv29, mv30]))) := e_3
  have h_fa : S1 fa = some (2016, .inl ((g 5), 3, .inl FV)) := by rw [e_3]; exact mp_keep h_fa h_o (by decide)
  have h_o : S1 o = some (2000, .inr (10, [.int (nI nl), mv1, mv2, .int (nI 0), mv4, mv5, mv6, mv7, mv8, mv9, mv10, mv11, mv12, .int (nI 1), mv14, mv15, mv16, mv17, mv18, mv19, mv20, mv21, mv22, mv23, .ref fa, mv25, mv26, mv27, mv28, mv29, mv30])) := by rw [e_3]; exact mp_us _ _ _
  have hfr : ∀ b t e9, S b = some (t, e9) → (t ≠ 2000) → S1 b = some (t, e9) := fun b t e9 h9 k0 => by rw [e_3]; exact mp_keep (hfr b t e9 h9 k0) h_o_o (by omega)
  refine lv_iconst (v := nI 0) hx hb d_M_free_5 (by decide) ?_
  refine lv_istore_n (lv' := [(2, .int (nI 0)), (0, .ref o), (1, .int x)]) hx hb d_M_free_6 rfl hl (by decide) rfl (fun ls hl => ?_)
  refine lv_iconst (v := nI 0) hx hb d_M_free_7 (by decide) ?_
  refine lv_istore_n (lv' := [(3, .int (nI 0)), (2, .int (nI 0)), (0, .ref o), (1, .int x)]) hx hb d_M_free_8 rfl hl (by decide) rfl (fun ls hl => ?_)
  refine lp_M_free (B := S) (o := o) (fa := fa) (n := n) (nl := nl) (mv1 := mv1) (mv2 := mv2) (mv4 := mv4) (mv5 := mv5) (mv6 := mv6) (mv7 := mv7) (mv8 := mv8) (mv9 := mv9) (mv10 := mv10) (mv11 := mv11) (mv12 := mv12) (mv14 := mv14) (mv15 := mv15) (mv16 := mv16) (mv17 := mv17) (mv18 := mv18) (mv19 := mv19) (mv20 := mv20) (mv21 := mv21) (mv22 := mv22) (mv23 := mv23) (mv25 := mv25) (mv26 := mv26) (mv27 := mv27) (mv28 := mv28) (mv29 := mv29) (mv30 := mv30) (hA := hA) (hB := hB) (hC := hC) (FV := FV) (x := x) hx hb hml hg hown hK (Nat.le_of_ble_eq_true rfl) (Nat.le_of_ble_eq_true rfl) (Nat.le_of_ble_eq_true rfl) (Nat.le_of_ble_eq_true rfl) hnl hF nl 0 0 S1 H2 _ ls (by omega) rfl (fun j hj => absurd hj (Nat.not_lt_zero j)) h_o h_fa hfr hI (lv_sub hl [0, 1, 3, 2] rfl) (fun n9 S4 H5 locs ls hn9 hz j_o j_fa hfr hI hl => ?_) (fun i S9 H9 locs ls hno j_o j_fa hfr hI hl => ?_)
  · refine lv_iconst (v := (-1)) hx hb d_M_free_49 (by decide) ?_
    refine mp_iret hx hb hr hlocks hI (Nat.le_of_ble_eq_true rfl) (Nat.le_of_ble_eq_true rfl) ?_ d_M_free_50
    exact ⟨Or.inr ⟨rfl, hz⟩, j_o, hfr⟩
  · refine lv_iload_n hx hb d_M_free_38 rfl (lv_at hl 0 rfl) ?_
    refine mp_iret hx hb hr hlocks hI (Nat.le_of_ble_eq_true rfl) (Nat.le_of_ble_eq_true rfl) ?_ d_M_free_39
    exact ⟨Or.inl ⟨i, hno.1, hno.2.1, hno.2.2, rfl⟩, j_o, hfr⟩
