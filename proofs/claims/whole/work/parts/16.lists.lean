/-- a head is a power of this letter alone, or 1 -/
def bnd (j a b d : Nat) : Prop := (if j = 0 then a else if j = 1 then b else d) = a + b + d
/-- some head of the list bounds the letter -/
def bndL (sz : Nat) (hA hB hC : Nat → Nat) (j : Nat) : Prop := ∃ i, i < sz ∧ bnd j (hA i) (hB i) (hC i)
/-- the heads as the class holds them -/
def hdS (sz : Nat) (hA hB hC : Nat → Nat) (hf : Nat → Int32) : Prop := ∀ i, i < sz → hf i = nI (kN (hA i) (hB i) (hC i)) ∧ hA i < 16 ∧ hB i < 16 ∧ hC i < 16
/-- how many of the letters below j are not bounded -/
noncomputable def cntF (P : Nat → Prop) : Nat → Nat
  | 0 => 0
  | j + 1 => cntF P j + (@ite Nat (P j) (Classical.propDecidable _) 0 1)
theorem cntF_y {P : Nat → Prop} {j : Nat} (h : P j) : cntF P (j + 1) = cntF P j := by simp [cntF, h]
theorem cntF_n {P : Nat → Prop} {j : Nat} (h : ¬ P j) : cntF P (j + 1) = cntF P j + 1 := by simp [cntF, h]
theorem cntF_le (P : Nat → Prop) : ∀ j, cntF P j ≤ j
  | 0 => Nat.le_refl _
  | j + 1 => by
    by_cases h : P j
    · rw [cntF_y h]; exact Nat.le_succ_of_le (cntF_le P j)
    · rw [cntF_n h]; exact Nat.succ_le_succ (cntF_le P j)
theorem cntF_mono (P : Nat → Prop) {i j : Nat} (h : i ≤ j) : cntF P i ≤ cntF P j := by
  induction h with
  | refl => exact Nat.le_refl _
  | @step k _ ih =>
    by_cases q : P k
    · rw [cntF_y q]; exact ih
    · rw [cntF_n q]; omega
/-- the free letters stand at their places -/
def frS (P : Nat → Prop) (n : Nat) (ff : Nat → Int32) : Prop := ∀ j, j < n → ¬ P j → ff (cntF P j) = nI j
theorem frS_y {P : Nat → Prop} {n : Nat} {ff : Nat → Int32} (h : frS P n ff) (hp : P n) : frS P (n + 1) ff := fun j hj hn => by
  by_cases e : j = n
  · subst e; exact absurd hp hn
  · exact h j (by omega) hn
theorem frS_n {P : Nat → Prop} {n : Nat} {ff : Nat → Int32} (h : frS P n ff) (hp : ¬ P n) : frS P (n + 1) (upd ff (cntF P n) (nI n)) := fun j hj hn => by
  by_cases e : j = n
  · subst e; exact pk_us
  · have h1 : cntF P j + 1 ≤ cntF P n := by rw [← cntF_n hn]; exact cntF_mono P (by omega)
    rw [pk_un (by omega)]
    exact h j (by omega) hn
theorem d_B_noteFreeLetters_0 : decode b_B_noteFreeLetters 0 = .ok (.aload_n 0, 1) := by decide +kernel
theorem d_B_noteFreeLetters_1 : decode b_B_noteFreeLetters 1 = .ok (.iconst 0, 1) := by decide +kernel
theorem d_B_noteFreeLetters_2 : decode b_B_noteFreeLetters 2 = .ok (.putfield 166, 3) := by decide +kernel
theorem d_B_noteFreeLetters_5 : decode b_B_noteFreeLetters 5 = .ok (.iconst 0, 1) := by decide +kernel
theorem d_B_noteFreeLetters_6 : decode b_B_noteFreeLetters 6 = .ok (.istore_n 1, 1) := by decide +kernel
theorem d_B_noteFreeLetters_7 : decode b_B_noteFreeLetters 7 = .ok (.iload_n 1, 1) := by decide +kernel
theorem d_B_noteFreeLetters_8 : decode b_B_noteFreeLetters 8 = .ok (.aload_n 0, 1) := by decide +kernel
theorem d_B_noteFreeLetters_9 : decode b_B_noteFreeLetters 9 = .ok (.getfield 35, 3) := by decide +kernel
theorem d_B_noteFreeLetters_12 : decode b_B_noteFreeLetters 12 = .ok (.if_icmp .ge 40, 3) := by decide +kernel
theorem d_B_noteFreeLetters_15 : decode b_B_noteFreeLetters 15 = .ok (.aload_n 0, 1) := by decide +kernel
theorem d_B_noteFreeLetters_16 : decode b_B_noteFreeLetters 16 = .ok (.getfield 18, 3) := by decide +kernel
theorem d_B_noteFreeLetters_19 : decode b_B_noteFreeLetters 19 = .ok (.iload_n 1, 1) := by decide +kernel
theorem d_B_noteFreeLetters_20 : decode b_B_noteFreeLetters 20 = .ok (.invokevirtual 188, 3) := by decide +kernel
theorem d_B_noteFreeLetters_23 : decode b_B_noteFreeLetters 23 = .ok (.ifCond .ne 23, 3) := by decide +kernel
theorem d_B_noteFreeLetters_26 : decode b_B_noteFreeLetters 26 = .ok (.aload_n 0, 1) := by decide +kernel
theorem d_B_noteFreeLetters_27 : decode b_B_noteFreeLetters 27 = .ok (.getfield 22, 3) := by decide +kernel
theorem d_B_noteFreeLetters_30 : decode b_B_noteFreeLetters 30 = .ok (.aload_n 0, 1) := by decide +kernel
theorem d_B_noteFreeLetters_31 : decode b_B_noteFreeLetters 31 = .ok (.getfield 166, 3) := by decide +kernel
theorem d_B_noteFreeLetters_34 : decode b_B_noteFreeLetters 34 = .ok (.iload_n 1, 1) := by decide +kernel
theorem d_B_noteFreeLetters_35 : decode b_B_noteFreeLetters 35 = .ok (.iastore, 1) := by decide +kernel
theorem d_B_noteFreeLetters_36 : decode b_B_noteFreeLetters 36 = .ok (.aload_n 0, 1) := by decide +kernel
theorem d_B_noteFreeLetters_37 : decode b_B_noteFreeLetters 37 = .ok (.dup, 1) := by decide +kernel
theorem d_B_noteFreeLetters_38 : decode b_B_noteFreeLetters 38 = .ok (.getfield 166, 3) := by decide +kernel
theorem d_B_noteFreeLetters_41 : decode b_B_noteFreeLetters 41 = .ok (.iconst 1, 1) := by decide +kernel
theorem d_B_noteFreeLetters_42 : decode b_B_noteFreeLetters 42 = .ok (.iadd, 1) := by decide +kernel
theorem d_B_noteFreeLetters_43 : decode b_B_noteFreeLetters 43 = .ok (.putfield 166, 3) := by decide +kernel
theorem d_B_noteFreeLetters_46 : decode b_B_noteFreeLetters 46 = .ok (.iinc 1 1, 3) := by decide +kernel
theorem d_B_noteFreeLetters_49 : decode b_B_noteFreeLetters 49 = .ok (.goto (-42), 3) := by decide +kernel
theorem d_B_noteFreeLetters_52 : decode b_B_noteFreeLetters 52 = .ok (.return_, 1) := by decide +kernel
theorem d_K_bounds_0 : decode b_K_bounds 0 = .ok (.iconst 0, 1) := by decide +kernel
theorem d_K_bounds_1 : decode b_K_bounds 1 = .ok (.istore_n 2, 1) := by decide +kernel
theorem d_K_bounds_2 : decode b_K_bounds 2 = .ok (.iload_n 2, 1) := by decide +kernel
theorem d_K_bounds_3 : decode b_K_bounds 3 = .ok (.aload_n 0, 1) := by decide +kernel
theorem d_K_bounds_4 : decode b_K_bounds 4 = .ok (.getfield 26, 3) := by decide +kernel
theorem d_K_bounds_7 : decode b_K_bounds 7 = .ok (.if_icmp .ge 33, 3) := by decide +kernel
theorem d_K_bounds_10 : decode b_K_bounds 10 = .ok (.aload_n 0, 1) := by decide +kernel
theorem d_K_bounds_11 : decode b_K_bounds 11 = .ok (.getfield 17, 3) := by decide +kernel
theorem d_K_bounds_14 : decode b_K_bounds 14 = .ok (.iload_n 2, 1) := by decide +kernel
theorem d_K_bounds_15 : decode b_K_bounds 15 = .ok (.iaload, 1) := by decide +kernel
theorem d_K_bounds_16 : decode b_K_bounds 16 = .ok (.iload_n 1, 1) := by decide +kernel
theorem d_K_bounds_17 : decode b_K_bounds 17 = .ok (.invokestatic 40, 3) := by decide +kernel
theorem d_K_bounds_20 : decode b_K_bounds 20 = .ok (.aload_n 0, 1) := by decide +kernel
theorem d_K_bounds_21 : decode b_K_bounds 21 = .ok (.getfield 17, 3) := by decide +kernel
theorem d_K_bounds_24 : decode b_K_bounds 24 = .ok (.iload_n 2, 1) := by decide +kernel
theorem d_K_bounds_25 : decode b_K_bounds 25 = .ok (.iaload, 1) := by decide +kernel
theorem d_K_bounds_26 : decode b_K_bounds 26 = .ok (.invokestatic 44, 3) := by decide +kernel
theorem d_K_bounds_29 : decode b_K_bounds 29 = .ok (.if_icmp .ne 5, 3) := by decide +kernel
theorem d_K_bounds_32 : decode b_K_bounds 32 = .ok (.iconst 1, 1) := by decide +kernel
theorem d_K_bounds_33 : decode b_K_bounds 33 = .ok (.ireturn, 1) := by decide +kernel
theorem d_K_bounds_34 : decode b_K_bounds 34 = .ok (.iinc 2 1, 3) := by decide +kernel
theorem d_K_bounds_37 : decode b_K_bounds 37 = .ok (.goto (-35), 3) := by decide +kernel
theorem d_K_bounds_40 : decode b_K_bounds 40 = .ok (.iconst 0, 1) := by decide +kernel
theorem d_K_bounds_41 : decode b_K_bounds 41 = .ok (.ireturn, 1) := by decide +kernel
theorem d_K_isFinite_0 : decode b_K_isFinite 0 = .ok (.iconst 0, 1) := by decide +kernel
theorem d_K_isFinite_1 : decode b_K_isFinite 1 = .ok (.istore_n 2, 1) := by decide +kernel
theorem d_K_isFinite_2 : decode b_K_isFinite 2 = .ok (.iload_n 2, 1) := by decide +kernel
theorem d_K_isFinite_3 : decode b_K_isFinite 3 = .ok (.iload_n 1, 1) := by decide +kernel
theorem d_K_isFinite_4 : decode b_K_isFinite 4 = .ok (.if_icmp .ge 19, 3) := by decide +kernel
theorem d_K_isFinite_7 : decode b_K_isFinite 7 = .ok (.aload_n 0, 1) := by decide +kernel
theorem d_K_isFinite_8 : decode b_K_isFinite 8 = .ok (.iload_n 2, 1) := by decide +kernel
theorem d_K_isFinite_9 : decode b_K_isFinite 9 = .ok (.invokevirtual 48, 3) := by decide +kernel
theorem d_K_isFinite_12 : decode b_K_isFinite 12 = .ok (.ifCond .ne 5, 3) := by decide +kernel
theorem d_K_isFinite_15 : decode b_K_isFinite 15 = .ok (.iconst 0, 1) := by decide +kernel
theorem d_K_isFinite_16 : decode b_K_isFinite 16 = .ok (.ireturn, 1) := by decide +kernel
theorem d_K_isFinite_17 : decode b_K_isFinite 17 = .ok (.iinc 2 1, 3) := by decide +kernel
theorem d_K_isFinite_20 : decode b_K_isFinite 20 = .ok (.goto (-18), 3) := by decide +kernel
theorem d_K_isFinite_23 : decode b_K_isFinite 23 = .ok (.iconst 1, 1) := by decide +kernel
theorem d_K_isFinite_24 : decode b_K_isFinite 24 = .ok (.ireturn, 1) := by decide +kernel
set_option maxHeartbeats 4000000 in
set_option maxRecDepth 100000 in
theorem lp_K_bounds {p : Program} {l : Launch} {e : Env} {R : Room} {s : State} {m : MethodId} {args : Array Value} {below : List Frame} {meth : Method} {c : Code} {D : mp_G} {g : Nat → ClassId} {cells slots : Nat} {S : mp_M} (hx : p.tables.exec = Jvm.exec) (hb : c.code = b_K_bounds) (hml : c.maxLocals = 3) (hr : meth.sig.returnType = some .boolean) (hlocks : meth.locks = false) (hg : ∀ w ∈ gw, w.before args s = true) (hown : s.vm.findClass R_K = some m.cls) (hK : mp_K D classes (tys g) s) (hRf : 1 ≤ R.frames) (hRl : 23 ≤ R.locals) (hRc : cells ≤ R.cells) (hRs : slots ≤ R.slots) (hc0 : cells ≤ 0) (hs0 : slots ≤ 0) {o hd n j : Nat} {u0 : Value} {hf : Nat → Int32} {hA hB hC : Nat → Nat} (h_o : S o = some (2, .inr (9, [u0, .ref hd, .int (nI n)]))) (h_hd : S hd = some (5, .inl ((g 0), 12, .inl hf))) (hh : hdS n hA hB hC hf) (hn : n ≤ 12) (hj : j < 3) : ∀ (k i : Nat) (H : Heap) (locs : List Loc) (ls : Array Slot), i + k = n → (∀ z, z < i → ¬ bnd j (hA z) (hB z) (hC z)) → mp_I D classes (mp_A S s.heap.size) s.heap S H locs → lv_has ls 3 [(2, .int (nI i)), (1, .int (nI j)), (0, .ref o)] → W p l e R s m args below meth c H locs cells slots (MQ below (va_Qi (fun (r : Int32) (S1 : mp_M) => ((r = 1 ∧ bndL n hA hB hC j) ∨ (r = 0 ∧ ¬ bndL n hA hB hC j)) ∧ S1 = S) (mp_B1 D classes S s.heap.size) (mp_A S s.heap.size)) args s 0 0 (mp_A S s.heap.size)) (F0 m 2 ls []) := by
  intro k
  induction k with
  | zero =>
    intro i H locs ls hi hno hI hl
    obtain rfl : i = n := by omega
    refine lv_iload_n hx hb d_K_bounds_2 rfl (lv_at hl 0 rfl) ?_
    refine lv_aload_n hx hb d_K_bounds_3 rfl (lv_at hl 2 rfl) ?_
    refine mp_get (C := R_K) (T := F_K) (N := 3) (v := .int (nI i)) hx hb hg i_K hown hK.va hI h_o rfl 2 (by decide) (hg _ q_66) (fun _ h9 => h9) rfl d_K_bounds_4 ?_
    refine lv_icmp_ge (tgt := 40) hx hb d_K_bounds_7 (by decide) (fun _ => ?_) (fun h9 => absurd ((nI_leI (by omega) (by omega)).mpr (by omega)) h9)
    refine lv_iconst (v := nI 0) hx hb d_K_bounds_40 (by decide) ?_
    refine mp_zret hx hb hr hlocks hI hc0 hs0 ?_ (by decide) d_K_bounds_41
    exact ⟨Or.inr ⟨rfl, fun ⟨z, hz, q⟩ => hno z hz q⟩, rfl⟩
  | succ k ih =>
    intro i H locs ls hi hno hI hl
    obtain ⟨he, ka, kb, kd⟩ := hh i (by omega)
    refine lv_iload_n hx hb d_K_bounds_2 rfl (lv_at hl 0 rfl) ?_
    refine lv_aload_n hx hb d_K_bounds_3 rfl (lv_at hl 2 rfl) ?_
    refine mp_get (C := R_K) (T := F_K) (N := 3) (v := .int (nI n)) hx hb hg i_K hown hK.va hI h_o rfl 2 (by decide) (hg _ q_66) (fun _ h9 => h9) rfl d_K_bounds_4 ?_
    refine lv_icmp_ge (tgt := 40) hx hb d_K_bounds_7 (by decide) (fun h9 => absurd h9 (by rw [nI_leI (by omega) (by omega)]; omega)) (fun _ => ?_)
    refine lv_aload_n hx hb d_K_bounds_10 rfl (lv_at hl 2 rfl) ?_
    refine mp_get (C := R_K) (T := F_K) (N := 3) (v := .ref hd) hx hb hg i_K hown hK.va hI h_o rfl 1 (by decide) (hg _ q_63) (fun _ h9 => h9) rfl d_K_bounds_11 ?_
    refine lv_iload_n hx hb d_K_bounds_14 rfl (lv_at hl 0 rfl) ?_
    refine mp_iald hx hb hK.va hI 0 h_hd rfl (vp_in_nI (show i < 12 by omega) (by decide)) d_K_bounds_15 ?_
    refine lv_topi (fun v1 ev1 => ?_)
    obtain rfl : v1 = nI (kN (hA i) (hB i) (hC i)) := ev1.trans (by rw [nI_clamp (by omega)]; exact he)
    refine lv_iload_n hx hb d_K_bounds_16 rfl (lv_at hl 1 rfl) ?_
    refine mp_calli hI (va_runS (As := [.int (nI (kN (hA i) (hB i) (hC i))), .int (nI j)]) (rest := []) ⟨hx, hb, hml, hown, hg⟩ (c_W_exponent l D g S _ (hA i) (hB i) (hC i) j (by omega) (by omega) (by omega) hj) ⟨(callB_of 2 hg (wd_goodG q_309) rfl rfl rfl (hg _ q_11) (hg _ q_307) (by decide +kernel) ⟨Nat.le_trans (Nat.le_of_ble_eq_true rfl) hRf, Nat.le_trans (Nat.le_of_ble_eq_true rfl) hRl⟩), hg _ q_308⟩ (mp_pre hI hK [.int (nI (kN (hA i) (hB i) (hC i))), .int (nI j)]) rfl rfl hl.1 rfl (lv_room (Nat.le_of_ble_eq_true rfl)) d_K_bounds_17 ⟨by omega, by omega⟩) (fun r5 S2 H3 locs p_4 hI => ?_)
    obtain ⟨er5, eS6⟩ := p_4
    rw [eS6] at hI
    have er5 : r5 = nI (if j = 0 then hA i else if j = 1 then hB i else hC i) := er5
    subst er5
    refine lv_aload_n hx hb d_K_bounds_20 rfl (lv_at hl 2 rfl) ?_
    refine mp_get (C := R_K) (T := F_K) (N := 3) (v := .ref hd) hx hb hg i_K hown hK.va hI h_o rfl 1 (by decide) (hg _ q_63) (fun _ h9 => h9) rfl d_K_bounds_21 ?_
    refine lv_iload_n hx hb d_K_bounds_24 rfl (lv_at hl 0 rfl) ?_
    refine mp_iald hx hb hK.va hI 0 h_hd rfl (vp_in_nI (show i < 12 by omega) (by decide)) d_K_bounds_25 ?_
    refine lv_topi (fun v7 ev7 => ?_)
    obtain rfl : v7 = nI (kN (hA i) (hB i) (hC i)) := ev7.trans (by rw [nI_clamp (by omega)]; exact he)
    refine mp_calli hI (va_runS (As := [.int (nI (kN (hA i) (hB i) (hC i)))]) (rest := [.int (nI (if j = 0 then hA i else if j = 1 then hB i else hC i))]) ⟨hx, hb, hml, hown, hg⟩ (c_W_degree l D g S _ (hA i) (hB i) (hC i) (by omega) (by omega) (by omega)) ⟨(callB_of 1 hg (wd_goodG q_312) rfl rfl rfl (hg _ q_11) (hg _ q_310) (by decide +kernel) ⟨Nat.le_trans (Nat.le_of_ble_eq_true rfl) hRf, Nat.le_trans (Nat.le_of_ble_eq_true rfl) hRl⟩), hg _ q_311⟩ (mp_pre hI hK [.int (nI (kN (hA i) (hB i) (hC i)))]) rfl rfl hl.1 rfl (lv_room (Nat.le_of_ble_eq_true rfl)) d_K_bounds_26 ⟨by omega, by omega⟩) (fun r11 S8 H9 locs p_10 hI => ?_)
    obtain ⟨er11, eS12⟩ := p_10
    rw [eS12] at hI
    have er11 : r11 = nI (hA i + hB i + hC i) := er11
    subst er11
    have hlt9 : (if j = 0 then hA i else if j = 1 then hB i else hC i) < 16 := by split; exact ka; split; exact kb; exact kd
    refine lv_icmp_ne (tgt := 34) hx hb d_K_bounds_29 (by decide) (fun c1 => ?_) (fun c1 => ?_)
    · rw [nI_eq (by omega) (by omega)] at c1
      refine lv_iinc (v := nI (i + 1)) (lv' := [(2, .int (nI (i + 1))), (1, .int (nI j)), (0, .ref o)]) hx hb d_K_bounds_34 hl (k := 0) rfl (nI_1 _) (by decide) rfl (fun ls hl => ?_)
      refine lv_goto (tgt := 2) hx hb d_K_bounds_37 (by decide) ?_
      exact ih (i + 1) _ locs ls (by omega) (fun z hz => by by_cases e9 : z = i; (subst e9; exact c1); exact hno z (by omega)) hI (lv_sub hl [0, 1, 2] rfl)
    · rw [nI_eq (by omega) (by omega)] at c1
      refine lv_iconst (v := nI 1) hx hb d_K_bounds_32 (by decide) ?_
      refine mp_zret hx hb hr hlocks hI hc0 hs0 ?_ (by decide) d_K_bounds_33
      exact ⟨Or.inl ⟨rfl, i, by omega, c1⟩, rfl⟩
set_option maxHeartbeats 4000000 in
set_option maxRecDepth 100000 in
/-- a head bounds the letter -/
theorem c_K_bounds (l : Launch) (D : mp_G) (g : Nat → ClassId) (S : mp_M) (sz : Nat) (o hd n j : Nat) (u0 : Value) (hf : Nat → Int32) (hA hB hC : Nat → Nat) (h_o : S o = some (2, .inr (9, [u0, .ref hd, .int (nI n)]))) (h_hd : S hd = some (5, .inl ((g 0), 12, .inl hf))) (hh : hdS n hA hB hC hf) (hn : n ≤ 12) (hj : j < 3) : Met l y_K_bounds w_K_bounds ({ frames := 1, cells := 0, slots := 0, locals := 23 }) (va_Pc [.ref o, .int (nI j)] (mp_B0 D classes (tys g) S sz)) (va_Qi (fun (r : Int32) (S1 : mp_M) => ((r = 1 ∧ bndL n hA hB hC j) ∨ (r = 0 ∧ ¬ bndL n hA hB hC j)) ∧ S1 = S) (mp_B1 D classes S sz) (mp_A S sz)) 0 0 (mp_A S sz) := by
  refine Met.ofW (cc := b_K_bounds) (maxL := 3) (ret := (some .boolean)) (by decide) rfl ?_
  intro p e s m args below meth c s₁ B hml hv
  obtain ⟨rfl, hsz, hH, hK⟩ := hv
  have hx := B.exec
  have hb := B.bytes
  have hr := B.returns
  have hts := atoms_spec (ws := w_K_bounds) B.pre
  have hg : ∀ w ∈ gw, w.before _ s = true := fun w h => hts w (List.mem_cons_of_mem _ h)
  have hown : s.vm.findClass R_K = some m.cls := findClass_of_methodNamed B.named
  have hlocks := B.notSynchronized
  subst hsz
  have hI := mp_I.start hH
  have hl := lv_entry ([.ref o, .int (nI j)]) (n := 3) (Nat.le_of_ble_eq_true rfl)
  rw [lg_entry_eq]
  generalize (lg_sl ([.ref o, .int (nI j)]) ++ List.replicate (3 - (lg_sl ([.ref o, .int (nI j)])).length) Slot.unset).toArray = ls at hl ⊢
  have hl : lv_has ls 3 [(0, .ref o), (1, .int (nI j))] := hl
  refine lv_iconst (v := nI 0) hx hb d_K_bounds_0 (by decide) ?_
  refine lv_istore_n (lv' := [(2, .int (nI 0)), (0, .ref o), (1, .int (nI j))]) hx hb d_K_bounds_1 rfl hl (by decide) rfl (fun ls hl => ?_)
  exact lp_K_bounds hx hb hml hr hlocks hg hown hK (Nat.le_of_ble_eq_true rfl) (Nat.le_of_ble_eq_true rfl) (Nat.le_of_ble_eq_true rfl) (Nat.le_of_ble_eq_true rfl) (Nat.le_of_ble_eq_true rfl) (Nat.le_of_ble_eq_true rfl) h_o h_hd hh hn hj n 0 s.heap _ ls (by omega) (fun z hz => absurd hz (Nat.not_lt_zero z)) hI (lv_sub hl [0, 2, 1] rfl)
set_option maxHeartbeats 4000000 in
set_option maxRecDepth 100000 in
theorem lp_K_isFinite {p : Program} {l : Launch} {e : Env} {R : Room} {s : State} {m : MethodId} {args : Array Value} {below : List Frame} {meth : Method} {c : Code} {D : mp_G} {g : Nat → ClassId} {cells slots : Nat} {S : mp_M} (hx : p.tables.exec = Jvm.exec) (hb : c.code = b_K_isFinite) (hml : c.maxLocals = 3) (hr : meth.sig.returnType = some .boolean) (hlocks : meth.locks = false) (hg : ∀ w ∈ gw, w.before args s = true) (hown : s.vm.findClass R_K = some m.cls) (hK : mp_K D classes (tys g) s) (hRf : 2 ≤ R.frames) (hRl : 45 ≤ R.locals) (hRc : cells ≤ R.cells) (hRs : slots ≤ R.slots) (hc0 : cells ≤ 0) (hs0 : slots ≤ 0) {o hd n nl : Nat} {u0 : Value} {hf : Nat → Int32} {hA hB hC : Nat → Nat} (h_o : S o = some (2, .inr (9, [u0, .ref hd, .int (nI n)]))) (h_hd : S hd = some (5, .inl ((g 0), 12, .inl hf))) (hh : hdS n hA hB hC hf) (hn : n ≤ 12) (hnl : nl ≤ 3) : ∀ (k i : Nat) (H : Heap) (locs : List Loc) (ls : Array Slot), i + k = nl → (∀ z, z < i → bndL n hA hB hC z) → mp_I D classes (mp_A S s.heap.size) s.heap S H locs → lv_has ls 3 [(2, .int (nI i)), (1, .int (nI nl)), (0, .ref o)] → W p l e R s m args below meth c H locs cells slots (MQ below (va_Qi (fun (r : Int32) (S1 : mp_M) => ((r = 1 ∧ ∀ j, j < nl → bndL n hA hB hC j) ∨ (r = 0 ∧ ¬ ∀ j, j < nl → bndL n hA hB hC j)) ∧ S1 = S) (mp_B1 D classes S s.heap.size) (mp_A S s.heap.size)) args s 0 0 (mp_A S s.heap.size)) (F0 m 2 ls []) := by
  intro k
  induction k with
  | zero =>
    intro i H locs ls hi hno hI hl
    obtain rfl : i = nl := by omega
    refine lv_iload_n hx hb d_K_isFinite_2 rfl (lv_at hl 0 rfl) ?_
    refine lv_iload_n hx hb d_K_isFinite_3 rfl (lv_at hl 1 rfl) ?_
    refine lv_icmp_ge (tgt := 23) hx hb d_K_isFinite_4 (by decide) (fun _ => ?_) (fun h9 => absurd ((nI_leI (by omega) (by omega)).mpr (by omega)) h9)
    refine lv_iconst (v := nI 1) hx hb d_K_isFinite_23 (by decide) ?_
    refine mp_zret hx hb hr hlocks hI hc0 hs0 ?_ (by decide) d_K_isFinite_24
    exact ⟨Or.inl ⟨rfl, hno⟩, rfl⟩
  | succ k ih =>
    intro i H locs ls hi hno hI hl
    refine lv_iload_n hx hb d_K_isFinite_2 rfl (lv_at hl 0 rfl) ?_
    refine lv_iload_n hx hb d_K_isFinite_3 rfl (lv_at hl 1 rfl) ?_
    refine lv_icmp_ge (tgt := 23) hx hb d_K_isFinite_4 (by decide) (fun h9 => absurd h9 (by rw [nI_leI (by omega) (by omega)]; omega)) (fun _ => ?_)
    refine lv_aload_n hx hb d_K_isFinite_7 rfl (lv_at hl 2 rfl) ?_
    refine lv_iload_n hx hb d_K_isFinite_8 rfl (lv_at hl 0 rfl) ?_
    refine mp_calli hI (va_runV (As := [.int (nI i)]) (rest := []) ⟨hx, hb, hml, hown, hg⟩ (c_K_bounds l D g S _ o hd n i u0 hf hA hB hC h_o h_hd hh hn (by omega)) ⟨(callB_of 1 hg (wd_goodG q_306) rfl rfl rfl (hg _ q_2) (hg _ q_362) (by decide +kernel) ⟨Nat.le_trans (Nat.le_of_ble_eq_true rfl) hRf, Nat.le_trans (Nat.le_of_ble_eq_true rfl) hRl⟩), hg _ q_304, hg _ q_305⟩ (mp_preV (C := R_K) (T := F_K) hI hK h_o rfl [.int (nI i)]) rfl rfl hl.1 rfl (lv_room (Nat.le_of_ble_eq_true rfl)) d_K_isFinite_9 ⟨by omega, by omega⟩) (fun r4 S1 H2 locs p_3 hI => ?_)
    obtain ⟨er4, eS5⟩ := p_3
    rw [eS5] at hI
    rcases er4 with ⟨rfl, hbd⟩ | ⟨rfl, hbd⟩
    · refine lv_if_ne (tgt := 17) hx hb d_K_isFinite_12 (by decide) (fun _ => ?_) (fun h9 => absurd h9 (by decide))
      refine lv_iinc (v := nI (i + 1)) (lv' := [(2, .int (nI (i + 1))), (1, .int (nI nl)), (0, .ref o)]) hx hb d_K_isFinite_17 hl (k := 0) rfl (nI_1 _) (by decide) rfl (fun ls hl => ?_)
      refine lv_goto (tgt := 2) hx hb d_K_isFinite_20 (by decide) ?_
      exact ih (i + 1) _ locs ls (by omega) (fun z hz => by by_cases e9 : z = i; (subst e9; exact hbd); exact hno z (by omega)) hI (lv_sub hl [0, 1, 2] rfl)
    · refine lv_if_ne (tgt := 17) hx hb d_K_isFinite_12 (by decide) (fun h9 => absurd h9 (by decide)) (fun _ => ?_)
      refine lv_iconst (v := nI 0) hx hb d_K_isFinite_15 (by decide) ?_
      refine mp_zret hx hb hr hlocks hI hc0 hs0 ?_ (by decide) d_K_isFinite_16
      exact ⟨Or.inr ⟨rfl, fun q => hbd (q i (by omega))⟩, rfl⟩
set_option maxHeartbeats 4000000 in
set_option maxRecDepth 100000 in
/-- every letter is bounded -/
theorem c_K_isFinite (l : Launch) (D : mp_G) (g : Nat → ClassId) (S : mp_M) (sz : Nat) (o hd n nl : Nat) (u0 : Value) (hf : Nat → Int32) (hA hB hC : Nat → Nat) (h_o : S o = some (2, .inr (9, [u0, .ref hd, .int (nI n)]))) (h_hd : S hd = some (5, .inl ((g 0), 12, .inl hf))) (hh : hdS n hA hB hC hf) (hn : n ≤ 12) (hnl : nl ≤ 3) : Met l y_K_isFinite w_K_isFinite ({ frames := 2, cells := 0, slots := 0, locals := 45 }) (va_Pc [.ref o, .int (nI nl)] (mp_B0 D classes (tys g) S sz)) (va_Qi (fun (r : Int32) (S1 : mp_M) => ((r = 1 ∧ ∀ j, j < nl → bndL n hA hB hC j) ∨ (r = 0 ∧ ¬ ∀ j, j < nl → bndL n hA hB hC j)) ∧ S1 = S) (mp_B1 D classes S sz) (mp_A S sz)) 0 0 (mp_A S sz) := by
  refine Met.ofW (cc := b_K_isFinite) (maxL := 3) (ret := (some .boolean)) (by decide) rfl ?_
  intro p e s m args below meth c s₁ B hml hv
  obtain ⟨rfl, hsz, hH, hK⟩ := hv
  have hx := B.exec
  have hb := B.bytes
  have hr := B.returns
  have hts := atoms_spec (ws := w_K_isFinite) B.pre
  have hg : ∀ w ∈ gw, w.before _ s = true := fun w h => hts w (List.mem_cons_of_mem _ h)
  have hown : s.vm.findClass R_K = some m.cls := findClass_of_methodNamed B.named
  have hlocks := B.notSynchronized
  subst hsz
  have hI := mp_I.start hH
  have hl := lv_entry ([.ref o, .int (nI nl)]) (n := 3) (Nat.le_of_ble_eq_true rfl)
  rw [lg_entry_eq]
  generalize (lg_sl ([.ref o, .int (nI nl)]) ++ List.replicate (3 - (lg_sl ([.ref o, .int (nI nl)])).length) Slot.unset).toArray = ls at hl ⊢
  have hl : lv_has ls 3 [(0, .ref o), (1, .int (nI nl))] := hl
  refine lv_iconst (v := nI 0) hx hb d_K_isFinite_0 (by decide) ?_
  refine lv_istore_n (lv' := [(2, .int (nI 0)), (0, .ref o), (1, .int (nI nl))]) hx hb d_K_isFinite_1 rfl hl (by decide) rfl (fun ls hl => ?_)
  exact lp_K_isFinite hx hb hml hr hlocks hg hown hK (Nat.le_of_ble_eq_true rfl) (Nat.le_of_ble_eq_true rfl) (Nat.le_of_ble_eq_true rfl) (Nat.le_of_ble_eq_true rfl) (Nat.le_of_ble_eq_true rfl) (Nat.le_of_ble_eq_true rfl) h_o h_hd hh hn hnl nl 0 s.heap _ ls (by omega) (fun z hz => absurd hz (Nat.not_lt_zero z)) hI (lv_sub hl [0, 2, 1] rfl)
set_option maxHeartbeats 4000000 in
set_option maxRecDepth 100000 in
theorem lp_B_note {p : Program} {l : Launch} {e : Env} {R : Room} {s : State} {m : MethodId} {args : Array Value} {below : List Frame} {meth : Method} {c : Code} {Q : State → Prop} {D : mp_G} {g : Nat → ClassId} {A : Nat → Prop} {cells slots : Nat} (hx : p.tables.exec = Jvm.exec) (hb : c.code = b_B_noteFreeLetters) (hml : c.maxLocals = 2) (hg : ∀ w ∈ gw, w.before args s = true) (hown : s.vm.findClass R_B = some m.cls) (hK : mp_K D classes (tys g) s) (hRf : 2 ≤ R.frames) (hRl : 45 ≤ R.locals) (hRc : cells ≤ R.cells) (hRs : slots ≤ R.slots) {B : mp_M} {o lo hd fa n nl : Nat} {v1 v4 v5 v7 v8 v9 u0 : Value} {hf : Nat → Int32} {hA hB hC : Nat → Nat} (hh : hdS n hA hB hC hf) (hn : n ≤ 12) (hnl : nl ≤ 3) : ∀ (k i : Nat) (ff : Nat → Int32) (S : mp_M) (H : Heap) (locs : List Loc) (ls : Array Slot), i + k = nl → frS (bndL n hA hB hC) i ff → S o = some (0, .inr (0, [.int (nI nl), v1, .ref lo, .ref fa, v4, v5, .int (nI (cntF (bndL n hA hB hC) i)), v7, v8, v9])) → S lo = some (2, .inr (9, [u0, .ref hd, .int (nI n)])) → S hd = some (5, .inl ((g 0), 12, .inl hf)) → S fa = some (3, .inl ((g 0), 3, .inl ff)) → (∀ b, B b ≠ none → b ≠ o → b ≠ fa → S b = B b) → mp_I D classes A s.heap S H locs → lv_has ls 2 [(1, .int (nI i)), (0, .ref o)] → (∀ (ff : Nat → Int32) (S : mp_M) (H : Heap) (locs : List Loc) (ls : Array Slot), frS (bndL n hA hB hC) nl ff → S o = some (0, .inr (0, [.int (nI nl), v1, .ref lo, .ref fa, v4, v5, .int (nI (cntF (bndL n hA hB hC) nl)), v7, v8, v9])) → S lo = some (2, .inr (9, [u0, .ref hd, .int (nI n)])) → S hd = some (5, .inl ((g 0), 12, .inl hf)) → S fa = some (3, .inl ((g 0), 3, .inl ff)) → (∀ b, B b ≠ none → b ≠ o → b ≠ fa → S b = B b) → mp_I D classes A s.heap S H locs → W p l e R s m args below meth c H locs cells slots Q (F0 m 52 ls [])) → W p l e R s m args below meth c H locs cells slots Q (F0 m 7 ls []) := by
  intro k
  induction k with
  | zero =>
    intro i ff S H locs ls hi hF h_o h_lo h_hd h_fa hfr hI hl kx
    obtain rfl : i = nl := by omega
    refine lv_iload_n hx hb d_B_noteFreeLetters_7 rfl (lv_at hl 0 rfl) ?_
    refine lv_aload_n hx hb d_B_noteFreeLetters_8 rfl (lv_at hl 1 rfl) ?_
    refine mp_get (C := R_B) (T := F_B) (N := 10) (v := .int (nI i)) hx hb hg i_B hown hK.va hI h_o rfl 0 (by decide) (hg _ q_82) (fun _ h9 => h9) rfl d_B_noteFreeLetters_9 ?_
    refine lv_icmp_ge (tgt := 52) hx hb d_B_noteFreeLetters_12 (by decide) (fun _ => ?_) (fun h9 => absurd ((nI_leI (by omega) (by omega)).mpr (by omega)) h9)
    exact kx ff S H locs ls hF h_o h_lo h_hd h_fa hfr hI
  | succ k ih =>
    intro i ff S H locs ls hi hF h_o h_lo h_hd h_fa hfr hI hl kx
    have hcl := cntF_le (bndL n hA hB hC) i
    refine lv_iload_n hx hb d_B_noteFreeLetters_7 rfl (lv_at hl 0 rfl) ?_
    refine lv_aload_n hx hb d_B_noteFreeLetters_8 rfl (lv_at hl 1 rfl) ?_
    refine mp_get (C := R_B) (T := F_B) (N := 10) (v := .int (nI nl)) hx hb hg i_B hown hK.va hI h_o rfl 0 (by decide) (hg _ q_82) (fun _ h9 => h9) rfl d_B_noteFreeLetters_9 ?_
    refine lv_icmp_ge (tgt := 52) hx hb d_B_noteFreeLetters_12 (by decide) (fun h9 => absurd h9 (by rw [nI_leI (by omega) (by omega)]; omega)) (fun _ => ?_)
    refine lv_aload_n hx hb d_B_noteFreeLetters_15 rfl (lv_at hl 1 rfl) ?_
    refine mp_get (C := R_B) (T := F_B) (N := 10) (v := .ref lo) hx hb hg i_B hown hK.va hI h_o rfl 2 (by decide) (hg _ q_84) (fun _ h9 => h9) rfl d_B_noteFreeLetters_16 ?_
    refine lv_iload_n hx hb d_B_noteFreeLetters_19 rfl (lv_at hl 0 rfl) ?_
    refine mp_calli hI (va_runV (As := [.int (nI i)]) (rest := []) ⟨hx, hb, hml, hown, hg⟩ (c_K_bounds l D g S _ lo hd n i u0 hf hA hB hC h_lo h_hd hh hn (by omega)) ⟨(callB_of 1 hg (wd_goodG q_306) rfl rfl rfl (hg _ q_2) (hg _ q_303) (by decide +kernel) ⟨Nat.le_trans (Nat.le_of_ble_eq_true rfl) hRf, Nat.le_trans (Nat.le_of_ble_eq_true rfl) hRl⟩), hg _ q_304, hg _ q_305⟩ (mp_preV (C := R_K) (T := F_K) hI hK h_lo rfl [.int (nI i)]) rfl rfl hl.1 rfl (lv_room (Nat.le_of_ble_eq_true rfl)) d_B_noteFreeLetters_20 ⟨by omega, by omega⟩) (fun r4 S1 H2 locs p_3 hI => ?_)
    obtain ⟨er4, eS5⟩ := p_3
    rw [eS5] at hI
    rcases er4 with ⟨rfl, hbd⟩ | ⟨rfl, hbd⟩
    · refine lv_if_ne (tgt := 46) hx hb d_B_noteFreeLetters_23 (by decide) (fun _ => ?_) (fun h9 => absurd h9 (by decide))
      refine lv_iinc (v := nI (i + 1)) (lv' := [(1, .int (nI (i + 1))), (0, .ref o)]) hx hb d_B_noteFreeLetters_46 hl (k := 0) rfl (nI_1 _) (by decide) rfl (fun ls hl => ?_)
      refine lv_goto (tgt := 7) hx hb d_B_noteFreeLetters_49 (by decide) ?_
      exact ih (i + 1) ff S _ locs ls (by omega) (frS_y hF hbd) (by rw [cntF_y hbd]; exact h_o) h_lo h_hd h_fa hfr hI (lv_sub hl [0, 1] rfl) kx
    · refine lv_if_ne (tgt := 46) hx hb d_B_noteFreeLetters_23 (by decide) (fun h9 => absurd h9 (by decide)) (fun _ => ?_)
      refine lv_aload_n hx hb d_B_noteFreeLetters_26 rfl (lv_at hl 1 rfl) ?_
      refine mp_get (C := R_B) (T := F_B) (N := 10) (v := .ref fa) hx hb hg i_B hown hK.va hI h_o rfl 3 (by decide) (hg _ q_85) (fun _ h9 => h9) rfl d_B_noteFreeLetters_27 ?_
      refine lv_aload_n hx hb d_B_noteFreeLetters_30 rfl (lv_at hl 1 rfl) ?_
      refine mp_get (C := R_B) (T := F_B) (N := 10) (v := .int (nI (cntF (bndL n hA hB hC) i))) hx hb hg i_B hown hK.va hI h_o rfl 6 (by decide) (hg _ q_88) (fun _ h9 => h9) rfl d_B_noteFreeLetters_31 ?_
      refine lv_iload_n hx hb d_B_noteFreeLetters_34 rfl (lv_at hl 0 rfl) ?_
      refine mp_iast hx hb hK.va hI 0 h_fa rfl (vp_in_nI (show cntF (bndL n hA hB hC) i < 3 by omega) (by decide)) d_B_noteFreeLetters_35 (fun S6 H7 locs e_8 hI => ?_)
      have e_8 : S6 = va_up S fa (some (3, .inl ((g 0), 3, .inl (upd ff (nI (cntF (bndL n hA hB hC) i)).toNatClampNeg (nI i))))) := e_8
      have h_o : S6 o = some (0, .inr (0, [.int (nI nl), v1, .ref lo, .ref fa, v4, v5, .int (nI (cntF (bndL n hA hB hC) i)), v7, v8, v9])) := by rw [e_8]; exact mp_keep h_o h_fa (by decide)
      have h_lo : S6 lo = some (2, .inr (9, [u0, .ref hd, .int (nI n)])) := by rw [e_8]; exact mp_keep h_lo h_fa (by decide)
      have h_hd : S6 hd = some (5, .inl ((g 0), 12, .inl hf)) := by rw [e_8]; exact mp_keep h_hd h_fa (by decide)
      have h_fa : S6 fa = some (3, .inl ((g 0), 3, .inl (upd ff (nI (cntF (bndL n hA hB hC) i)).toNatClampNeg (nI i)))) := by rw [e_8]; exact mp_us _ _ _
      have hfr : ∀ b, B b ≠ none → b ≠ o → b ≠ fa → S6 b = B b := fun b h9 k0 k1 => by rw [e_8]; exact (mp_un k1).trans (hfr b h9 k0 k1)
      refine lv_aload_n hx hb d_B_noteFreeLetters_36 rfl (lv_at hl 1 rfl) ?_
      refine lv_dup hx hb d_B_noteFreeLetters_37 rfl ?_
      refine mp_get (C := R_B) (T := F_B) (N := 10) (v := .int (nI (cntF (bndL n hA hB hC) i))) hx hb hg i_B hown hK.va hI h_o rfl 6 (by decide) (hg _ q_88) (fun _ h9 => h9) rfl d_B_noteFreeLetters_38 ?_
      refine lv_iconst (v := nI 1) hx hb d_B_noteFreeLetters_41 (by decide) ?_
      refine lv_iadd hx hb d_B_noteFreeLetters_42 ?_
      refine lv_topi (fun v9 ev9 => ?_)
      obtain rfl : v9 = nI ((cntF (bndL n hA hB hC) i) + 1) := ev9.trans (nI_add _ _)
      refine mp_put (C := R_B) (T := F_B) (N := 10) (v := .int (nI ((cntF (bndL n hA hB hC) i) + 1))) (ty := .int) hx hb hg i_B t_B t_B_ok n_B hown hK.va hI h_o rfl 6 (by decide) (hg _ q_88) (fun _ h9 => h9) rfl (by decide +kernel) (rfl) rfl (Nat.le_of_ble_eq_true rfl) d_B_noteFreeLetters_43 (fun S10 H11 locs e_12 hI => ?_)
      have e_12 : S10 = va_up S6 o (some (0, .inr (0, [.int (nI nl), v1, .ref lo, .ref fa, v4, v5, .int (nI ((cntF (bndL n hA hB hC) i) + 1)), v7, v8, v9]))) := e_12
      have h_lo : S10 lo = some (2, .inr (9, [u0, .ref hd, .int (nI n)])) := by rw [e_12]; exact mp_keep h_lo h_o (by decide)
      have h_hd : S10 hd = some (5, .inl ((g 0), 12, .inl hf)) := by rw [e_12]; exact mp_keep h_hd h_o (by decide)
      have h_fa : S10 fa = some (3, .inl ((g 0), 3, .inl (upd ff (nI (cntF (bndL n hA hB hC) i)).toNatClampNeg (nI i)))) := by rw [e_12]; exact mp_keep h_fa h_o (by decide)
      have h_o : S10 o = some (0, .inr (0, [.int (nI nl), v1, .ref lo, .ref fa, v4, v5, .int (nI ((cntF (bndL n hA hB hC) i) + 1)), v7, v8, v9])) := by rw [e_12]; exact mp_us _ _ _
      have hfr : ∀ b, B b ≠ none → b ≠ o → b ≠ fa → S10 b = B b := fun b h9 k0 k1 => by rw [e_12]; exact (mp_un k0).trans (hfr b h9 k0 k1)
      rw [nI_clamp (by omega)] at h_fa
      refine lv_iinc (v := nI (i + 1)) (lv' := [(1, .int (nI (i + 1))), (0, .ref o)]) hx hb d_B_noteFreeLetters_46 hl (k := 0) rfl (nI_1 _) (by decide) rfl (fun ls hl => ?_)
      refine lv_goto (tgt := 7) hx hb d_B_noteFreeLetters_49 (by decide) ?_
      exact ih (i + 1) _ S10 H11 locs ls (by omega) (frS_n hF hbd) (by rw [cntF_n hbd]; exact h_o) h_lo h_hd h_fa hfr hI (lv_sub hl [0, 1] rfl) kx
set_option maxHeartbeats 4000000 in
set_option maxRecDepth 100000 in
/-- the free letters are noted -/
theorem c_B_note (l : Launch) (D : mp_G) (g : Nat → ClassId) (S : mp_M) (sz : Nat) (o lo hd fa n nl : Nat) (v1 v4 v5 v7 v8 v9 u0 : Value) (fc0 : Int32) (ff hf : Nat → Int32) (hA hB hC : Nat → Nat) (h_o : S o = some (0, .inr (0, [.int (nI nl), v1, .ref lo, .ref fa, v4, v5, .int fc0, v7, v8, v9]))) (h_lo : S lo = some (2, .inr (9, [u0, .ref hd, .int (nI n)]))) (h_hd : S hd = some (5, .inl ((g 0), 12, .inl hf))) (h_fa : S fa = some (3, .inl ((g 0), 3, .inl ff))) (hh : hdS n hA hB hC hf) (hn : n ≤ 12) (hnl : nl ≤ 3) : Met l y_B_noteFreeLetters w_B_noteFreeLetters ({ frames := 2, cells := 0, slots := 0, locals := 45 }) (va_Pc [.ref o] (mp_B0 D classes (tys g) S sz)) (va_Qv (fun (S1 : mp_M) => ∃ ff1 : Nat → Int32, frS (bndL n hA hB hC) nl ff1 ∧ S1 o = some (0, .inr (0, [.int (nI nl), v1, .ref lo, .ref fa, v4, v5, .int (nI (cntF (bndL n hA hB hC) nl)), v7, v8, v9])) ∧ S1 fa = some (3, .inl ((g 0), 3, .inl ff1)) ∧ (∀ b, S b ≠ none → b ≠ o → b ≠ fa → S1 b = S b)) (mp_B1 D classes S sz) (mp_A S sz)) 0 0 (mp_A S sz) := by
  refine Met.ofW (cc := b_B_noteFreeLetters) (maxL := 2) (ret := none) (by decide) rfl ?_
  intro p e s m args below meth c s₁ B hml hv
  obtain ⟨rfl, hsz, hH, hK⟩ := hv
  have hx := B.exec
  have hb := B.bytes
  have hr := B.returns
  have hts := atoms_spec (ws := w_B_noteFreeLetters) B.pre
  have hg : ∀ w ∈ gw, w.before _ s = true := fun w h => hts w (List.mem_cons_of_mem _ h)
  have hown : s.vm.findClass R_B = some m.cls := findClass_of_methodNamed B.named
  have hlocks := B.notSynchronized
  subst hsz
  have hI := mp_I.start hH
  have hl := lv_entry ([.ref o]) (n := 2) (Nat.le_of_ble_eq_true rfl)
  rw [lg_entry_eq]
  generalize (lg_sl ([.ref o]) ++ List.replicate (2 - (lg_sl ([.ref o])).length) Slot.unset).toArray = ls at hl ⊢
  have hl : lv_has ls 2 [(0, .ref o)] := hl
  have hfr : ∀ b, S b ≠ none → b ≠ o → b ≠ fa → S b = S b := fun _ _ _ _ => rfl
  refine lv_aload_n hx hb d_B_noteFreeLetters_0 rfl (lv_at hl 0 rfl) ?_
  refine lv_iconst (v := nI 0) hx hb d_B_noteFreeLetters_1 (by decide) ?_
  refine mp_put (C := R_B) (T := F_B) (N := 10) (v := .int (nI 0)) (ty := .int) hx hb hg i_B t_B t_B_ok n_B hown hK.va hI h_o rfl 6 (by decide) (hg _ q_88) (fun _ h9 => h9) rfl (by decide +kernel) (rfl) rfl (Nat.le_of_ble_eq_true rfl) d_B_noteFreeLetters_2 (fun S1 H2 locs e_3 hI => ?_)
  have e_3 : S1 = va_up S o (some (0, .inr (0, [.int (nI nl), v1, .ref lo, .ref fa, v4, v5, .int (nI 0), v7, v8, v9]))) := e_3
  have h_lo : S1 lo = some (2, .inr (9, [u0, .ref hd, .int (nI n)])) := by rw [e_3]; exact mp_keep h_lo h_o (by decide)
  have h_hd : S1 hd = some (5, .inl ((g 0), 12, .inl hf)) := by rw [e_3]; exact mp_keep h_hd h_o (by decide)
  have h_fa : S1 fa = some (3, .inl ((g 0), 3, .inl ff)) := by rw [e_3]; exact mp_keep h_fa h_o (by decide)
  have h_o : S1 o = some (0, .inr (0, [.int (nI nl), v1, .ref lo, .ref fa, v4, v5, .int (nI 0), v7, v8, v9])) := by rw [e_3]; exact mp_us _ _ _
  have hfr : ∀ b, S b ≠ none → b ≠ o → b ≠ fa → S1 b = S b := fun b h9 k0 k1 => by rw [e_3]; exact (mp_un k0).trans (hfr b h9 k0 k1)
  refine lv_iconst (v := nI 0) hx hb d_B_noteFreeLetters_5 (by decide) ?_
  refine lv_istore_n (lv' := [(1, .int (nI 0)), (0, .ref o)]) hx hb d_B_noteFreeLetters_6 rfl hl (by decide) rfl (fun ls hl => ?_)
  refine lp_B_note (B := S) hx hb hml hg hown hK (Nat.le_of_ble_eq_true rfl) (Nat.le_of_ble_eq_true rfl) (Nat.le_of_ble_eq_true rfl) (Nat.le_of_ble_eq_true rfl) hh hn hnl nl 0 ff S1 H2 _ ls (by omega) (fun j h => absurd h (Nat.not_lt_zero j)) h_o h_lo h_hd h_fa hfr hI (lv_sub hl [0, 1] rfl) (fun ff1 S9 H9 locs9 ls9 jF j_o j_lo j_hd j_fa jfr hI => ?_)
  refine mp_vret hx hb hr hlocks hI (by decide) (by decide) ?_ d_B_noteFreeLetters_52
  exact ⟨ff1, jF, j_o, j_fa, jfr⟩
