/-- the heads as the reference holds them -/
def pN (a b d : Nat) : Nat := a + 10 * b + 100 * d
def mhS (n : Nat) (hA hB hC : Nat → Nat) (hf : Nat → Int32) : Prop := ∀ i, i < n → hf i = nI (pN (hA i) (hB i) (hC i)) ∧ hA i ≤ 9 ∧ hB i ≤ 9 ∧ hC i ≤ 9
theorem pN_lt {a b d : Nat} (ha : a ≤ 9) (hb : b ≤ 9) (hd : d ≤ 9) : pN a b d < 1000 := by unfold pN; omega
theorem pN_0 {a b d : Nat} (ha : a ≤ 9) (hb : b ≤ 9) (hd : d ≤ 9) : eN (pN a b d) 0 = a := by rw [eN_0]; unfold pN; omega
theorem pN_1 {a b d : Nat} (ha : a ≤ 9) (hb : b ≤ 9) (hd : d ≤ 9) : eN (pN a b d) 1 = b := by rw [eN_1]; unfold pN; omega
theorem pN_2 {a b d : Nat} (ha : a ≤ 9) (hb : b ≤ 9) (hd : d ≤ 9) : eN (pN a b d) 2 = d := by rw [eN_2]; unfold pN; omega
theorem d_M_divider_0 : decode b_M_divider 0 = .ok (.iconst 0, 1) := by decide +kernel
theorem d_M_divider_1 : decode b_M_divider 1 = .ok (.istore 4, 2) := by decide +kernel
theorem d_M_divider_3 : decode b_M_divider 3 = .ok (.iload 4, 2) := by decide +kernel
theorem d_M_divider_5 : decode b_M_divider 5 = .ok (.aload_n 0, 1) := by decide +kernel
theorem d_M_divider_6 : decode b_M_divider 6 = .ok (.getfield 125, 3) := by decide +kernel
theorem d_M_divider_9 : decode b_M_divider 9 = .ok (.if_icmp .ge 57, 3) := by decide +kernel
theorem d_M_divider_12 : decode b_M_divider 12 = .ok (.aload_n 0, 1) := by decide +kernel
theorem d_M_divider_13 : decode b_M_divider 13 = .ok (.getfield 23, 3) := by decide +kernel
theorem d_M_divider_16 : decode b_M_divider 16 = .ok (.iload 4, 2) := by decide +kernel
theorem d_M_divider_18 : decode b_M_divider 18 = .ok (.iaload, 1) := by decide +kernel
theorem d_M_divider_19 : decode b_M_divider 19 = .ok (.iconst 0, 1) := by decide +kernel
theorem d_M_divider_20 : decode b_M_divider 20 = .ok (.invokestatic 94, 3) := by decide +kernel
theorem d_M_divider_23 : decode b_M_divider 23 = .ok (.iload_n 1, 1) := by decide +kernel
theorem d_M_divider_24 : decode b_M_divider 24 = .ok (.if_icmp .gt 36, 3) := by decide +kernel
theorem d_M_divider_27 : decode b_M_divider 27 = .ok (.aload_n 0, 1) := by decide +kernel
theorem d_M_divider_28 : decode b_M_divider 28 = .ok (.getfield 23, 3) := by decide +kernel
theorem d_M_divider_31 : decode b_M_divider 31 = .ok (.iload 4, 2) := by decide +kernel
theorem d_M_divider_33 : decode b_M_divider 33 = .ok (.iaload, 1) := by decide +kernel
theorem d_M_divider_34 : decode b_M_divider 34 = .ok (.iconst 1, 1) := by decide +kernel
theorem d_M_divider_35 : decode b_M_divider 35 = .ok (.invokestatic 94, 3) := by decide +kernel
theorem d_M_divider_38 : decode b_M_divider 38 = .ok (.iload_n 2, 1) := by decide +kernel
theorem d_M_divider_39 : decode b_M_divider 39 = .ok (.if_icmp .gt 21, 3) := by decide +kernel
theorem d_M_divider_42 : decode b_M_divider 42 = .ok (.aload_n 0, 1) := by decide +kernel
theorem d_M_divider_43 : decode b_M_divider 43 = .ok (.getfield 23, 3) := by decide +kernel
theorem d_M_divider_46 : decode b_M_divider 46 = .ok (.iload 4, 2) := by decide +kernel
theorem d_M_divider_48 : decode b_M_divider 48 = .ok (.iaload, 1) := by decide +kernel
theorem d_M_divider_49 : decode b_M_divider 49 = .ok (.iconst 2, 1) := by decide +kernel
theorem d_M_divider_50 : decode b_M_divider 50 = .ok (.invokestatic 94, 3) := by decide +kernel
theorem d_M_divider_53 : decode b_M_divider 53 = .ok (.iload_n 3, 1) := by decide +kernel
theorem d_M_divider_54 : decode b_M_divider 54 = .ok (.if_icmp .gt 6, 3) := by decide +kernel
theorem d_M_divider_57 : decode b_M_divider 57 = .ok (.iload 4, 2) := by decide +kernel
theorem d_M_divider_59 : decode b_M_divider 59 = .ok (.ireturn, 1) := by decide +kernel
theorem d_M_divider_60 : decode b_M_divider 60 = .ok (.iinc 4 1, 3) := by decide +kernel
theorem d_M_divider_63 : decode b_M_divider 63 = .ok (.goto (-60), 3) := by decide +kernel
theorem d_M_divider_66 : decode b_M_divider 66 = .ok (.iconst (-1), 1) := by decide +kernel
theorem d_M_divider_67 : decode b_M_divider 67 = .ok (.ireturn, 1) := by decide +kernel
set_option maxHeartbeats 4000000 in
set_option maxRecDepth 100000 in
theorem lp_M_divider {p : Program} {l : Launch} {e : Env} {R : Room} {s : State} {m : MethodId} {args : Array Value} {below : List Frame} {meth : Method} {c : Code} {D : mp_G} {g : Nat → ClassId} {cells slots : Nat} {S : mp_M} (hx : p.tables.exec = Jvm.exec) (hb : c.code = b_M_divider) (hml : c.maxLocals = 5) (hr : meth.sig.returnType = some .int) (hlocks : meth.locks = false) (hg : ∀ w ∈ gw, w.before args s = true) (hown : s.vm.findClass R_M = some m.cls) (hK : mp_K D classes (tys g) s) (hRf : 1 ≤ R.frames) (hRl : 21 ≤ R.locals) (hRc : cells ≤ R.cells) (hRs : slots ≤ R.slots) (hc0 : cells ≤ 0) (hs0 : slots ≤ 0) {o hd n a b d : Nat} {m0 m1 m2 m3 m4 m6 m7 m8 m10 m11 m12 m13 m14 m15 m16 m17 m18 m19 m20 m21 m22 m23 m24 m25 m26 m27 m28 m29 m30 : Value} {hf : Nat → Int32} {hA hB hC : Nat → Nat} (h_o : S o = some (2000, .inr (10, [m0, m1, m2, m3, m4, .int (nI n), m6, m7, m8, .ref hd, m10, m11, m12, m13, m14, m15, m16, m17, m18, m19, m20, m21, m22, m23, m24, m25, m26, m27, m28, m29, m30]))) (h_hd : S hd = some (2005, .inl ((g 0), 12, .inl hf))) (hh : mhS n hA hB hC hf) (hn : n ≤ 12) (ha : a < 32) (hb9 : b < 32) (hd9 : d < 32) : ∀ (k i : Nat) (H : Heap) (locs : List Loc) (ls : Array Slot), i + k = n → (∀ j, j < i → ¬ dvN hA hB hC a b d j) → mp_I D classes (mp_A S s.heap.size) s.heap S H locs → lv_has ls 5 [(4, .int (nI i)), (3, .int (nI d)), (2, .int (nI b)), (1, .int (nI a)), (0, .ref o)] → W p l e R s m args below meth c H locs cells slots (MQ below (va_Qi (fun (r : Int32) (S1 : mp_M) => fdN n hA hB hC a b d r ∧ S1 = S) (mp_B1 D classes S s.heap.size) (mp_A S s.heap.size)) args s 0 0 (mp_A S s.heap.size)) (F0 m 3 ls []) := by
  intro k
  induction k with
  | zero =>
    intro i H locs ls hi hno hI hl
    obtain rfl : i = n := by omega
    refine lv_iload hx hb d_M_divider_3 (lv_at hl 0 rfl) ?_
    refine lv_aload_n hx hb d_M_divider_5 rfl (lv_at hl 4 rfl) ?_
    refine mp_get (C := R_M) (T := F_M) (N := 31) (v := .int (nI i)) hx hb hg i_M hown hK.va hI h_o rfl 5 (by decide) (hg _ q_809) (fun _ h9 => h9) rfl d_M_divider_6 ?_
    refine lv_icmp_ge (tgt := 66) hx hb d_M_divider_9 (by decide) (fun _ => ?_) (fun h9 => absurd ((nI_leI (by omega) (by omega)).mpr (by omega)) h9)
    refine lv_iconst (v := (-1)) hx hb d_M_divider_66 (by decide) ?_
    refine mp_iret hx hb hr hlocks hI hc0 hs0 ?_ d_M_divider_67
    exact ⟨Or.inr ⟨hno, rfl⟩, rfl⟩
  | succ k ih =>
    intro i H locs ls hi hno hI hl
    obtain ⟨he, ka, kb, kd⟩ := hh i (by omega)
    refine lv_iload hx hb d_M_divider_3 (lv_at hl 0 rfl) ?_
    refine lv_aload_n hx hb d_M_divider_5 rfl (lv_at hl 4 rfl) ?_
    refine mp_get (C := R_M) (T := F_M) (N := 31) (v := .int (nI n)) hx hb hg i_M hown hK.va hI h_o rfl 5 (by decide) (hg _ q_809) (fun _ h9 => h9) rfl d_M_divider_6 ?_
    refine lv_icmp_ge (tgt := 66) hx hb d_M_divider_9 (by decide) (fun h9 => absurd h9 (by rw [nI_leI (by omega) (by omega)]; omega)) (fun _ => ?_)
    refine lv_aload_n hx hb d_M_divider_12 rfl (lv_at hl 4 rfl) ?_
    refine mp_get (C := R_M) (T := F_M) (N := 31) (v := .ref hd) hx hb hg i_M hown hK.va hI h_o rfl 9 (by decide) (hg _ q_813) (fun _ h9 => h9) rfl d_M_divider_13 ?_
    refine lv_iload hx hb d_M_divider_16 (lv_at hl 0 rfl) ?_
    refine mp_iald hx hb hK.va hI 0 h_hd rfl (vp_in_nI (show i < 12 by omega) (by decide)) d_M_divider_18 ?_
    refine lv_topi (fun v1 ev1 => ?_)
    obtain rfl : v1 = nI (pN (hA i) (hB i) (hC i)) := ev1.trans (by rw [nI_clamp (by omega)]; exact he)
    refine lv_iconst (v := nI 0) hx hb d_M_divider_19 (by decide) ?_
    refine mp_calli hI (va_runS (As := [.int (nI (pN (hA i) (hB i) (hC i))), .int (nI 0)]) (rest := []) ⟨hx, hb, hml, hown, hg⟩ (c_M_expo l D g S _ (pN (hA i) (hB i) (hC i)) 0 (pN_lt ka kb kd) (by decide)) ⟨(callB_of 2 hg (wd_goodG q_943) rfl rfl rfl (hg _ q_5) (hg _ q_941) (by decide +kernel) ⟨Nat.le_trans (Nat.le_of_ble_eq_true rfl) hRf, Nat.le_trans (Nat.le_of_ble_eq_true rfl) hRl⟩), hg _ q_942⟩ (mp_pre hI hK [.int (nI (pN (hA i) (hB i) (hC i))), .int (nI 0)]) rfl rfl hl.1 rfl (lv_room (Nat.le_of_ble_eq_true rfl)) d_M_divider_20 ⟨by omega, by omega⟩) (fun r5 S2 H3 locs p_4 hI => ?_)
    obtain ⟨er5, eS6⟩ := p_4
    rw [eS6] at hI
    have er5 : r5 = nI (eN (pN (hA i) (hB i) (hC i)) 0) := er5
    subst er5
    refine lv_topi (fun v7 ev7 => ?_)
    obtain rfl : v7 = nI (hA i) := ev7.trans (by rw [pN_0 ka kb kd])
    refine lv_iload_n hx hb d_M_divider_23 rfl (lv_at hl 3 rfl) ?_
    refine lv_icmp_gt (tgt := 60) hx hb d_M_divider_24 (by decide) (fun c0 => ?_) (fun c0 => ?_)
    · rw [nI_ltI (by omega) (by omega)] at c0
      refine lv_iinc (v := nI (i + 1)) (lv' := [(4, .int (nI (i + 1))), (3, .int (nI d)), (2, .int (nI b)), (1, .int (nI a)), (0, .ref o)]) hx hb d_M_divider_60 hl (k := 0) rfl (nI_1 _) (by decide) rfl (fun ls hl => ?_)
      refine lv_goto (tgt := 3) hx hb d_M_divider_63 (by decide) ?_
      exact ih (i + 1) _ locs ls (by omega) (fd_step hno (fun q => absurd q.1 (by omega))) hI (lv_sub hl [0, 1, 2, 3, 4] rfl)
    · rw [nI_ltI (by omega) (by omega)] at c0
      refine lv_aload_n hx hb d_M_divider_27 rfl (lv_at hl 4 rfl) ?_
      refine mp_get (C := R_M) (T := F_M) (N := 31) (v := .ref hd) hx hb hg i_M hown hK.va hI h_o rfl 9 (by decide) (hg _ q_813) (fun _ h9 => h9) rfl d_M_divider_28 ?_
      refine lv_iload hx hb d_M_divider_31 (lv_at hl 0 rfl) ?_
      refine mp_iald hx hb hK.va hI 0 h_hd rfl (vp_in_nI (show i < 12 by omega) (by decide)) d_M_divider_33 ?_
      refine lv_topi (fun v8 ev8 => ?_)
      obtain rfl : v8 = nI (pN (hA i) (hB i) (hC i)) := ev8.trans (by rw [nI_clamp (by omega)]; exact he)
      refine lv_iconst (v := nI 1) hx hb d_M_divider_34 (by decide) ?_
      refine mp_calli hI (va_runS (As := [.int (nI (pN (hA i) (hB i) (hC i))), .int (nI 1)]) (rest := []) ⟨hx, hb, hml, hown, hg⟩ (c_M_expo l D g S _ (pN (hA i) (hB i) (hC i)) 1 (pN_lt ka kb kd) (by decide)) ⟨(callB_of 2 hg (wd_goodG q_943) rfl rfl rfl (hg _ q_5) (hg _ q_941) (by decide +kernel) ⟨Nat.le_trans (Nat.le_of_ble_eq_true rfl) hRf, Nat.le_trans (Nat.le_of_ble_eq_true rfl) hRl⟩), hg _ q_942⟩ (mp_pre hI hK [.int (nI (pN (hA i) (hB i) (hC i))), .int (nI 1)]) rfl rfl hl.1 rfl (lv_room (Nat.le_of_ble_eq_true rfl)) d_M_divider_35 ⟨by omega, by omega⟩) (fun r12 S9 H10 locs p_11 hI => ?_)
      obtain ⟨er12, eS13⟩ := p_11
      rw [eS13] at hI
      have er12 : r12 = nI (eN (pN (hA i) (hB i) (hC i)) 1) := er12
      subst er12
      refine lv_topi (fun v14 ev14 => ?_)
      obtain rfl : v14 = nI (hB i) := ev14.trans (by rw [pN_1 ka kb kd])
      refine lv_iload_n hx hb d_M_divider_38 rfl (lv_at hl 2 rfl) ?_
      refine lv_icmp_gt (tgt := 60) hx hb d_M_divider_39 (by decide) (fun c1 => ?_) (fun c1 => ?_)
      · rw [nI_ltI (by omega) (by omega)] at c1
        refine lv_iinc (v := nI (i + 1)) (lv' := [(4, .int (nI (i + 1))), (3, .int (nI d)), (2, .int (nI b)), (1, .int (nI a)), (0, .ref o)]) hx hb d_M_divider_60 hl (k := 0) rfl (nI_1 _) (by decide) rfl (fun ls hl => ?_)
        refine lv_goto (tgt := 3) hx hb d_M_divider_63 (by decide) ?_
        exact ih (i + 1) _ locs ls (by omega) (fd_step hno (fun q => absurd q.2.1 (by omega))) hI (lv_sub hl [0, 1, 2, 3, 4] rfl)
      · rw [nI_ltI (by omega) (by omega)] at c1
        refine lv_aload_n hx hb d_M_divider_42 rfl (lv_at hl 4 rfl) ?_
        refine mp_get (C := R_M) (T := F_M) (N := 31) (v := .ref hd) hx hb hg i_M hown hK.va hI h_o rfl 9 (by decide) (hg _ q_813) (fun _ h9 => h9) rfl d_M_divider_43 ?_
        refine lv_iload hx hb d_M_divider_46 (lv_at hl 0 rfl) ?_
        refine mp_iald hx hb hK.va hI 0 h_hd rfl (vp_in_nI (show i < 12 by omega) (by decide)) d_M_divider_48 ?_
        refine lv_topi (fun v15 ev15 => ?_)
        obtain rfl : v15 = nI (pN (hA i) (hB i) (hC i)) := ev15.trans (by rw [nI_clamp (by omega)]; exact he)
        refine lv_iconst (v := nI 2) hx hb d_M_divider_49 (by decide) ?_
        refine mp_calli hI (va_runS (As := [.int (nI (pN (hA i) (hB i) (hC i))), .int (nI 2)]) (rest := []) ⟨hx, hb, hml, hown, hg⟩ (c_M_expo l D g S _ (pN (hA i) (hB i) (hC i)) 2 (pN_lt ka kb kd) (by decide)) ⟨(callB_of 2 hg (wd_goodG q_943) rfl rfl rfl (hg _ q_5) (hg _ q_941) (by decide +kernel) ⟨Nat.le_trans (Nat.le_of_ble_eq_true rfl) hRf, Nat.le_trans (Nat.le_of_ble_eq_true rfl) hRl⟩), hg _ q_942⟩ (mp_pre hI hK [.int (nI (pN (hA i) (hB i) (hC i))), .int (nI 2)]) rfl rfl hl.1 rfl (lv_room (Nat.le_of_ble_eq_true rfl)) d_M_divider_50 ⟨by omega, by omega⟩) (fun r19 S16 H17 locs p_18 hI => ?_)
        obtain ⟨er19, eS20⟩ := p_18
        rw [eS20] at hI
        have er19 : r19 = nI (eN (pN (hA i) (hB i) (hC i)) 2) := er19
        subst er19
        refine lv_topi (fun v21 ev21 => ?_)
        obtain rfl : v21 = nI (hC i) := ev21.trans (by rw [pN_2 ka kb kd])
        refine lv_iload_n hx hb d_M_divider_53 rfl (lv_at hl 1 rfl) ?_
        refine lv_icmp_gt (tgt := 60) hx hb d_M_divider_54 (by decide) (fun c2 => ?_) (fun c2 => ?_)
        · rw [nI_ltI (by omega) (by omega)] at c2
          refine lv_iinc (v := nI (i + 1)) (lv' := [(4, .int (nI (i + 1))), (3, .int (nI d)), (2, .int (nI b)), (1, .int (nI a)), (0, .ref o)]) hx hb d_M_divider_60 hl (k := 0) rfl (nI_1 _) (by decide) rfl (fun ls hl => ?_)
          refine lv_goto (tgt := 3) hx hb d_M_divider_63 (by decide) ?_
          exact ih (i + 1) _ locs ls (by omega) (fd_step hno (fun q => absurd q.2.2 (by omega))) hI (lv_sub hl [0, 1, 2, 3, 4] rfl)
        · rw [nI_ltI (by omega) (by omega)] at c2
          refine lv_iload hx hb d_M_divider_57 (lv_at hl 0 rfl) ?_
          refine mp_iret hx hb hr hlocks hI hc0 hs0 ?_ d_M_divider_59
          exact ⟨Or.inl ⟨i, by omega, ⟨by omega, by omega, by omega⟩, hno, rfl⟩, rfl⟩
set_option maxHeartbeats 4000000 in
set_option maxRecDepth 100000 in
/-- the first head that divides -/
theorem c_M_divider (l : Launch) (D : mp_G) (g : Nat → ClassId) (S : mp_M) (sz : Nat) (o hd n a b d : Nat) (m0 m1 m2 m3 m4 m6 m7 m8 m10 m11 m12 m13 m14 m15 m16 m17 m18 m19 m20 m21 m22 m23 m24 m25 m26 m27 m28 m29 m30 : Value) (hf : Nat → Int32) (hA hB hC : Nat → Nat) (h_o : S o = some (2000, .inr (10, [m0, m1, m2, m3, m4, .int (nI n), m6, m7, m8, .ref hd, m10, m11, m12, m13, m14, m15, m16, m17, m18, m19, m20, m21, m22, m23, m24, m25, m26, m27, m28, m29, m30]))) (h_hd : S hd = some (2005, .inl ((g 0), 12, .inl hf))) (hh : mhS n hA hB hC hf) (hn : n ≤ 12) (ha : a < 32) (hb9 : b < 32) (hd9 : d < 32) : Met l y_M_divider w_M_divider ({ frames := 1, cells := 0, slots := 0, locals := 21 }) (va_Pc [.ref o, .int (nI a), .int (nI b), .int (nI d)] (mp_B0 D classes (tys g) S sz)) (va_Qi (fun (r : Int32) (S1 : mp_M) => fdN n hA hB hC a b d r ∧ S1 = S) (mp_B1 D classes S sz) (mp_A S sz)) 0 0 (mp_A S sz) := by
  refine Met.ofW (cc := b_M_divider) (maxL := 5) (ret := (some .int)) (by decide) rfl ?_
  intro p e s m args below meth c s₁ B hml hv
  obtain ⟨rfl, hsz, hH, hK⟩ := hv
  have hx := B.exec
  have hb := B.bytes
  have hr := B.returns
  have hts := atoms_spec (ws := w_M_divider) B.pre
  have hg : ∀ w ∈ gw, w.before _ s = true := fun w h => hts w (List.mem_cons_of_mem _ h)
  have hown : s.vm.findClass R_M = some m.cls := findClass_of_methodNamed B.named
  have hlocks := B.notSynchronized
  subst hsz
  have hI := mp_I.start hH
  have hl := lv_entry ([.ref o, .int (nI a), .int (nI b), .int (nI d)]) (n := 5) (Nat.le_of_ble_eq_true rfl)
  rw [lg_entry_eq]
  generalize (lg_sl ([.ref o, .int (nI a), .int (nI b), .int (nI d)]) ++ List.replicate (5 - (lg_sl ([.ref o, .int (nI a), .int (nI b), .int (nI d)])).length) Slot.unset).toArray = ls at hl ⊢
  have hl : lv_has ls 5 [(0, .ref o), (1, .int (nI a)), (2, .int (nI b)), (3, .int (nI d))] := hl
  refine lv_iconst (v := nI 0) hx hb d_M_divider_0 (by decide) ?_
  refine lv_istore (lv' := [(4, .int (nI 0)), (0, .ref o), (1, .int (nI a)), (2, .int (nI b)), (3, .int (nI d))]) hx hb d_M_divider_1 hl (by decide) rfl (fun ls hl => ?_)
  exact lp_M_divider hx hb hml hr hlocks hg hown hK (Nat.le_of_ble_eq_true rfl) (Nat.le_of_ble_eq_true rfl) (Nat.le_of_ble_eq_true rfl) (Nat.le_of_ble_eq_true rfl) (Nat.le_of_ble_eq_true rfl) (Nat.le_of_ble_eq_true rfl) h_o h_hd hh hn ha hb9 hd9 n 0 s.heap _ ls (by omega) (fun j hj => absurd hj (Nat.not_lt_zero j)) hI (lv_sub hl [0, 4, 3, 2, 1] rfl)
