/-- a head divides a power; the first that does -/
def dvN (hA hB hC : Nat → Nat) (a b d i : Nat) : Prop := hA i ≤ a ∧ hB i ≤ b ∧ hC i ≤ d
def fdN (n : Nat) (hA hB hC : Nat → Nat) (a b d : Nat) (r : Int32) : Prop := (∃ i, i < n ∧ dvN hA hB hC a b d i ∧ (∀ j, j < i → ¬ dvN hA hB hC a b d j) ∧ r = nI i) ∨ ((∀ j, j < n → ¬ dvN hA hB hC a b d j) ∧ r = -1)
theorem fd_step {hA hB hC : Nat → Nat} {a b d i : Nat} (h : ∀ j, j < i → ¬ dvN hA hB hC a b d j) (g : ¬ dvN hA hB hC a b d i) : ∀ j, j < i + 1 → ¬ dvN hA hB hC a b d j := fun j hj => by
  by_cases e : j = i
  · subst e; exact g
  · exact h j (by omega)
theorem d_K_firstDividing_0 : decode b_K_firstDividing 0 = .ok (.iconst 0, 1) := by decide +kernel
theorem d_K_firstDividing_1 : decode b_K_firstDividing 1 = .ok (.istore_n 2, 1) := by decide +kernel
theorem d_K_firstDividing_2 : decode b_K_firstDividing 2 = .ok (.iload_n 2, 1) := by decide +kernel
theorem d_K_firstDividing_3 : decode b_K_firstDividing 3 = .ok (.aload_n 0, 1) := by decide +kernel
theorem d_K_firstDividing_4 : decode b_K_firstDividing 4 = .ok (.getfield 26, 3) := by decide +kernel
theorem d_K_firstDividing_7 : decode b_K_firstDividing 7 = .ok (.if_icmp .ge 24, 3) := by decide +kernel
theorem d_K_firstDividing_10 : decode b_K_firstDividing 10 = .ok (.aload_n 0, 1) := by decide +kernel
theorem d_K_firstDividing_11 : decode b_K_firstDividing 11 = .ok (.getfield 17, 3) := by decide +kernel
theorem d_K_firstDividing_14 : decode b_K_firstDividing 14 = .ok (.iload_n 2, 1) := by decide +kernel
theorem d_K_firstDividing_15 : decode b_K_firstDividing 15 = .ok (.iaload, 1) := by decide +kernel
theorem d_K_firstDividing_16 : decode b_K_firstDividing 16 = .ok (.iload_n 1, 1) := by decide +kernel
theorem d_K_firstDividing_17 : decode b_K_firstDividing 17 = .ok (.invokestatic 34, 3) := by decide +kernel
theorem d_K_firstDividing_20 : decode b_K_firstDividing 20 = .ok (.ifCond .eq 5, 3) := by decide +kernel
theorem d_K_firstDividing_23 : decode b_K_firstDividing 23 = .ok (.iload_n 2, 1) := by decide +kernel
theorem d_K_firstDividing_24 : decode b_K_firstDividing 24 = .ok (.ireturn, 1) := by decide +kernel
theorem d_K_firstDividing_25 : decode b_K_firstDividing 25 = .ok (.iinc 2 1, 3) := by decide +kernel
theorem d_K_firstDividing_28 : decode b_K_firstDividing 28 = .ok (.goto (-26), 3) := by decide +kernel
theorem d_K_firstDividing_31 : decode b_K_firstDividing 31 = .ok (.iconst (-1), 1) := by decide +kernel
theorem d_K_firstDividing_32 : decode b_K_firstDividing 32 = .ok (.ireturn, 1) := by decide +kernel
set_option maxHeartbeats 4000000 in
set_option maxRecDepth 100000 in
theorem lp_K_first {p : Program} {l : Launch} {e : Env} {R : Room} {s : State} {m : MethodId} {args : Array Value} {below : List Frame} {meth : Method} {c : Code} {D : mp_G} {g : Nat → ClassId} {cells slots : Nat} {S : mp_M} (hx : p.tables.exec = Jvm.exec) (hb : c.code = b_K_firstDividing) (hml : c.maxLocals = 3) (hr : meth.sig.returnType = some .int) (hlocks : meth.locks = false) (hg : ∀ w ∈ gw, w.before args s = true) (hown : s.vm.findClass R_K = some m.cls) (hK : mp_K D classes (tys g) s) (hRf : 1 ≤ R.frames) (hRl : 24 ≤ R.locals) (hRc : cells ≤ R.cells) (hRs : slots ≤ R.slots) (hc0 : cells ≤ 0) (hs0 : slots ≤ 0) {o hd n a b d : Nat} {u0 : Value} {hf : Nat → Int32} {hA hB hC : Nat → Nat} (h_o : S o = some (2, .inr (9, [u0, .ref hd, .int (nI n)]))) (h_hd : S hd = some (5, .inl ((g 0), 12, .inl hf))) (hh : hdS n hA hB hC hf) (hn : n ≤ 12) (ha : a < 32) (hb9 : b < 32) (hd9 : d < 32) : ∀ (k i : Nat) (H : Heap) (locs : List Loc) (ls : Array Slot), i + k = n → (∀ j, j < i → ¬ dvN hA hB hC a b d j) → mp_I D classes (mp_A S s.heap.size) s.heap S H locs → lv_has ls 3 [(2, .int (nI i)), (1, .int (nI (kN a b d))), (0, .ref o)] → W p l e R s m args below meth c H locs cells slots (MQ below (va_Qi (fun (r : Int32) (S1 : mp_M) => fdN n hA hB hC a b d r ∧ S1 = S) (mp_B1 D classes S s.heap.size) (mp_A S s.heap.size)) args s 0 0 (mp_A S s.heap.size)) (F0 m 2 ls []) := by
  intro k
  induction k with
  | zero =>
    intro i H locs ls hi hno hI hl
    obtain rfl : i = n := by omega
    refine lv_iload_n hx hb d_K_firstDividing_2 rfl (lv_at hl 0 rfl) ?_
    refine lv_aload_n hx hb d_K_firstDividing_3 rfl (lv_at hl 2 rfl) ?_
    refine mp_get (C := R_K) (T := F_K) (N := 3) (v := .int (nI i)) hx hb hg i_K hown hK.va hI h_o rfl 2 (by decide) (hg _ q_66) (fun _ h9 => h9) rfl d_K_firstDividing_4 ?_
    refine lv_icmp_ge (tgt := 31) hx hb d_K_firstDividing_7 (by decide) (fun _ => ?_) (fun h9 => absurd ((nI_leI (by omega) (by omega)).mpr (by omega)) h9)
    refine lv_iconst (v := (-1)) hx hb d_K_firstDividing_31 (by decide) ?_
    refine mp_iret hx hb hr hlocks hI hc0 hs0 ?_ d_K_firstDividing_32
    exact ⟨Or.inr ⟨hno, rfl⟩, rfl⟩
  | succ k ih =>
    intro i H locs ls hi hno hI hl
    obtain ⟨he, ka, kb, kd⟩ := hh i (by omega)
    refine lv_iload_n hx hb d_K_firstDividing_2 rfl (lv_at hl 0 rfl) ?_
    refine lv_aload_n hx hb d_K_firstDividing_3 rfl (lv_at hl 2 rfl) ?_
    refine mp_get (C := R_K) (T := F_K) (N := 3) (v := .int (nI n)) hx hb hg i_K hown hK.va hI h_o rfl 2 (by decide) (hg _ q_66) (fun _ h9 => h9) rfl d_K_firstDividing_4 ?_
    refine lv_icmp_ge (tgt := 31) hx hb d_K_firstDividing_7 (by decide) (fun h9 => absurd h9 (by rw [nI_leI (by omega) (by omega)]; omega)) (fun _ => ?_)
    refine lv_aload_n hx hb d_K_firstDividing_10 rfl (lv_at hl 2 rfl) ?_
    refine mp_get (C := R_K) (T := F_K) (N := 3) (v := .ref hd) hx hb hg i_K hown hK.va hI h_o rfl 1 (by decide) (hg _ q_63) (fun _ h9 => h9) rfl d_K_firstDividing_11 ?_
    refine lv_iload_n hx hb d_K_firstDividing_14 rfl (lv_at hl 0 rfl) ?_
    refine mp_iald hx hb hK.va hI 0 h_hd rfl (vp_in_nI (show i < 12 by omega) (by decide)) d_K_firstDividing_15 ?_
    refine lv_topi (fun v1 ev1 => ?_)
    obtain rfl : v1 = nI (kN (hA i) (hB i) (hC i)) := ev1.trans (by rw [nI_clamp (by omega)]; exact he)
    refine lv_iload_n hx hb d_K_firstDividing_16 rfl (lv_at hl 1 rfl) ?_
    refine mp_calli hI (va_runS (As := [.int (nI (kN (hA i) (hB i) (hC i))), .int (nI (kN a b d))]) (rest := []) ⟨hx, hb, hml, hown, hg⟩ (c_W_divides l D g S _ (hA i) (hB i) (hC i) a b d (by omega) (by omega) (by omega) ha hb9 hd9) ⟨(callB_of 2 hg (wd_goodG q_353) rfl rfl rfl (hg _ q_11) (hg _ q_351) (by decide +kernel) ⟨Nat.le_trans (Nat.le_of_ble_eq_true rfl) hRf, Nat.le_trans (Nat.le_of_ble_eq_true rfl) hRl⟩), hg _ q_352⟩ (mp_pre hI hK [.int (nI (kN (hA i) (hB i) (hC i))), .int (nI (kN a b d))]) rfl rfl hl.1 rfl (lv_room (Nat.le_of_ble_eq_true rfl)) d_K_firstDividing_17 ⟨by omega, by omega⟩) (fun r5 S2 H3 locs p_4 hI => ?_)
    obtain ⟨er5, eS6⟩ := p_4
    rw [eS6] at hI
    have er5 : (dvN hA hB hC a b d i ∧ r5 = 1) ∨ (¬ dvN hA hB hC a b d i ∧ r5 = 0) := by by_cases q : hA i ≤ a ∧ hB i ≤ b ∧ hC i ≤ d; exact Or.inl ⟨q, er5.trans (if_pos q)⟩; exact Or.inr ⟨q, er5.trans (if_neg q)⟩
    rcases er5 with ⟨hdv, rfl⟩ | ⟨hdv, rfl⟩
    · refine lv_if_eq (tgt := 25) hx hb d_K_firstDividing_20 (by decide) (fun h9 => absurd h9 (by decide)) (fun _ => ?_)
      refine lv_iload_n hx hb d_K_firstDividing_23 rfl (lv_at hl 0 rfl) ?_
      refine mp_iret hx hb hr hlocks hI hc0 hs0 ?_ d_K_firstDividing_24
      exact ⟨Or.inl ⟨i, by omega, hdv, hno, rfl⟩, rfl⟩
    · refine lv_if_eq (tgt := 25) hx hb d_K_firstDividing_20 (by decide) (fun _ => ?_) (fun h9 => absurd (by decide) h9)
      refine lv_iinc (v := nI (i + 1)) (lv' := [(2, .int (nI (i + 1))), (1, .int (nI (kN a b d))), (0, .ref o)]) hx hb d_K_firstDividing_25 hl (k := 0) rfl (nI_1 _) (by decide) rfl (fun ls hl => ?_)
      refine lv_goto (tgt := 2) hx hb d_K_firstDividing_28 (by decide) ?_
      exact ih (i + 1) _ locs ls (by omega) (fd_step hno hdv) hI (lv_sub hl [0, 1, 2] rfl)
set_option maxHeartbeats 4000000 in
set_option maxRecDepth 100000 in
/-- the first head that divides -/
theorem c_K_firstDividing (l : Launch) (D : mp_G) (g : Nat → ClassId) (S : mp_M) (sz : Nat) (o hd n a b d : Nat) (u0 : Value) (hf : Nat → Int32) (hA hB hC : Nat → Nat) (h_o : S o = some (2, .inr (9, [u0, .ref hd, .int (nI n)]))) (h_hd : S hd = some (5, .inl ((g 0), 12, .inl hf))) (hh : hdS n hA hB hC hf) (hn : n ≤ 12) (ha : a < 32) (hb9 : b < 32) (hd9 : d < 32) : Met l y_K_firstDividing w_K_firstDividing ({ frames := 1, cells := 0, slots := 0, locals := 24 }) (va_Pc [.ref o, .int (nI (kN a b d))] (mp_B0 D classes (tys g) S sz)) (va_Qi (fun (r : Int32) (S1 : mp_M) => fdN n hA hB hC a b d r ∧ S1 = S) (mp_B1 D classes S sz) (mp_A S sz)) 0 0 (mp_A S sz) := by
  refine Met.ofW (cc := b_K_firstDividing) (maxL := 3) (ret := (some .int)) (by decide) rfl ?_
  intro p e s m args below meth c s₁ B hml hv
  obtain ⟨rfl, hsz, hH, hK⟩ := hv
  have hx := B.exec
  have hb := B.bytes
  have hr := B.returns
  have hts := atoms_spec (ws := w_K_firstDividing) B.pre
  have hg : ∀ w ∈ gw, w.before _ s = true := fun w h => hts w (List.mem_cons_of_mem _ h)
  have hown : s.vm.findClass R_K = some m.cls := findClass_of_methodNamed B.named
  have hlocks := B.notSynchronized
  subst hsz
  have hI := mp_I.start hH
  have hl := lv_entry ([.ref o, .int (nI (kN a b d))]) (n := 3) (Nat.le_of_ble_eq_true rfl)
  rw [lg_entry_eq]
  generalize (lg_sl ([.ref o, .int (nI (kN a b d))]) ++ List.replicate (3 - (lg_sl ([.ref o, .int (nI (kN a b d))])).length) Slot.unset).toArray = ls at hl ⊢
  have hl : lv_has ls 3 [(0, .ref o), (1, .int (nI (kN a b d)))] := hl
  refine lv_iconst (v := nI 0) hx hb d_K_firstDividing_0 (by decide) ?_
  refine lv_istore_n (lv' := [(2, .int (nI 0)), (0, .ref o), (1, .int (nI (kN a b d)))]) hx hb d_K_firstDividing_1 rfl hl (by decide) rfl (fun ls hl => ?_)
  exact lp_K_first hx hb hml hr hlocks hg hown hK (Nat.le_of_ble_eq_true rfl) (Nat.le_of_ble_eq_true rfl) (Nat.le_of_ble_eq_true rfl) (Nat.le_of_ble_eq_true rfl) (Nat.le_of_ble_eq_true rfl) (Nat.le_of_ble_eq_true rfl) h_o h_hd hh hn ha hb9 hd9 n 0 s.heap _ ls (by omega) (fun j hj => absurd hj (Nat.not_lt_zero j)) hI (lv_sub hl [0, 2, 1] rfl)
