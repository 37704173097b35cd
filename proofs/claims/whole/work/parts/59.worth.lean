theorem ev_Em (x y w : fF) (p : Nat) : ev x y w (Em p) = x ^ (p % 10) * y ^ (p / 10 % 10) * w ^ (p / 100) := rfl
theorem Em_pN {u : m3} (h : e9 u) : Em (pN u.1 u.2.1 u.2.2) = u := by
  obtain ⟨h1, h2, h3⟩ := h
  unfold pN; exact Em_pl (by omega) (by omega)
/-- Horner from above: what is left below k -/
def hoN (c : Nat → fF) (x : fF) : Nat → fF → fF
  | 0, v => v
  | k + 1, v => hoN c x k (v * x + c k)
theorem ho_pe (c : Nat → fF) (x : fF) : ∀ (k : Nat) (v : fF), hoN c x k v = v * x ^ k + pe k c x
  | 0, v => by unfold hoN pe; rw [sm_0]; grind
  | k + 1, v => by
    unfold hoN
    rw [ho_pe c x k, pe_s]; grind

theorem d_M_leastAt_0 : decode b_M_leastAt 0 = .ok (.iconst 0, 1) := by decide +kernel
theorem d_M_leastAt_1 : decode b_M_leastAt 1 = .ok (.istore_n 3, 1) := by decide +kernel
theorem d_M_leastAt_2 : decode b_M_leastAt 2 = .ok (.aload_n 0, 1) := by decide +kernel
theorem d_M_leastAt_3 : decode b_M_leastAt 3 = .ok (.getfield 38, 3) := by decide +kernel
theorem d_M_leastAt_6 : decode b_M_leastAt 6 = .ok (.iload_n 1, 1) := by decide +kernel
theorem d_M_leastAt_7 : decode b_M_leastAt 7 = .ok (.iaload, 1) := by decide +kernel
theorem d_M_leastAt_8 : decode b_M_leastAt 8 = .ok (.istore 4, 2) := by decide +kernel
theorem d_M_leastAt_10 : decode b_M_leastAt 10 = .ok (.iload 4, 2) := by decide +kernel
theorem d_M_leastAt_12 : decode b_M_leastAt 12 = .ok (.ifCond .lt 30, 3) := by decide +kernel
theorem d_M_leastAt_15 : decode b_M_leastAt 15 = .ok (.iload_n 3, 1) := by decide +kernel
theorem d_M_leastAt_16 : decode b_M_leastAt 16 = .ok (.iload_n 2, 1) := by decide +kernel
theorem d_M_leastAt_17 : decode b_M_leastAt 17 = .ok (.invokestatic 87, 3) := by decide +kernel
theorem d_M_leastAt_20 : decode b_M_leastAt 20 = .ok (.aload_n 0, 1) := by decide +kernel
theorem d_M_leastAt_21 : decode b_M_leastAt 21 = .ok (.getfield 41, 3) := by decide +kernel
theorem d_M_leastAt_24 : decode b_M_leastAt 24 = .ok (.bipush 17, 2) := by decide +kernel
theorem d_M_leastAt_26 : decode b_M_leastAt 26 = .ok (.iload_n 1, 1) := by decide +kernel
theorem d_M_leastAt_27 : decode b_M_leastAt 27 = .ok (.imul, 1) := by decide +kernel
theorem d_M_leastAt_28 : decode b_M_leastAt 28 = .ok (.iload 4, 2) := by decide +kernel
theorem d_M_leastAt_30 : decode b_M_leastAt 30 = .ok (.iadd, 1) := by decide +kernel
theorem d_M_leastAt_31 : decode b_M_leastAt 31 = .ok (.iaload, 1) := by decide +kernel
theorem d_M_leastAt_32 : decode b_M_leastAt 32 = .ok (.invokestatic 174, 3) := by decide +kernel
theorem d_M_leastAt_35 : decode b_M_leastAt 35 = .ok (.istore_n 3, 1) := by decide +kernel
theorem d_M_leastAt_36 : decode b_M_leastAt 36 = .ok (.iinc 4 (-1), 3) := by decide +kernel
theorem d_M_leastAt_39 : decode b_M_leastAt 39 = .ok (.goto (-29), 3) := by decide +kernel
theorem d_M_leastAt_42 : decode b_M_leastAt 42 = .ok (.iload_n 3, 1) := by decide +kernel
theorem d_M_leastAt_43 : decode b_M_leastAt 43 = .ok (.ireturn, 1) := by decide +kernel
theorem d_M_power_0 : decode b_M_power 0 = .ok (.iconst 1, 1) := by decide +kernel
theorem d_M_power_1 : decode b_M_power 1 = .ok (.istore_n 2, 1) := by decide +kernel
theorem d_M_power_2 : decode b_M_power 2 = .ok (.iconst 0, 1) := by decide +kernel
theorem d_M_power_3 : decode b_M_power 3 = .ok (.istore_n 3, 1) := by decide +kernel
theorem d_M_power_4 : decode b_M_power 4 = .ok (.iload_n 3, 1) := by decide +kernel
theorem d_M_power_5 : decode b_M_power 5 = .ok (.iload_n 1, 1) := by decide +kernel
theorem d_M_power_6 : decode b_M_power 6 = .ok (.if_icmp .ge 15, 3) := by decide +kernel
theorem d_M_power_9 : decode b_M_power 9 = .ok (.iload_n 2, 1) := by decide +kernel
theorem d_M_power_10 : decode b_M_power 10 = .ok (.iload_n 0, 1) := by decide +kernel
theorem d_M_power_11 : decode b_M_power 11 = .ok (.invokestatic 87, 3) := by decide +kernel
theorem d_M_power_14 : decode b_M_power 14 = .ok (.istore_n 2, 1) := by decide +kernel
theorem d_M_power_15 : decode b_M_power 15 = .ok (.iinc 3 1, 3) := by decide +kernel
theorem d_M_power_18 : decode b_M_power 18 = .ok (.goto (-14), 3) := by decide +kernel
theorem d_M_power_21 : decode b_M_power 21 = .ok (.iload_n 2, 1) := by decide +kernel
theorem d_M_power_22 : decode b_M_power 22 = .ok (.ireturn, 1) := by decide +kernel
theorem d_M_worth_0 : decode b_M_worth 0 = .ok (.iload_n 1, 1) := by decide +kernel
theorem d_M_worth_1 : decode b_M_worth 1 = .ok (.iload_n 0, 1) := by decide +kernel
theorem d_M_worth_2 : decode b_M_worth 2 = .ok (.iconst 0, 1) := by decide +kernel
theorem d_M_worth_3 : decode b_M_worth 3 = .ok (.invokestatic 94, 3) := by decide +kernel
theorem d_M_worth_6 : decode b_M_worth 6 = .ok (.invokestatic 188, 3) := by decide +kernel
theorem d_M_worth_9 : decode b_M_worth 9 = .ok (.iload_n 2, 1) := by decide +kernel
theorem d_M_worth_10 : decode b_M_worth 10 = .ok (.iload_n 0, 1) := by decide +kernel
theorem d_M_worth_11 : decode b_M_worth 11 = .ok (.iconst 1, 1) := by decide +kernel
theorem d_M_worth_12 : decode b_M_worth 12 = .ok (.invokestatic 94, 3) := by decide +kernel
theorem d_M_worth_15 : decode b_M_worth 15 = .ok (.invokestatic 188, 3) := by decide +kernel
theorem d_M_worth_18 : decode b_M_worth 18 = .ok (.invokestatic 87, 3) := by decide +kernel
theorem d_M_worth_21 : decode b_M_worth 21 = .ok (.iload_n 3, 1) := by decide +kernel
theorem d_M_worth_22 : decode b_M_worth 22 = .ok (.iload_n 0, 1) := by decide +kernel
theorem d_M_worth_23 : decode b_M_worth 23 = .ok (.iconst 2, 1) := by decide +kernel
theorem d_M_worth_24 : decode b_M_worth 24 = .ok (.invokestatic 94, 3) := by decide +kernel
theorem d_M_worth_27 : decode b_M_worth 27 = .ok (.invokestatic 188, 3) := by decide +kernel
theorem d_M_worth_30 : decode b_M_worth 30 = .ok (.invokestatic 87, 3) := by decide +kernel
theorem d_M_worth_33 : decode b_M_worth 33 = .ok (.ireturn, 1) := by decide +kernel
set_option maxHeartbeats 4000000 in
set_option maxRecDepth 100000 in
theorem lp_M_power {p : Program} {l : Launch} {e : Env} {R : Room} {s : State} {m : MethodId} {args : Array Value} {below : List Frame} {meth : Method} {c : Code} {Q : State → Prop} {D : mp_G} {g : Nat → ClassId} {A : Nat → Prop} {cells slots : Nat} (hx : p.tables.exec = Jvm.exec) (hb : c.code = b_M_power) (hml : c.maxLocals = 4) (hg : ∀ w ∈ gw, w.before args s = true) (hown : s.vm.findClass R_M = some m.cls) (hK : mp_K D classes (tys g) s) (hRf : 1 ≤ R.frames) (hRl : 21 ≤ R.locals) (hRc : cells ≤ R.cells) (hRs : slots ≤ R.slots) {B : mp_M} {n9 : Nat} {x9 : fF} (hn : n9 < 2 ^ 31) : ∀ (k : Nat) (i : Nat) (y9 : fF) (S : mp_M) (H : Heap) (locs : List Loc) (ls : Array Slot), i + k = n9 → (y9 = x9 ^ i) → (∀ b t e9, B b = some (t, e9) → S b = some (t, e9)) → mp_I D classes A s.heap S H locs → lv_has ls 4 [(3, .int (nI i)), (2, .int (nI (y9).val)), (1, .int (nI n9)), (0, .int (nI (x9).val))] → (∀ (y9 : fF) (S : mp_M) (H : Heap) (locs : List Loc) (ls : Array Slot), (y9 = x9 ^ n9) → (∀ b t e9, B b = some (t, e9) → S b = some (t, e9)) → mp_I D classes A s.heap S H locs → lv_has ls 4 [(3, .int (nI n9)), (2, .int (nI (y9).val)), (1, .int (nI n9)), (0, .int (nI (x9).val))] → W p l e R s m args below meth c H locs cells slots Q (F0 m 21 ls [])) → W p l e R s m args below meth c H locs cells slots Q (F0 m 4 ls []) := by
  intro k
  induction k with
  | zero =>
    intro i y9 S H locs ls hi hy hfr hI hl kx
    refine lv_iload_n hx hb d_M_power_4 rfl (lv_at hl 0 rfl) ?_
    refine lv_iload_n hx hb d_M_power_5 rfl (lv_at hl 2 rfl) ?_
    refine lv_icmp_ge (tgt := 21) hx hb d_M_power_6 (by decide) (fun _ => ?_) (fun h9 => absurd ((nI_leI (by omega) (by omega)).mpr (by omega)) h9)
    obtain rfl : i = n9 := by omega
    exact kx y9 S H locs ls hy hfr hI (lv_sub hl [0, 1, 2, 3] rfl)
  | succ k ih =>
    intro i y9 S H locs ls hi hy hfr hI hl kx
    refine lv_iload_n hx hb d_M_power_4 rfl (lv_at hl 0 rfl) ?_
    refine lv_iload_n hx hb d_M_power_5 rfl (lv_at hl 2 rfl) ?_
    refine lv_icmp_ge (tgt := 21) hx hb d_M_power_6 (by decide) (fun h9 => absurd h9 (by rw [nI_leI (by omega) (by omega)]; omega)) (fun _ => ?_)
    refine lv_iload_n hx hb d_M_power_9 rfl (lv_at hl 1 rfl) ?_
    refine lv_iload_n hx hb d_M_power_10 rfl (lv_at hl 3 rfl) ?_
    refine mp_calli hI (va_runS (As := [.int (nI (y9).val), .int (nI (x9).val)]) (rest := []) ⟨hx, hb, hml, hown, hg⟩ (c_M_times l D g S _ (y9).val (x9).val (by omega) (by omega)) ⟨(callB_of 2 hg (wd_goodG q_927) rfl rfl rfl (hg _ q_5) (hg _ q_925) (by decide +kernel) ⟨Nat.le_trans (Nat.le_of_ble_eq_true rfl) hRf, Nat.le_trans (Nat.le_of_ble_eq_true rfl) hRl⟩), hg _ q_926⟩ (mp_pre hI hK [.int (nI (y9).val), .int (nI (x9).val)]) rfl rfl hl.1 rfl (lv_room (Nat.le_of_ble_eq_true rfl)) d_M_power_11 ⟨by omega, by omega⟩) (fun r4 S1 H2 locs p_3 hI => ?_)
    obtain ⟨er4, eS5⟩ := p_3
    rw [eS5] at hI
    have er4 : r4 = nI ((y9).val * (x9).val % 32003) := er4
    subst er4
    refine lv_topi (fun v6 ev6 => ?_)
    obtain rfl : v6 = nI (y9 * x9).val := ev6.trans (congrArg nI (fv_mul _ _))
    refine lv_istore_n (lv' := [(2, .int (nI (y9 * x9).val)), (3, .int (nI i)), (1, .int (nI n9)), (0, .int (nI (x9).val))]) hx hb d_M_power_14 rfl hl (by decide) rfl (fun ls hl => ?_)
    refine lv_iinc (v := nI (i + 1)) (lv' := [(3, .int (nI (i + 1))), (2, .int (nI (y9 * x9).val)), (1, .int (nI n9)), (0, .int (nI (x9).val))]) hx hb d_M_power_15 hl (k := 1) rfl (nI_1 _) (by decide) rfl (fun ls hl => ?_)
    refine lv_goto (tgt := 4) hx hb d_M_power_18 (by decide) ?_
    exact ih (i + 1) (y9 * x9) S H2 locs ls (by omega) (by rw [hy, pw_s]) hfr hI (lv_sub hl [0, 1, 2, 3] rfl) kx
set_option maxHeartbeats 4000000 in
set_option maxRecDepth 100000 in
/-- a power of a number -/
theorem c_M_power (l : Launch) (D : mp_G) (g : Nat → ClassId) (S : mp_M) (sz : Nat) (n9 : Nat) (x9 : fF)  (hn : n9 < 2 ^ 31) : Met l y_M_power w_M_power ({ frames := 1, cells := 0, slots := 0, locals := 21 }) (va_Pc [.int (nI (x9).val), .int (nI n9)] (mp_B0 D classes (tys g) S sz)) (va_Qi (fun (r : Int32) (S1 : mp_M) => r = nI (x9 ^ n9).val ∧ (∀ b t e9, S b = some (t, e9) → S1 b = some (t, e9))) (mp_B1 D classes S sz) (mp_A S sz)) 0 0 (mp_A S sz) := by
  refine Met.ofW (cc := b_M_power) (maxL := 4) (ret := (some .int)) (by decide) rfl ?_
  intro p e s m args below meth c s₁ B hml hv
  obtain ⟨rfl, hsz, hH, hK⟩ := hv
  have hx := B.exec
  have hb := B.bytes
  have hr := B.returns
  have hts := atoms_spec (ws := w_M_power) B.pre
  have hg : ∀ w ∈ gw, w.before _ s = true := fun w h => hts w (List.mem_cons_of_mem _ h)
  have hown : s.vm.findClass R_M = some m.cls := findClass_of_methodNamed B.named
  have hlocks := B.notSynchronized
  subst hsz
  have hI := mp_I.start hH
  have hl := lv_entry ([.int (nI (x9).val), .int (nI n9)]) (n := 4) (Nat.le_of_ble_eq_true rfl)
  rw [lg_entry_eq]
  generalize (lg_sl ([.int (nI (x9).val), .int (nI n9)]) ++ List.replicate (4 - (lg_sl ([.int (nI (x9).val), .int (nI n9)])).length) Slot.unset).toArray = ls at hl ⊢
  have hl : lv_has ls 4 [(0, .int (nI (x9).val)), (1, .int (nI n9))] := hl
  have hfr : ∀ b t e9, S b = some (t, e9) → S b = some (t, e9) := fun _ _ _ h9 => h9
  refine lv_iconst (v := nI 1) hx hb d_M_power_0 (by decide) ?_
  refine lv_istore_n (lv' := [(2, .int (nI 1)), (0, .int (nI (x9).val)), (1, .int (nI n9))]) hx hb d_M_power_1 rfl hl (by decide) rfl (fun ls hl => ?_)
  refine lv_iconst (v := nI 0) hx hb d_M_power_2 (by decide) ?_
  refine lv_istore_n (lv' := [(3, .int (nI 0)), (2, .int (nI 1)), (0, .int (nI (x9).val)), (1, .int (nI n9))]) hx hb d_M_power_3 rfl hl (by decide) rfl (fun ls hl => ?_)
  refine lp_M_power (B := S) (n9 := n9) (x9 := x9) hx hb hml hg hown hK (Nat.le_of_ble_eq_true rfl) (Nat.le_of_ble_eq_true rfl) (Nat.le_of_ble_eq_true rfl) (Nat.le_of_ble_eq_true rfl) hn n9 0 1 S s.heap _ ls (by omega) (by grind) hfr hI (lv_sub hl [0, 1, 3, 2] rfl) (fun y9 S1 H2 locs ls hy hfr hI hl => ?_)
  refine lv_iload_n hx hb d_M_power_21 rfl (lv_at hl 1 rfl) ?_
  refine mp_iret hx hb hr hlocks hI (Nat.le_of_ble_eq_true rfl) (Nat.le_of_ble_eq_true rfl) ?_ d_M_power_22
  exact ⟨by rw [hy], hfr⟩
set_option maxHeartbeats 4000000 in
set_option maxRecDepth 100000 in
/-- what a power is worth, in the reference -/
theorem c_M_worth (l : Launch) (D : mp_G) (g : Nat → ClassId) (S : mp_M) (sz : Nat) (p9 : Nat) (x9 y9 w9 : fF)  (hp : p9 < 1000) : Met l y_M_worth w_M_worth ({ frames := 2, cells := 0, slots := 0, locals := 44 }) (va_Pc [.int (nI p9), .int (nI (x9).val), .int (nI (y9).val), .int (nI (w9).val)] (mp_B0 D classes (tys g) S sz)) (va_Qi (fun (r : Int32) (S1 : mp_M) => r = nI (ev x9 y9 w9 (Em p9)).val ∧ (∀ b t e9, S b = some (t, e9) → S1 b = some (t, e9))) (mp_B1 D classes S sz) (mp_A S sz)) 0 0 (mp_A S sz) := by
  refine Met.ofW (cc := b_M_worth) (maxL := 4) (ret := (some .int)) (by decide) rfl ?_
  intro p e s m args below meth c s₁ B hml hv
  obtain ⟨rfl, hsz, hH, hK⟩ := hv
  have hx := B.exec
  have hb := B.bytes
  have hr := B.returns
  have hts := atoms_spec (ws := w_M_worth) B.pre
  have hg : ∀ w ∈ gw, w.before _ s = true := fun w h => hts w (List.mem_cons_of_mem _ h)
  have hown : s.vm.findClass R_M = some m.cls := findClass_of_methodNamed B.named
  have hlocks := B.notSynchronized
  subst hsz
  have hI := mp_I.start hH
  have hl := lv_entry ([.int (nI p9), .int (nI (x9).val), .int (nI (y9).val), .int (nI (w9).val)]) (n := 4) (Nat.le_of_ble_eq_true rfl)
  rw [lg_entry_eq]
  generalize (lg_sl ([.int (nI p9), .int (nI (x9).val), .int (nI (y9).val), .int (nI (w9).val)]) ++ List.replicate (4 - (lg_sl ([.int (nI p9), .int (nI (x9).val), .int (nI (y9).val), .int (nI (w9).val)])).length) Slot.unset).toArray = ls at hl ⊢
  have hl : lv_has ls 4 [(0, .int (nI p9)), (1, .int (nI (x9).val)), (2, .int (nI (y9).val)), (3, .int (nI (w9).val))] := hl
  have hfr : ∀ b t e9, S b = some (t, e9) → S b = some (t, e9) := fun _ _ _ h9 => h9
  refine lv_iload_n hx hb d_M_worth_0 rfl (lv_at hl 1 rfl) ?_
  refine lv_iload_n hx hb d_M_worth_1 rfl (lv_at hl 0 rfl) ?_
  refine lv_iconst (v := nI 0) hx hb d_M_worth_2 (by decide) ?_
  refine mp_calli hI (va_runS (As := [.int (nI p9), .int (nI 0)]) (rest := [.int (nI (x9).val)]) ⟨hx, hb, hml, hown, hg⟩ (c_M_expo l D g S _ p9 0 hp (by decide)) ⟨(callB_of 2 hg (wd_goodG q_943) rfl rfl rfl (hg _ q_5) (hg _ q_941) (by decide +kernel) ⟨Nat.le_of_ble_eq_true rfl, Nat.le_of_ble_eq_true rfl⟩), hg _ q_942⟩ (mp_pre hI hK [.int (nI p9), .int (nI 0)]) rfl rfl hl.1 rfl (lv_room (Nat.le_of_ble_eq_true rfl)) d_M_worth_3 ⟨Nat.le_of_ble_eq_true rfl, Nat.le_of_ble_eq_true rfl⟩) (fun r4 S1 H2 locs p_3 hI => ?_)
  obtain ⟨er4, eS5⟩ := p_3
  rw [eS5] at hI
  have er4 : r4 = nI (eN p9 0) := er4
  subst er4
  have hl0 := eN_lt 0 hp
  refine mp_calli hI (va_runS (As := [.int (nI (x9).val), .int (nI (eN p9 0))]) (rest := []) ⟨hx, hb, hml, hown, hg⟩ (c_M_power l D g S _ (eN p9 0) x9 (by omega)) ⟨(callB_of 2 hg (wd_goodG q_1051) rfl rfl rfl (hg _ q_5) (hg _ q_1049) (by decide +kernel) ⟨Nat.le_of_ble_eq_true rfl, Nat.le_of_ble_eq_true rfl⟩), hg _ q_1050⟩ (mp_pre hI hK [.int (nI (x9).val), .int (nI (eN p9 0))]) rfl rfl hl.1 rfl (lv_room (Nat.le_of_ble_eq_true rfl)) d_M_worth_6 ⟨Nat.le_of_ble_eq_true rfl, Nat.le_of_ble_eq_true rfl⟩) (fun r9 S6 H7 locs p_8 hI => ?_)
  obtain ⟨er9, fq⟩ := p_8
  have er9 : r9 = nI (x9 ^ eN p9 0).val := er9
  subst er9
  have hfr : ∀ b t e9, S b = some (t, e9) → S6 b = some (t, e9) := fun b t e9 h9 => by have h8 := hfr b t e9 h9; exact fq b _ _ h8
  refine lv_iload_n hx hb d_M_worth_9 rfl (lv_at hl 2 rfl) ?_
  refine lv_iload_n hx hb d_M_worth_10 rfl (lv_at hl 0 rfl) ?_
  refine lv_iconst (v := nI 1) hx hb d_M_worth_11 (by decide) ?_
  refine mp_calli hI (va_runS (As := [.int (nI p9), .int (nI 1)]) (rest := [.int (nI (y9).val), .int (nI (x9 ^ eN p9 0).val)]) ⟨hx, hb, hml, hown, hg⟩ (c_M_expo l D g S6 _ p9 1 hp (by decide)) ⟨(callB_of 2 hg (wd_goodG q_943) rfl rfl rfl (hg _ q_5) (hg _ q_941) (by decide +kernel) ⟨Nat.le_of_ble_eq_true rfl, Nat.le_of_ble_eq_true rfl⟩), hg _ q_942⟩ (mp_pre hI hK [.int (nI p9), .int (nI 1)]) rfl rfl hl.1 rfl (lv_room (Nat.le_of_ble_eq_true rfl)) d_M_worth_12 ⟨Nat.le_of_ble_eq_true rfl, Nat.le_of_ble_eq_true rfl⟩) (fun r13 S10 H11 locs p_12 hI => ?_)
  obtain ⟨er13, eS14⟩ := p_12
  rw [eS14] at hI
  have er13 : r13 = nI (eN p9 1) := er13
  subst er13
  have hl1 := eN_lt 1 hp
  refine mp_calli hI (va_runS (As := [.int (nI (y9).val), .int (nI (eN p9 1))]) (rest := [.int (nI (x9 ^ eN p9 0).val)]) ⟨hx, hb, hml, hown, hg⟩ (c_M_power l D g S6 _ (eN p9 1) y9 (by omega)) ⟨(callB_of 2 hg (wd_goodG q_1051) rfl rfl rfl (hg _ q_5) (hg _ q_1049) (by decide +kernel) ⟨Nat.le_of_ble_eq_true rfl, Nat.le_of_ble_eq_true rfl⟩), hg _ q_1050⟩ (mp_pre hI hK [.int (nI (y9).val), .int (nI (eN p9 1))]) rfl rfl hl.1 rfl (lv_room (Nat.le_of_ble_eq_true rfl)) d_M_worth_15 ⟨Nat.le_of_ble_eq_true rfl, Nat.le_of_ble_eq_true rfl⟩) (fun r18 S15 H16 locs p_17 hI => ?_)
  obtain ⟨er18, fq⟩ := p_17
  have er18 : r18 = nI (y9 ^ eN p9 1).val := er18
  subst er18
  have hfr : ∀ b t e9, S b = some (t, e9) → S15 b = some (t, e9) := fun b t e9 h9 => by have h8 := hfr b t e9 h9; exact fq b _ _ h8
  refine mp_calli hI (va_runS (As := [.int (nI (x9 ^ eN p9 0).val), .int (nI (y9 ^ eN p9 1).val)]) (rest := []) ⟨hx, hb, hml, hown, hg⟩ (c_M_times l D g S15 _ (x9 ^ eN p9 0).val (y9 ^ eN p9 1).val (by omega) (by omega)) ⟨(callB_of 2 hg (wd_goodG q_927) rfl rfl rfl (hg _ q_5) (hg _ q_925) (by decide +kernel) ⟨Nat.le_of_ble_eq_true rfl, Nat.le_of_ble_eq_true rfl⟩), hg _ q_926⟩ (mp_pre hI hK [.int (nI (x9 ^ eN p9 0).val), .int (nI (y9 ^ eN p9 1).val)]) rfl rfl hl.1 rfl (lv_room (Nat.le_of_ble_eq_true rfl)) d_M_worth_18 ⟨Nat.le_of_ble_eq_true rfl, Nat.le_of_ble_eq_true rfl⟩) (fun r22 S19 H20 locs p_21 hI => ?_)
  obtain ⟨er22, eS23⟩ := p_21
  rw [eS23] at hI
  have er22 : r22 = nI ((x9 ^ eN p9 0).val * (y9 ^ eN p9 1).val % 32003) := er22
  subst er22
  refine lv_topi (fun v24 ev24 => ?_)
  obtain rfl : v24 = nI ((x9 ^ eN p9 0) * (y9 ^ eN p9 1)).val := ev24.trans (congrArg nI (fv_mul _ _))
  refine lv_iload_n hx hb d_M_worth_21 rfl (lv_at hl 3 rfl) ?_
  refine lv_iload_n hx hb d_M_worth_22 rfl (lv_at hl 0 rfl) ?_
  refine lv_iconst (v := nI 2) hx hb d_M_worth_23 (by decide) ?_
  refine mp_calli hI (va_runS (As := [.int (nI p9), .int (nI 2)]) (rest := [.int (nI (w9).val), .int (nI ((x9 ^ eN p9 0) * (y9 ^ eN p9 1)).val)]) ⟨hx, hb, hml, hown, hg⟩ (c_M_expo l D g S15 _ p9 2 hp (by decide)) ⟨(callB_of 2 hg (wd_goodG q_943) rfl rfl rfl (hg _ q_5) (hg _ q_941) (by decide +kernel) ⟨Nat.le_of_ble_eq_true rfl, Nat.le_of_ble_eq_true rfl⟩), hg _ q_942⟩ (mp_pre hI hK [.int (nI p9), .int (nI 2)]) rfl rfl hl.1 rfl (lv_room (Nat.le_of_ble_eq_true rfl)) d_M_worth_24 ⟨Nat.le_of_ble_eq_true rfl, Nat.le_of_ble_eq_true rfl⟩) (fun r28 S25 H26 locs p_27 hI => ?_)
  obtain ⟨er28, eS29⟩ := p_27
  rw [eS29] at hI
  have er28 : r28 = nI (eN p9 2) := er28
  subst er28
  have hl2 := eN_lt 2 hp
  refine mp_calli hI (va_runS (As := [.int (nI (w9).val), .int (nI (eN p9 2))]) (rest := [.int (nI ((x9 ^ eN p9 0) * (y9 ^ eN p9 1)).val)]) ⟨hx, hb, hml, hown, hg⟩ (c_M_power l D g S15 _ (eN p9 2) w9 (by omega)) ⟨(callB_of 2 hg (wd_goodG q_1051) rfl rfl rfl (hg _ q_5) (hg _ q_1049) (by decide +kernel) ⟨Nat.le_of_ble_eq_true rfl, Nat.le_of_ble_eq_true rfl⟩), hg _ q_1050⟩ (mp_pre hI hK [.int (nI (w9).val), .int (nI (eN p9 2))]) rfl rfl hl.1 rfl (lv_room (Nat.le_of_ble_eq_true rfl)) d_M_worth_27 ⟨Nat.le_of_ble_eq_true rfl, Nat.le_of_ble_eq_true rfl⟩) (fun r33 S30 H31 locs p_32 hI => ?_)
  obtain ⟨er33, fq⟩ := p_32
  have er33 : r33 = nI (w9 ^ eN p9 2).val := er33
  subst er33
  have hfr : ∀ b t e9, S b = some (t, e9) → S30 b = some (t, e9) := fun b t e9 h9 => by have h8 := hfr b t e9 h9; exact fq b _ _ h8
  refine mp_calli hI (va_runS (As := [.int (nI ((x9 ^ eN p9 0) * (y9 ^ eN p9 1)).val), .int (nI (w9 ^ eN p9 2).val)]) (rest := []) ⟨hx, hb, hml, hown, hg⟩ (c_M_times l D g S30 _ ((x9 ^ eN p9 0) * (y9 ^ eN p9 1)).val (w9 ^ eN p9 2).val (by omega) (by omega)) ⟨(callB_of 2 hg (wd_goodG q_927) rfl rfl rfl (hg _ q_5) (hg _ q_925) (by decide +kernel) ⟨Nat.le_of_ble_eq_true rfl, Nat.le_of_ble_eq_true rfl⟩), hg _ q_926⟩ (mp_pre hI hK [.int (nI ((x9 ^ eN p9 0) * (y9 ^ eN p9 1)).val), .int (nI (w9 ^ eN p9 2).val)]) rfl rfl hl.1 rfl (lv_room (Nat.le_of_ble_eq_true rfl)) d_M_worth_30 ⟨Nat.le_of_ble_eq_true rfl, Nat.le_of_ble_eq_true rfl⟩) (fun r37 S34 H35 locs p_36 hI => ?_)
  obtain ⟨er37, eS38⟩ := p_36
  rw [eS38] at hI
  have er37 : r37 = nI (((x9 ^ eN p9 0) * (y9 ^ eN p9 1)).val * (w9 ^ eN p9 2).val % 32003) := er37
  subst er37
  refine lv_topi (fun v39 ev39 => ?_)
  obtain rfl : v39 = nI (((x9 ^ eN p9 0) * (y9 ^ eN p9 1)) * (w9 ^ eN p9 2)).val := ev39.trans (congrArg nI (fv_mul _ _))
  refine mp_iret hx hb hr hlocks hI (Nat.le_of_ble_eq_true rfl) (Nat.le_of_ble_eq_true rfl) ?_ d_M_worth_33
  exact ⟨rfl, hfr⟩
set_option maxHeartbeats 4000000 in
set_option maxRecDepth 100000 in
theorem lp_M_leastAt {p : Program} {l : Launch} {e : Env} {R : Room} {s : State} {m : MethodId} {args : Array Value} {below : List Frame} {meth : Method} {c : Code} {Q : State → Prop} {D : mp_G} {g : Nat → ClassId} {A : Nat → Prop} {cells slots : Nat} (hx : p.tables.exec = Jvm.exec) (hb : c.code = b_M_leastAt) (hml : c.maxLocals = 5) (hg : ∀ w ∈ gw, w.before args s = true) (hown : s.vm.findClass R_M = some m.cls) (hK : mp_K D classes (tys g) s) (hRf : 1 ≤ R.frames) (hRl : 21 ≤ R.locals) (hRc : cells ≤ R.cells) (hRs : slots ≤ R.slots) {B : mp_M} {o dg le l9 D9 : Nat} {mv0 mv1 mv2 mv3 mv4 mv5 mv6 mv7 mv8 mv9 mv10 mv11 mv12 mv13 mv14 mv15 mv16 mv19 mv20 mv21 mv22 mv23 mv24 mv25 mv26 mv27 mv28 mv29 mv30 : Value} {dgf lef : Nat → Int32} {cf : Nat → fF} {x9 : fF} (hl9 : l9 < 3) (hD : D9 ≤ 16) (hdg : dgf l9 = nI D9) (hle : ∀ k, k < D9 + 1 → lef (17 * l9 + k) = nI (cf k).val) : ∀ (k : Nat) (v9 : fF) (S : mp_M) (H : Heap) (locs : List Loc) (ls : Array Slot), k ≤ D9 + 1 → (hoN cf x9 k v9 = pe (D9 + 1) cf x9) → S o = some (2000, .inr (10, [mv0, mv1, mv2, mv3, mv4, mv5, mv6, mv7, mv8, mv9, mv10, mv11, mv12, mv13, mv14, mv15, mv16, .ref dg, .ref le, mv19, mv20, mv21, mv22, mv23, mv24, mv25, mv26, mv27, mv28, mv29, mv30])) → S dg = some (2010, .inl ((g 0), 3, .inl dgf)) → S le = some (2011, .inl ((g 0), 51, .inl lef)) → (∀ b t e9, B b = some (t, e9) → S b = some (t, e9)) → mp_I D classes A s.heap S H locs → lv_has ls 5 [(4, .int (nI k + -1)), (3, .int (nI (v9).val)), (2, .int (nI (x9).val)), (1, .int (nI l9)), (0, .ref o)] → (∀ (v9 : fF) (S : mp_M) (H : Heap) (locs : List Loc) (ls : Array Slot), (hoN cf x9 0 v9 = pe (D9 + 1) cf x9) → S o = some (2000, .inr (10, [mv0, mv1, mv2, mv3, mv4, mv5, mv6, mv7, mv8, mv9, mv10, mv11, mv12, mv13, mv14, mv15, mv16, .ref dg, .ref le, mv19, mv20, mv21, mv22, mv23, mv24, mv25, mv26, mv27, mv28, mv29, mv30])) → S dg = some (2010, .inl ((g 0), 3, .inl dgf)) → S le = some (2011, .inl ((g 0), 51, .inl lef)) → (∀ b t e9, B b = some (t, e9) → S b = some (t, e9)) → mp_I D classes A s.heap S H locs → lv_has ls 5 [(4, .int (nI 0 + -1)), (3, .int (nI (v9).val)), (2, .int (nI (x9).val)), (1, .int (nI l9)), (0, .ref o)] → W p l e R s m args below meth c H locs cells slots Q (F0 m 42 ls [])) → W p l e R s m args below meth c H locs cells slots Q (F0 m 10 ls []) := by
  intro k
  induction k with
  | zero =>
    intro v9 S H locs ls hi hho h_o h_dg h_le hfr hI hl kx
    refine lv_iload hx hb d_M_leastAt_10 (lv_at hl 0 rfl) ?_
    refine lv_if_lt (tgt := 42) hx hb d_M_leastAt_12 (by decide) (fun _ => ?_) (fun h9 => absurd (by decide) h9)
    exact kx v9 S H locs ls hho h_o h_dg h_le hfr hI (lv_sub hl [0, 1, 2, 3, 4] rfl)
  | succ k ih =>
    intro v9 S H locs ls hi hho h_o h_dg h_le hfr hI hl kx
    rw [nI_dec] at hl
    refine lv_iload hx hb d_M_leastAt_10 (lv_at hl 0 rfl) ?_
    refine lv_if_lt (tgt := 42) hx hb d_M_leastAt_12 (by decide) (fun h9 => absurd h9 (nI_pos (by omega))) (fun _ => ?_)
    refine lv_iload_n hx hb d_M_leastAt_15 rfl (lv_at hl 1 rfl) ?_
    refine lv_iload_n hx hb d_M_leastAt_16 rfl (lv_at hl 2 rfl) ?_
    refine mp_calli hI (va_runS (As := [.int (nI (v9).val), .int (nI (x9).val)]) (rest := []) ⟨hx, hb, hml, hown, hg⟩ (c_M_times l D g S _ (v9).val (x9).val (by omega) (by omega)) ⟨(callB_of 2 hg (wd_goodG q_927) rfl rfl rfl (hg _ q_5) (hg _ q_925) (by decide +kernel) ⟨Nat.le_trans (Nat.le_of_ble_eq_true rfl) hRf, Nat.le_trans (Nat.le_of_ble_eq_true rfl) hRl⟩), hg _ q_926⟩ (mp_pre hI hK [.int (nI (v9).val), .int (nI (x9).val)]) rfl rfl hl.1 rfl (lv_room (Nat.le_of_ble_eq_true rfl)) d_M_leastAt_17 ⟨by omega, by omega⟩) (fun r4 S1 H2 locs p_3 hI => ?_)
    obtain ⟨er4, eS5⟩ := p_3
    rw [eS5] at hI
    have er4 : r4 = nI ((v9).val * (x9).val % 32003) := er4
    subst er4
    refine lv_topi (fun v6 ev6 => ?_)
    obtain rfl : v6 = nI (v9 * x9).val := ev6.trans (congrArg nI (fv_mul _ _))
    refine lv_aload_n hx hb d_M_leastAt_20 rfl (lv_at hl 4 rfl) ?_
    refine mp_get (C := R_M) (T := F_M) (N := 31) (v := .ref le) hx hb hg i_M hown hK.va hI h_o rfl 18 (by decide) (hg _ q_822) (fun _ h9 => h9) rfl d_M_leastAt_21 ?_
    refine lv_bipush (v := nI 17) hx hb d_M_leastAt_24 (by decide) ?_
    refine lv_iload_n hx hb d_M_leastAt_26 rfl (lv_at hl 3 rfl) ?_
    refine lv_imul hx hb d_M_leastAt_27 ?_
    refine lv_topi (fun v7 ev7 => ?_)
    obtain rfl : v7 = nI (17 * l9) := ev7.trans (pk_mul _ _)
    refine lv_iload hx hb d_M_leastAt_28 (lv_at hl 0 rfl) ?_
    refine lv_iadd hx hb d_M_leastAt_30 ?_
    refine lv_topi (fun v8 ev8 => ?_)
    obtain rfl : v8 = nI ((17 * l9) + k) := ev8.trans (nI_add _ _)
    refine mp_iald hx hb hK.va hI 0 h_le rfl (vp_in_nI (show (17 * l9) + k < 51 by omega) (by omega)) d_M_leastAt_31 ?_
    refine lv_topi (fun v9 ev9 => ?_)
    obtain rfl : v9 = nI (cf k).val := ev9.trans (by rw [nI_clamp (by omega)]; exact hle k (by omega))
    refine mp_calli hI (va_runS (As := [.int (nI (v9 * x9).val), .int (nI (cf k).val)]) (rest := []) ⟨hx, hb, hml, hown, hg⟩ (c_M_plus l D g S _ (v9 * x9).val (cf k).val (by omega) (by omega)) ⟨(callB_of 2 hg (wd_goodG q_1025) rfl rfl rfl (hg _ q_5) (hg _ q_1023) (by decide +kernel) ⟨Nat.le_trans (Nat.le_of_ble_eq_true rfl) hRf, Nat.le_trans (Nat.le_of_ble_eq_true rfl) hRl⟩), hg _ q_1024⟩ (mp_pre hI hK [.int (nI (v9 * x9).val), .int (nI (cf k).val)]) rfl rfl hl.1 rfl (lv_room (Nat.le_of_ble_eq_true rfl)) d_M_leastAt_32 ⟨by omega, by omega⟩) (fun r13 S10 H11 locs p_12 hI => ?_)
    obtain ⟨er13, eS14⟩ := p_12
    rw [eS14] at hI
    have er13 : r13 = nI (((v9 * x9).val + (cf k).val) % 32003) := er13
    subst er13
    refine lv_topi (fun v15 ev15 => ?_)
    obtain rfl : v15 = nI ((v9 * x9) + (cf k)).val := ev15.trans (congrArg nI (fv_add _ _))
    refine lv_istore_n (lv' := [(3, .int (nI ((v9 * x9) + (cf k)).val)), (4, .int (nI k)), (2, .int (nI (x9).val)), (1, .int (nI l9)), (0, .ref o)]) hx hb d_M_leastAt_35 rfl hl (by decide) rfl (fun ls hl => ?_)
    refine lv_iinc (v := (nI k + (-1))) (lv' := [(4, .int (nI k + (-1))), (3, .int (nI ((v9 * x9) + (cf k)).val)), (2, .int (nI (x9).val)), (1, .int (nI l9)), (0, .ref o)]) hx hb d_M_leastAt_36 hl (k := 1) rfl (rfl) (by decide) rfl (fun ls hl => ?_)
    refine lv_goto (tgt := 10) hx hb d_M_leastAt_39 (by decide) ?_
    exact ih (v9 * x9 + cf k) S H11 locs ls (by omega) hho h_o h_dg h_le hfr hI (lv_sub hl [0, 1, 2, 3, 4] rfl) kx
set_option maxHeartbeats 4000000 in
set_option maxRecDepth 100000 in
/-- what a least polynomial is worth -/
theorem c_M_leastAt (l : Launch) (D : mp_G) (g : Nat → ClassId) (S : mp_M) (sz : Nat) (o dg le l9 D9 : Nat) (mv0 mv1 mv2 mv3 mv4 mv5 mv6 mv7 mv8 mv9 mv10 mv11 mv12 mv13 mv14 mv15 mv16 mv19 mv20 mv21 mv22 mv23 mv24 mv25 mv26 mv27 mv28 mv29 mv30 : Value) (dgf lef : Nat → Int32) (cf : Nat → fF) (x9 : fF) (h_o : S o = some (2000, .inr (10, [mv0, mv1, mv2, mv3, mv4, mv5, mv6, mv7, mv8, mv9, mv10, mv11, mv12, mv13, mv14, mv15, mv16, .ref dg, .ref le, mv19, mv20, mv21, mv22, mv23, mv24, mv25, mv26, mv27, mv28, mv29, mv30]))) (h_dg : S dg = some (2010, .inl ((g 0), 3, .inl dgf))) (h_le : S le = some (2011, .inl ((g 0), 51, .inl lef))) (hl9 : l9 < 3) (hD : D9 ≤ 16) (hdg : dgf l9 = nI D9) (hle : ∀ k, k < D9 + 1 → lef (17 * l9 + k) = nI (cf k).val) : Met l y_M_leastAt w_M_leastAt ({ frames := 1, cells := 0, slots := 0, locals := 21 }) (va_Pc [.ref o, .int (nI l9), .int (nI (x9).val)] (mp_B0 D classes (tys g) S sz)) (va_Qi (fun (r : Int32) (S1 : mp_M) => r = nI (pe (D9 + 1) cf x9).val ∧ (∀ b t e9, S b = some (t, e9) → S1 b = some (t, e9))) (mp_B1 D classes S sz) (mp_A S sz)) 0 0 (mp_A S sz) := by
  refine Met.ofW (cc := b_M_leastAt) (maxL := 5) (ret := (some .int)) (by decide) rfl ?_
  intro p e s m args below meth c s₁ B hml hv
  obtain ⟨rfl, hsz, hH, hK⟩ := hv
  have hx := B.exec
  have hb := B.bytes
  have hr := B.returns
  have hts := atoms_spec (ws := w_M_leastAt) B.pre
  have hg : ∀ w ∈ gw, w.before _ s = true := fun w h => hts w (List.mem_cons_of_mem _ h)
  have hown : s.vm.findClass R_M = some m.cls := findClass_of_methodNamed B.named
  have hlocks := B.notSynchronized
  subst hsz
  have hI := mp_I.start hH
  have hl := lv_entry ([.ref o, .int (nI l9), .int (nI (x9).val)]) (n := 5) (Nat.le_of_ble_eq_true rfl)
  rw [lg_entry_eq]
  generalize (lg_sl ([.ref o, .int (nI l9), .int (nI (x9).val)]) ++ List.replicate (5 - (lg_sl ([.ref o, .int (nI l9), .int (nI (x9).val)])).length) Slot.unset).toArray = ls at hl ⊢
  have hl : lv_has ls 5 [(0, .ref o), (1, .int (nI l9)), (2, .int (nI (x9).val))] := hl
  have hfr : ∀ b t e9, S b = some (t, e9) → S b = some (t, e9) := fun _ _ _ h9 => h9
  refine lv_iconst (v := nI 0) hx hb d_M_leastAt_0 (by decide) ?_
  refine lv_istore_n (lv' := [(3, .int (nI 0)), (0, .ref o), (1, .int (nI l9)), (2, .int (nI (x9).val))]) hx hb d_M_leastAt_1 rfl hl (by decide) rfl (fun ls hl => ?_)
  refine lv_aload_n hx hb d_M_leastAt_2 rfl (lv_at hl 1 rfl) ?_
  refine mp_get (C := R_M) (T := F_M) (N := 31) (v := .ref dg) hx hb hg i_M hown hK.va hI h_o rfl 17 (by decide) (hg _ q_821) (fun _ h9 => h9) rfl d_M_leastAt_3 ?_
  refine lv_iload_n hx hb d_M_leastAt_6 rfl (lv_at hl 2 rfl) ?_
  refine mp_iald hx hb hK.va hI 0 h_dg rfl (vp_in_nI (show l9 < 3 by omega) (by omega)) d_M_leastAt_7 ?_
  refine lv_topi (fun v1 ev1 => ?_)
  obtain rfl : v1 = (nI (D9 + 1) + -1) := ev1.trans (by rw [nI_clamp (by omega), hdg]; exact (nI_dec _).symm)
  refine lv_istore (lv' := [(4, .int (nI (D9 + 1) + -1)), (3, .int (nI 0)), (0, .ref o), (1, .int (nI l9)), (2, .int (nI (x9).val))]) hx hb d_M_leastAt_8 hl (by decide) rfl (fun ls hl => ?_)
  refine lp_M_leastAt (B := S) (o := o) (dg := dg) (le := le) (l9 := l9) (D9 := D9) (mv0 := mv0) (mv1 := mv1) (mv2 := mv2) (mv3 := mv3) (mv4 := mv4) (mv5 := mv5) (mv6 := mv6) (mv7 := mv7) (mv8 := mv8) (mv9 := mv9) (mv10 := mv10) (mv11 := mv11) (mv12 := mv12) (mv13 := mv13) (mv14 := mv14) (mv15 := mv15) (mv16 := mv16) (mv19 := mv19) (mv20 := mv20) (mv21 := mv21) (mv22 := mv22) (mv23 := mv23) (mv24 := mv24) (mv25 := mv25) (mv26 := mv26) (mv27 := mv27) (mv28 := mv28) (mv29 := mv29) (mv30 := mv30) (dgf := dgf) (lef := lef) (cf := cf) (x9 := x9) hx hb hml hg hown hK (Nat.le_of_ble_eq_true rfl) (Nat.le_of_ble_eq_true rfl) (Nat.le_of_ble_eq_true rfl) (Nat.le_of_ble_eq_true rfl) hl9 hD hdg hle (D9 + 1) 0 S s.heap _ ls (Nat.le_refl _) (by rw [ho_pe]; grind) h_o h_dg h_le hfr hI (lv_sub hl [0, 1, 4, 3, 2] rfl) (fun v9 S2 H3 locs ls hho j_o j_dg j_le hfr hI hl => ?_)
  refine lv_iload_n hx hb d_M_leastAt_42 rfl (lv_at hl 1 rfl) ?_
  refine mp_iret hx hb hr hlocks hI (Nat.le_of_ble_eq_true rfl) (Nat.le_of_ble_eq_true rfl) ?_ d_M_leastAt_43
  exact ⟨congrArg (fun x : fF => nI x.val) hho, hfr⟩
