theorem d_Z_init_0 : decode b_Z_init 0 = .ok (.aload_n 0, 1) := by decide +kernel
theorem d_Z_init_1 : decode b_Z_init 1 = .ok (.invokespecial 3, 3) := by decide +kernel
theorem d_Z_init_4 : decode b_Z_init 4 = .ok (.aload_n 0, 1) := by decide +kernel
theorem d_Z_init_5 : decode b_Z_init 5 = .ok (.bipush 16, 2) := by decide +kernel
theorem d_Z_init_7 : decode b_Z_init 7 = .ok (.anewarray 9, 3) := by decide +kernel
theorem d_Z_init_10 : decode b_Z_init 10 = .ok (.putfield 11, 3) := by decide +kernel
theorem d_Z_init_13 : decode b_Z_init 13 = .ok (.aload_n 0, 1) := by decide +kernel
theorem d_Z_init_14 : decode b_Z_init 14 = .ok (.new 9, 3) := by decide +kernel
theorem d_Z_init_17 : decode b_Z_init 17 = .ok (.dup, 1) := by decide +kernel
theorem d_Z_init_18 : decode b_Z_init 18 = .ok (.invokespecial 17, 3) := by decide +kernel
theorem d_Z_init_21 : decode b_Z_init 21 = .ok (.putfield 18, 3) := by decide +kernel
theorem d_Z_init_24 : decode b_Z_init 24 = .ok (.aload_n 0, 1) := by decide +kernel
theorem d_Z_init_25 : decode b_Z_init 25 = .ok (.new 9, 3) := by decide +kernel
theorem d_Z_init_28 : decode b_Z_init 28 = .ok (.dup, 1) := by decide +kernel
theorem d_Z_init_29 : decode b_Z_init 29 = .ok (.invokespecial 17, 3) := by decide +kernel
theorem d_Z_init_32 : decode b_Z_init 32 = .ok (.putfield 22, 3) := by decide +kernel
theorem d_Z_init_35 : decode b_Z_init 35 = .ok (.iconst 0, 1) := by decide +kernel
theorem d_Z_init_36 : decode b_Z_init 36 = .ok (.istore_n 1, 1) := by decide +kernel
theorem d_Z_init_37 : decode b_Z_init 37 = .ok (.iload_n 1, 1) := by decide +kernel
theorem d_Z_init_38 : decode b_Z_init 38 = .ok (.bipush 16, 2) := by decide +kernel
theorem d_Z_init_40 : decode b_Z_init 40 = .ok (.if_icmp .ge 22, 3) := by decide +kernel
theorem d_Z_init_43 : decode b_Z_init 43 = .ok (.aload_n 0, 1) := by decide +kernel
theorem d_Z_init_44 : decode b_Z_init 44 = .ok (.getfield 11, 3) := by decide +kernel
theorem d_Z_init_47 : decode b_Z_init 47 = .ok (.iload_n 1, 1) := by decide +kernel
theorem d_Z_init_48 : decode b_Z_init 48 = .ok (.new 9, 3) := by decide +kernel
theorem d_Z_init_51 : decode b_Z_init 51 = .ok (.dup, 1) := by decide +kernel
theorem d_Z_init_52 : decode b_Z_init 52 = .ok (.invokespecial 17, 3) := by decide +kernel
theorem d_Z_init_55 : decode b_Z_init 55 = .ok (.aastore, 1) := by decide +kernel
theorem d_Z_init_56 : decode b_Z_init 56 = .ok (.iinc 1 1, 3) := by decide +kernel
theorem d_Z_init_59 : decode b_Z_init 59 = .ok (.goto (-22), 3) := by decide +kernel
theorem d_Z_init_62 : decode b_Z_init 62 = .ok (.return_, 1) := by decide +kernel
set_option maxHeartbeats 4000000 in
set_option maxRecDepth 100000 in
theorem lp_Z_init {p : Program} {l : Launch} {e : Env} {R : Room} {s : State} {m : MethodId} {args : Array Value} {below : List Frame} {meth : Method} {c : Code} {Q : State → Prop} {D : mp_G} {g : Nat → ClassId} {A : Nat → Prop} {c0 s0 : Nat} (hx : p.tables.exec = Jvm.exec) (hb : c.code = b_Z_init) (hml : c.maxLocals = 2) (hg : ∀ w ∈ gw, w.before args s = true) (hown : s.vm.findClass R_Z = some m.cls) (hK : mp_K D classes (tys g) s) (hRf : 3 ≤ R.frames) (hRl : 40 ≤ R.locals) (hRc : c0 + 32 ≤ R.cells) (hRs : s0 + 560 ≤ R.slots) {B : mp_M} {o fs on ot : Nat}  : ∀ (n i : Nat) (eo ea : Nat → Nat) (S : mp_M) (H : Heap) (locs : List Loc) (ls : Array Slot), i + n = 16 → S o = some (30, .inr (6, [.ref fs, .int 0, .ref on, .ref ot])) → S fs = some (31, .inl ((g 3), 16, .inr (.inr (.inr (.inr (rfs eo i)))))) → oS g 520 i eo ea (fun _ => -1) (fun _ _ => 0) S → (∀ b, B b ≠ none → b ≠ o → b ≠ fs → S b = B b) → mp_I D classes A s.heap S H locs → lv_has ls 2 [(1, .int (nI i)), (0, .ref o)] → (∀ (eo ea : Nat → Nat) (S : mp_M) (H : Heap) (locs : List Loc) (ls : Array Slot), S o = some (30, .inr (6, [.ref fs, .int 0, .ref on, .ref ot])) → S fs = some (31, .inl ((g 3), 16, .inr (.inr (.inr (.inr (rfs eo 16)))))) → oS g 520 16 eo ea (fun _ => -1) (fun _ _ => 0) S → (∀ b, B b ≠ none → b ≠ o → b ≠ fs → S b = B b) → mp_I D classes A s.heap S H locs → lv_has ls 2 [(0, .ref o)] → W p l e R s m args below meth c H locs (c0 + 32) (s0 + 560) Q (F0 m 62 ls [])) → W p l e R s m args below meth c H locs (c0 + 2 * i) (s0 + 35 * i) Q (F0 m 37 ls []) := by
  intro n
  induction n with
  | zero =>
    intro i eo ea S H locs ls hi h_o h_ma hE hfr hI hl kx
    obtain rfl : i = 16 := by omega
    refine lv_iload_n hx hb d_Z_init_37 rfl (lv_at hl 0 rfl) ?_
    refine lv_bipush (v := nI 16) hx hb d_Z_init_38 (by decide) ?_
    refine lv_icmp_ge (tgt := 62) hx hb d_Z_init_40 (by decide) (fun _ => ?_) (fun h9 => absurd (by decide) h9)
    exact kx eo ea S H locs ls h_o h_ma hE hfr hI (lv_sub hl [1] rfl)
  | succ n ih =>
    intro i eo ea S H locs ls hi h_o h_ma hE hfr hI hl kx
    refine lv_iload_n hx hb d_Z_init_37 rfl (lv_at hl 0 rfl) ?_
    refine lv_bipush (v := nI 16) hx hb d_Z_init_38 (by decide) ?_
    refine lv_icmp_ge (tgt := 62) hx hb d_Z_init_40 (by decide) (fun h9 => absurd h9 (by rw [nI_leI (by omega) (by omega)]; omega)) (fun _ => ?_)
    have hIa := hI
    have hka : ∀ b, S b ≠ none → S b = S b := fun _ _ => rfl
    refine lv_aload_n hx hb d_Z_init_43 rfl (lv_at hl 1 rfl) ?_
    refine mp_get (C := R_Z) (T := F_Z) (N := 4) (v := .ref fs) hx hb hg i_Z hown hK.va hI h_o rfl 0 (by decide) (hg _ q_145) (fun _ h9 => h9) rfl d_Z_init_44 ?_
    refine lv_iload_n hx hb d_Z_init_47 rfl (lv_at hl 0 rfl) ?_
    have hI0 := hI
    refine mp_new (C := R_O) (T := F_O) (N := 2) (ci := 1) (fs := [.null, .int 0]) hx hb hg i_O t_O t_O_ok hown (hg _ q_129) (hg _ q_131) (hg _ q_18) hK.va hI (520 + 2 * i) rfl (fun j hj => by rcases (show j = 0 ∨ j = 1 by omega) with rfl | rfl <;> rfl) (by omega) (by omega) d_Z_init_48 (fun S1 H2 z_4 e_3 hI => ?_)
    obtain ⟨a5, ea5⟩ : ∃ z, z = H.size := ⟨_, rfl⟩
    have g_a5 : s.heap.size ≤ a5 := by rw [ea5]; exact hI0.2.2.1.1
    rw [← ea5] at z_4 e_3
    refine W.eq (g2 := F0 m 51 ls [.ref a5, .int (nI i), .ref fs]) (by rw [ea5]) ?_
    have h_o : S1 o = some (30, .inr (6, [.ref fs, .int 0, .ref on, .ref ot])) := by rw [e_3]; exact mp_keepN h_o z_4
    have h_ma : S1 fs = some (31, .inl ((g 3), 16, .inr (.inr (.inr (.inr (rfs eo i)))))) := by rw [e_3]; exact mp_keepN h_ma z_4
    have h_6 : S1 a5 = some ((520 + 2 * i), .inr (1, [.null, .int 0])) := by rw [e_3]; exact mp_us _ _ _
    have nb_a5 : ∀ b, B b ≠ none → b ≠ o → b ≠ fs → b ≠ a5 := fun b h9 k0 k1 z9 => h9 ((hfr b h9 k0 k1).symm.trans (by rw [z9]; exact z_4))
    have hfr : ∀ b, B b ≠ none → b ≠ o → b ≠ fs → S1 b = B b := fun b h9 k0 k1 => by rw [e_3]; exact (mp_un (nb_a5 b h9 k0 k1)).trans (hfr b h9 k0 k1)
    refine lv_dup hx hb d_Z_init_51 rfl ?_
    refine mp_callv hI (va_runIN (As := []) (rest := [.ref a5, .int (nI i), .ref fs]) ⟨hx, hb, hml, hown, hg⟩ (c_O_init l D g S1 _ a5 _ (520 + 2 * i + 1) h_6 (by omega)) ⟨(va_cnB 0 hg (wd_goodG q_134) rfl rfl rfl (hK.nw q_132 rfl) (hg _ q_18) (by decide +kernel) ⟨Nat.le_trans (Nat.le_of_ble_eq_true rfl) hRf, Nat.le_trans (Nat.le_of_ble_eq_true rfl) hRl⟩), rfl, hg _ q_133⟩ (mp_pre hI hK ([.ref a5])) rfl rfl hl.1 rfl (lv_room (Nat.le_of_ble_eq_true rfl)) d_Z_init_52 ⟨by omega, by omega⟩) (fun S7 H8 locs p_9 hI => ?_)
    obtain ⟨x1, gx1, h_6n, hx1, hf⟩ := p_9
    have h_o : S7 o = some (30, .inr (6, [.ref fs, .int 0, .ref on, .ref ot])) := (hf o (mp_in h_o) (mp_ne h_o h_6 (by omega))).trans h_o
    have h_ma : S7 fs = some (31, .inl ((g 3), 16, .inr (.inr (.inr (.inr (rfs eo i)))))) := (hf fs (mp_in h_ma) (mp_ne h_ma h_6 (by omega))).trans h_ma
    have hfr : ∀ b, B b ≠ none → b ≠ o → b ≠ fs → S7 b = B b := fun b h9 k0 k1 => (hf b (by rw [hfr b h9 k0 k1]; exact h9) (nb_a5 b h9 k0 k1)).trans (hfr b h9 k0 k1)
    have hks : ∀ b, S b ≠ none → S7 b = S b := fun b h9 => (hf b (by rw [e_3, mp_un (fun z => by rw [z, z_4] at h9; exact h9 rfl)]; exact h9) (fun z => by rw [z, z_4] at h9; exact h9 rfl)).trans (by rw [e_3, mp_un (fun z => by rw [z, z_4] at h9; exact h9 rfl)])
    have hE1 := oS_push hE hks h_6n hx1
    have hmo := h_ma
    refine mp_astq (r := (R_O, F_O, 2)) hx hb hK.va hI 3 1 h_ma rfl h_6n rfl (vp_in_nI (by omega) (by decide)) d_Z_init_55 (fun S11 H12 locs e_13 hI => ?_)
    have e_13 : S11 = va_up S7 fs (some (31, .inl ((g 3), 16, .inr (.inr (.inr (.inr (va_up (rfs eo i) (nI i).toNatClampNeg (some a5)))))))) := e_13
    have h_o : S11 o = some (30, .inr (6, [.ref fs, .int 0, .ref on, .ref ot])) := by rw [e_13]; exact mp_keep h_o h_ma (by decide)
    have h_6n : S11 a5 = some ((520 + 2 * i), .inr (1, [.ref x1, .int (-1)])) := by rw [e_13]; exact mp_keep h_6n h_ma (by omega)
    have h_ma : S11 fs = some (31, .inl ((g 3), 16, .inr (.inr (.inr (.inr (va_up (rfs eo i) (nI i).toNatClampNeg (some a5))))))) := by rw [e_13]; exact mp_us _ _ _
    have hfr : ∀ b, B b ≠ none → b ≠ o → b ≠ fs → S11 b = B b := fun b h9 k0 k1 => by rw [e_13]; exact (mp_un k1).trans (hfr b h9 k0 k1)
    rw [nI_clamp (by omega), rfs_push] at h_ma
    have hE2 := oS_kept hE1 (S1 := S11) (fun b t e hb9 h1 h2 => by rw [e_13]; exact mp_un (mp_ne hb9 hmo (by omega)))
    refine lv_iinc (v := nI (i + 1)) (lv' := [(1, .int (nI (i + 1))), (0, .ref o)]) hx hb d_Z_init_56 hl (k := 0) rfl (nI_1 _) (by decide) rfl (fun ls hl => ?_)
    refine lv_goto (tgt := 37) hx hb d_Z_init_59 (by decide) ?_
    refine W.cs (cells' := c0 + 2 * (i + 1)) (slots' := s0 + 35 * (i + 1)) (by omega) (by omega) ?_
    exact ih (i + 1) (va_up eo i a5) (va_up ea i x1) S11 H12 locs ls (by omega) h_o h_ma hE2 hfr hI (lv_sub hl [0, 1] rfl) kx
set_option maxHeartbeats 4000000 in
set_option maxRecDepth 100000 in
/-- what finds roots -/
theorem c_Z_init (l : Launch) (D : mp_G) (g : Nat → ClassId) (S : mp_M) (sz : Nat) (o : Nat) (h_o : S o = some (30, .inr (6, [.null, .int 0, .null, .null])))  : Met l y_Z_init w_Z_init ({ frames := 3, cells := 37, slots := 646, locals := 40 }) (va_Pc [.ref o] (mp_B0 D classes (tys g) S sz)) (va_Qv (fun (S1 : mp_M) => ∃ (fs on ot a1 a2 : Nat) (eo ea : Nat → Nat), S1 o = some (30, .inr (6, [.ref fs, .int 0, .ref on, .ref ot])) ∧ S1 fs = some (31, .inl (g 3, 16, .inr (.inr (.inr (.inr (rfs eo 16)))))) ∧ S1 on = some (560, .inr (1, [.ref a1, .int (-1)])) ∧ S1 a1 = some (561, .inl (g 0, 33, .inl (fun _ => 0))) ∧ S1 ot = some (562, .inr (1, [.ref a2, .int (-1)])) ∧ S1 a2 = some (563, .inl (g 0, 33, .inl (fun _ => 0))) ∧ oS g 520 16 eo ea (fun _ => -1) (fun _ _ => 0) S1 ∧ (∀ b, S b ≠ none → b ≠ o → S1 b = S b)) (mp_B1 D classes S sz) (mp_A S sz)) 37 646 (mp_A S sz) := by
  refine Met.ofW (cc := b_Z_init) (maxL := 2) (ret := none) (by decide) rfl ?_
  intro p e s m args below meth c s₁ B hml hv
  obtain ⟨rfl, hsz, hH, hK⟩ := hv
  have hx := B.exec
  have hb := B.bytes
  have hr := B.returns
  have hts := atoms_spec (ws := w_Z_init) B.pre
  have hg : ∀ w ∈ gw, w.before _ s = true := fun w h => hts w (List.mem_cons_of_mem _ h)
  have hown : s.vm.findClass R_Z = some m.cls := findClass_of_methodNamed B.named
  have hlocks := B.notSynchronized
  have hin : meth.name = "<init>" := (name_of_methodNamed B.named B.method).1
  subst hsz
  have hI := mp_I.start hH
  have hl := lv_entry ([.ref o]) (n := 2) (Nat.le_of_ble_eq_true rfl)
  rw [lg_entry_eq]
  generalize (lg_sl ([.ref o]) ++ List.replicate (2 - (lg_sl ([.ref o])).length) Slot.unset).toArray = ls at hl ⊢
  have hl : lv_has ls 2 [(0, .ref o)] := hl
  have hfr : ∀ b, S b ≠ none → b ≠ o → S b = S b := fun _ _ _ => rfl
  refine lv_aload_n hx hb d_Z_init_0 rfl (lv_at hl 0 rfl) ?_
  refine W.objInit hx hb hown (hg _ q_128) (hg _ q_29) (hg _ q_30) rfl (by rw [hml]; exact hl.1) rfl d_Z_init_1 (Nat.le_of_ble_eq_true rfl) (Nat.le_of_ble_eq_true rfl) ?_
  refine lv_aload_n hx hb d_Z_init_4 rfl (lv_at hl 0 rfl) ?_
  refine lv_bipush (v := nI 16) hx hb d_Z_init_5 (by decide) ?_
  have hI0 := hI
  refine mp_newq (N' := 16) hx hb hown (hg _ q_129) (hK.use q_130 rfl) hK.va hI 3 31 rfl (by decide) (by decide) (Nat.le_of_ble_eq_true rfl) (Nat.le_of_ble_eq_true rfl) (Nat.le_of_ble_eq_true rfl) d_Z_init_7 (fun S1 H2 z_4 e_3 hI => ?_)
  obtain ⟨a5, ea5⟩ : ∃ z, z = s.heap.size := ⟨_, rfl⟩
  have g_a5 : s.heap.size ≤ a5 := by rw [ea5]; exact hI0.2.2.1.1
  rw [← ea5] at z_4 e_3
  refine W.eq (g2 := F0 m 10 ls [.ref a5, .ref o]) (by rw [ea5]) ?_
  have h_o : S1 o = some (30, .inr (6, [.null, .int 0, .null, .null])) := by rw [e_3]; exact mp_keepN h_o z_4
  have h_6 : S1 a5 = some (31, .inl ((g 3), 16, .inr (.inr (.inr (.inr (fun _ => none)))))) := by rw [e_3]; exact mp_us _ _ _
  have nb_a5 : ∀ b, S b ≠ none → b ≠ o → b ≠ a5 := fun b h9 k0 z9 => h9 ((hfr b h9 k0).symm.trans (by rw [z9]; exact z_4))
  have hfr : ∀ b, S b ≠ none → b ≠ o → S1 b = S b := fun b h9 k0 => by rw [e_3]; exact (mp_un (nb_a5 b h9 k0)).trans (hfr b h9 k0)
  refine mp_putF (C := R_Z) (T := F_Z) (N := 4) (v := .ref a5) (ty := .array (.object "SolutionBoxes$OneLetter")) hx hb hg i_Z t_Z t_Z_ok n_Z hown hK.va hI h_o rfl 0 (by decide) (hg _ q_145) (fun _ h9 => h9) rfl hin rfl (by decide +kernel) (rfl) rfl (Nat.le_of_ble_eq_true rfl) d_Z_init_10 (fun S7 H8 locs e_9 hI => ?_)
  have e_9 : S7 = va_up S1 o (some (30, .inr (6, [.ref a5, .int 0, .null, .null]))) := e_9
  have h_6 : S7 a5 = some (31, .inl ((g 3), 16, .inr (.inr (.inr (.inr (fun _ => none)))))) := by rw [e_9]; exact mp_keep h_6 h_o (by decide)
  have h_o : S7 o = some (30, .inr (6, [.ref a5, .int 0, .null, .null])) := by rw [e_9]; exact mp_us _ _ _
  have hfr : ∀ b, S b ≠ none → b ≠ o → S7 b = S b := fun b h9 k0 => by rw [e_9]; exact (mp_un k0).trans (hfr b h9 k0)
  refine lv_aload_n hx hb d_Z_init_13 rfl (lv_at hl 0 rfl) ?_
  have hI0 := hI
  refine mp_new (C := R_O) (T := F_O) (N := 2) (ci := 1) (fs := [.null, .int 0]) hx hb hg i_O t_O t_O_ok hown (hg _ q_129) (hg _ q_131) (hg _ q_18) hK.va hI 560 rfl (fun j hj => by rcases (show j = 0 ∨ j = 1 by omega) with rfl | rfl <;> rfl) (Nat.le_of_ble_eq_true rfl) (Nat.le_of_ble_eq_true rfl) d_Z_init_14 (fun S10 H11 z_13 e_12 hI => ?_)
  obtain ⟨a14, ea14⟩ : ∃ z, z = H8.size := ⟨_, rfl⟩
  have g_a14 : s.heap.size ≤ a14 := by rw [ea14]; exact hI0.2.2.1.1
  rw [← ea14] at z_13 e_12
  refine W.eq (g2 := F0 m 17 ls [.ref a14, .ref o]) (by rw [ea14]) ?_
  have h_o : S10 o = some (30, .inr (6, [.ref a5, .int 0, .null, .null])) := by rw [e_12]; exact mp_keepN h_o z_13
  have h_6 : S10 a5 = some (31, .inl ((g 3), 16, .inr (.inr (.inr (.inr (fun _ => none)))))) := by rw [e_12]; exact mp_keepN h_6 z_13
  have h_15 : S10 a14 = some (560, .inr (1, [.null, .int 0])) := by rw [e_12]; exact mp_us _ _ _
  have nb_a14 : ∀ b, S b ≠ none → b ≠ o → b ≠ a14 := fun b h9 k0 z9 => h9 ((hfr b h9 k0).symm.trans (by rw [z9]; exact z_13))
  have hfr : ∀ b, S b ≠ none → b ≠ o → S10 b = S b := fun b h9 k0 => by rw [e_12]; exact (mp_un (nb_a14 b h9 k0)).trans (hfr b h9 k0)
  refine lv_dup hx hb d_Z_init_17 rfl ?_
  refine mp_callv hI (va_runIN (As := []) (rest := [.ref a14, .ref o]) ⟨hx, hb, hml, hown, hg⟩ (c_O_init l D g S10 _ a14 560 561 h_15 (by decide)) ⟨(va_cnB 0 hg (wd_goodG q_134) rfl rfl rfl (hK.nw q_132 rfl) (hg _ q_18) (by decide +kernel) ⟨Nat.le_of_ble_eq_true rfl, Nat.le_of_ble_eq_true rfl⟩), rfl, hg _ q_133⟩ (mp_pre hI hK ([.ref a14])) rfl rfl hl.1 rfl (lv_room (Nat.le_of_ble_eq_true rfl)) d_Z_init_18 ⟨Nat.le_of_ble_eq_true rfl, Nat.le_of_ble_eq_true rfl⟩) (fun S16 H17 locs p_18 hI => ?_)
  obtain ⟨x1, gx1, hx1, h_x1, f_x1⟩ := p_18
  have h_o : S16 o = some (30, .inr (6, [.ref a5, .int 0, .null, .null])) := (f_x1 o (mp_in h_o) (mp_ne h_o h_15 (by decide))).trans h_o
  have h_6 : S16 a5 = some (31, .inl ((g 3), 16, .inr (.inr (.inr (.inr (fun _ => none)))))) := (f_x1 a5 (mp_in h_6) (mp_ne h_6 h_15 (by decide))).trans h_6
  have hfr : ∀ b, S b ≠ none → b ≠ o → S16 b = S b := fun b h9 k0 => (f_x1 b (by rw [hfr b h9 k0]; exact h9) (nb_a14 b h9 k0)).trans (hfr b h9 k0)
  refine mp_putF (C := R_Z) (T := F_Z) (N := 4) (v := .ref a14) (ty := .object "SolutionBoxes$OneLetter") hx hb hg i_Z t_Z t_Z_ok n_Z hown hK.va hI h_o rfl 2 (by decide) (hg _ q_147) (fun _ h9 => h9) rfl hin rfl (by decide +kernel) (rfl) rfl (Nat.le_of_ble_eq_true rfl) d_Z_init_21 (fun S20 H21 locs e_22 hI => ?_)
  have e_22 : S20 = va_up S16 o (some (30, .inr (6, [.ref a5, .int 0, .ref a14, .null]))) := e_22
  have h_6 : S20 a5 = some (31, .inl ((g 3), 16, .inr (.inr (.inr (.inr (fun _ => none)))))) := by rw [e_22]; exact mp_keep h_6 h_o (by decide)
  have hx1 : S20 a14 = some (560, .inr (1, [.ref x1, .int (-1)])) := by rw [e_22]; exact mp_keep hx1 h_o (by decide)
  have h_x1 : S20 x1 = some (561, .inl ((g 0), 33, .inl (fun _ => 0))) := by rw [e_22]; exact mp_keep h_x1 h_o (by decide)
  have h_o : S20 o = some (30, .inr (6, [.ref a5, .int 0, .ref a14, .null])) := by rw [e_22]; exact mp_us _ _ _
  have hfr : ∀ b, S b ≠ none → b ≠ o → S20 b = S b := fun b h9 k0 => by rw [e_22]; exact (mp_un k0).trans (hfr b h9 k0)
  refine lv_aload_n hx hb d_Z_init_24 rfl (lv_at hl 0 rfl) ?_
  have hI0 := hI
  refine mp_new (C := R_O) (T := F_O) (N := 2) (ci := 1) (fs := [.null, .int 0]) hx hb hg i_O t_O t_O_ok hown (hg _ q_129) (hg _ q_131) (hg _ q_18) hK.va hI 562 rfl (fun j hj => by rcases (show j = 0 ∨ j = 1 by omega) with rfl | rfl <;> rfl) (Nat.le_of_ble_eq_true rfl) (Nat.le_of_ble_eq_true rfl) d_Z_init_25 (fun S23 H24 z_26 e_25 hI => ?_)
  obtain ⟨a27, ea27⟩ : ∃ z, z = H21.size := ⟨_, rfl⟩
  have g_a27 : s.heap.size ≤ a27 := by rw [ea27]; exact hI0.2.2.1.1
  rw [← ea27] at z_26 e_25
  refine W.eq (g2 := F0 m 28 ls [.ref a27, .ref o]) (by rw [ea27]) ?_
  have h_o : S23 o = some (30, .inr (6, [.ref a5, .int 0, .ref a14, .null])) := by rw [e_25]; exact mp_keepN h_o z_26
  have h_6 : S23 a5 = some (31, .inl ((g 3), 16, .inr (.inr (.inr (.inr (fun _ => none)))))) := by rw [e_25]; exact mp_keepN h_6 z_26
  have hx1 : S23 a14 = some (560, .inr (1, [.ref x1, .int (-1)])) := by rw [e_25]; exact mp_keepN hx1 z_26
  have h_x1 : S23 x1 = some (561, .inl ((g 0), 33, .inl (fun _ => 0))) := by rw [e_25]; exact mp_keepN h_x1 z_26
  have h_28 : S23 a27 = some (562, .inr (1, [.null, .int 0])) := by rw [e_25]; exact mp_us _ _ _
  have nb_a27 : ∀ b, S b ≠ none → b ≠ o → b ≠ a27 := fun b h9 k0 z9 => h9 ((hfr b h9 k0).symm.trans (by rw [z9]; exact z_26))
  have hfr : ∀ b, S b ≠ none → b ≠ o → S23 b = S b := fun b h9 k0 => by rw [e_25]; exact (mp_un (nb_a27 b h9 k0)).trans (hfr b h9 k0)
  refine lv_dup hx hb d_Z_init_28 rfl ?_
  refine mp_callv hI (va_runIN (As := []) (rest := [.ref a27, .ref o]) ⟨hx, hb, hml, hown, hg⟩ (c_O_init l D g S23 _ a27 562 563 h_28 (by decide)) ⟨(va_cnB 0 hg (wd_goodG q_134) rfl rfl rfl (hK.nw q_132 rfl) (hg _ q_18) (by decide +kernel) ⟨Nat.le_of_ble_eq_true rfl, Nat.le_of_ble_eq_true rfl⟩), rfl, hg _ q_133⟩ (mp_pre hI hK ([.ref a27])) rfl rfl hl.1 rfl (lv_room (Nat.le_of_ble_eq_true rfl)) d_Z_init_29 ⟨Nat.le_of_ble_eq_true rfl, Nat.le_of_ble_eq_true rfl⟩) (fun S29 H30 locs p_31 hI => ?_)
  obtain ⟨x2, gx2, hx2, h_x2, f_x2⟩ := p_31
  have h_o : S29 o = some (30, .inr (6, [.ref a5, .int 0, .ref a14, .null])) := (f_x2 o (mp_in h_o) (mp_ne h_o h_28 (by decide))).trans h_o
  have h_6 : S29 a5 = some (31, .inl ((g 3), 16, .inr (.inr (.inr (.inr (fun _ => none)))))) := (f_x2 a5 (mp_in h_6) (mp_ne h_6 h_28 (by decide))).trans h_6
  have hx1 : S29 a14 = some (560, .inr (1, [.ref x1, .int (-1)])) := (f_x2 a14 (mp_in hx1) (mp_ne hx1 h_28 (by decide))).trans hx1
  have h_x1 : S29 x1 = some (561, .inl ((g 0), 33, .inl (fun _ => 0))) := (f_x2 x1 (mp_in h_x1) (mp_ne h_x1 h_28 (by decide))).trans h_x1
  have hfr : ∀ b, S b ≠ none → b ≠ o → S29 b = S b := fun b h9 k0 => (f_x2 b (by rw [hfr b h9 k0]; exact h9) (nb_a27 b h9 k0)).trans (hfr b h9 k0)
  refine mp_putF (C := R_Z) (T := F_Z) (N := 4) (v := .ref a27) (ty := .object "SolutionBoxes$OneLetter") hx hb hg i_Z t_Z t_Z_ok n_Z hown hK.va hI h_o rfl 3 (by decide) (hg _ q_148) (fun _ h9 => h9) rfl hin rfl (by decide +kernel) (rfl) rfl (Nat.le_of_ble_eq_true rfl) d_Z_init_32 (fun S33 H34 locs e_35 hI => ?_)
  have e_35 : S33 = va_up S29 o (some (30, .inr (6, [.ref a5, .int 0, .ref a14, .ref a27]))) := e_35
  have h_6 : S33 a5 = some (31, .inl ((g 3), 16, .inr (.inr (.inr (.inr (fun _ => none)))))) := by rw [e_35]; exact mp_keep h_6 h_o (by decide)
  have hx1 : S33 a14 = some (560, .inr (1, [.ref x1, .int (-1)])) := by rw [e_35]; exact mp_keep hx1 h_o (by decide)
  have h_x1 : S33 x1 = some (561, .inl ((g 0), 33, .inl (fun _ => 0))) := by rw [e_35]; exact mp_keep h_x1 h_o (by decide)
  have hx2 : S33 a27 = some (562, .inr (1, [.ref x2, .int (-1)])) := by rw [e_35]; exact mp_keep hx2 h_o (by decide)
  have h_x2 : S33 x2 = some (563, .inl ((g 0), 33, .inl (fun _ => 0))) := by rw [e_35]; exact mp_keep h_x2 h_o (by decide)
  have h_o : S33 o = some (30, .inr (6, [.ref a5, .int 0, .ref a14, .ref a27])) := by rw [e_35]; exact mp_us _ _ _
  have hfr : ∀ b, S b ≠ none → b ≠ o → S33 b = S b := fun b h9 k0 => by rw [e_35]; exact (mp_un k0).trans (hfr b h9 k0)
  refine lv_iconst (v := nI 0) hx hb d_Z_init_35 (by decide) ?_
  refine lv_istore_n (lv' := [(1, .int (nI 0)), (0, .ref o)]) hx hb d_Z_init_36 rfl hl (by decide) rfl (fun ls hl => ?_)
  have h_6 : S33 a5 = some (31, .inl ((g 3), 16, .inr (.inr (.inr (.inr (rfs (fun _ => 0) 0)))))) := h_6.trans (by rw [rfs_0 (fun _ => 0)])
  refine lp_Z_init (c0 := 0 + 1 + 1 + 1 + 1 + 1) (s0 := 0 + 16 + 2 + 33 + 2 + 33) (B := S33) (o := o) (fs := a5) (on := a14) (ot := a27) hx hb hml hg hown hK (Nat.le_of_ble_eq_true rfl) (Nat.le_of_ble_eq_true rfl) (Nat.le_of_ble_eq_true rfl) (Nat.le_of_ble_eq_true rfl) 16 0 (fun _ => 0) (fun _ => 0) S33 H34 _ ls rfl h_o h_6 (fun j h => absurd h (Nat.not_lt_zero j)) (fun _ _ _ _ => rfl) hI (lv_sub hl [0, 1] rfl) (fun eo ea S9 H9 locs9 ls9 j_o j_fs jE jfr hI hl => ?_)
  refine mp_vret hx hb hr hlocks hI (by decide) (by decide) ?_ d_Z_init_62
  exact ⟨a5, a14, a27, x1, x2, eo, ea, j_o, j_fs, (jfr _ (mp_in hx1) (mp_ne hx1 h_o (by decide)) (mp_ne hx1 h_6 (by decide))).trans hx1, (jfr _ (mp_in h_x1) (mp_ne h_x1 h_o (by decide)) (mp_ne h_x1 h_6 (by decide))).trans h_x1, (jfr _ (mp_in hx2) (mp_ne hx2 h_o (by decide)) (mp_ne hx2 h_6 (by decide))).trans hx2, (jfr _ (mp_in h_x2) (mp_ne h_x2 h_o (by decide)) (mp_ne h_x2 h_6 (by decide))).trans h_x2, jE, fun b h9 k0 => (jfr b (by rw [hfr b h9 k0]; exact h9) k0 (nb_a5 b h9 k0)).trans (hfr b h9 k0)⟩
