theorem d_V_init_0 : decode b_V_init 0 = .ok (.aload_n 0, 1) := by decide +kernel
theorem d_V_init_1 : decode b_V_init 1 = .ok (.invokespecial 3, 3) := by decide +kernel
theorem d_V_init_4 : decode b_V_init 4 = .ok (.aload_n 0, 1) := by decide +kernel
theorem d_V_init_5 : decode b_V_init 5 = .ok (.new 9, 3) := by decide +kernel
theorem d_V_init_8 : decode b_V_init 8 = .ok (.dup, 1) := by decide +kernel
theorem d_V_init_9 : decode b_V_init 9 = .ok (.invokespecial 11, 3) := by decide +kernel
theorem d_V_init_12 : decode b_V_init 12 = .ok (.putfield 12, 3) := by decide +kernel
theorem d_V_init_15 : decode b_V_init 15 = .ok (.aload_n 0, 1) := by decide +kernel
theorem d_V_init_16 : decode b_V_init 16 = .ok (.iconst 3, 1) := by decide +kernel
theorem d_V_init_17 : decode b_V_init 17 = .ok (.anewarray 18, 3) := by decide +kernel
theorem d_V_init_20 : decode b_V_init 20 = .ok (.putfield 20, 3) := by decide +kernel
theorem d_V_init_23 : decode b_V_init 23 = .ok (.aload_n 0, 1) := by decide +kernel
theorem d_V_init_24 : decode b_V_init 24 = .ok (.iconst 3, 1) := by decide +kernel
theorem d_V_init_25 : decode b_V_init 25 = .ok (.bipush 16, 2) := by decide +kernel
theorem d_V_init_27 : decode b_V_init 27 = .ok (.multianewarray 24 2, 4) := by decide +kernel
theorem d_V_init_31 : decode b_V_init 31 = .ok (.putfield 26, 3) := by decide +kernel
theorem d_V_init_34 : decode b_V_init 34 = .ok (.aload_n 0, 1) := by decide +kernel
theorem d_V_init_35 : decode b_V_init 35 = .ok (.iconst 3, 1) := by decide +kernel
theorem d_V_init_36 : decode b_V_init 36 = .ok (.newarray .int, 2) := by decide +kernel
theorem d_V_init_38 : decode b_V_init 38 = .ok (.putfield 29, 3) := by decide +kernel
theorem d_V_init_41 : decode b_V_init 41 = .ok (.aload_n 0, 1) := by decide +kernel
theorem d_V_init_42 : decode b_V_init 42 = .ok (.bipush 16, 2) := by decide +kernel
theorem d_V_init_44 : decode b_V_init 44 = .ok (.iconst 3, 1) := by decide +kernel
theorem d_V_init_45 : decode b_V_init 45 = .ok (.multianewarray 24 2, 4) := by decide +kernel
theorem d_V_init_49 : decode b_V_init 49 = .ok (.putfield 33, 3) := by decide +kernel
theorem d_V_init_52 : decode b_V_init 52 = .ok (.aload_n 0, 1) := by decide +kernel
theorem d_V_init_53 : decode b_V_init 53 = .ok (.bipush 16, 2) := by decide +kernel
theorem d_V_init_55 : decode b_V_init 55 = .ok (.newarray .int, 2) := by decide +kernel
theorem d_V_init_57 : decode b_V_init 57 = .ok (.putfield 36, 3) := by decide +kernel
theorem d_V_init_60 : decode b_V_init 60 = .ok (.aload_n 0, 1) := by decide +kernel
theorem d_V_init_61 : decode b_V_init 61 = .ok (.new 39, 3) := by decide +kernel
theorem d_V_init_64 : decode b_V_init 64 = .ok (.dup, 1) := by decide +kernel
theorem d_V_init_65 : decode b_V_init 65 = .ok (.invokespecial 41, 3) := by decide +kernel
theorem d_V_init_68 : decode b_V_init 68 = .ok (.putfield 42, 3) := by decide +kernel
theorem d_V_init_71 : decode b_V_init 71 = .ok (.aload_n 0, 1) := by decide +kernel
theorem d_V_init_72 : decode b_V_init 72 = .ok (.iload_n 1, 1) := by decide +kernel
theorem d_V_init_73 : decode b_V_init 73 = .ok (.putfield 46, 3) := by decide +kernel
theorem d_V_init_76 : decode b_V_init 76 = .ok (.aload_n 0, 1) := by decide +kernel
theorem d_V_init_77 : decode b_V_init 77 = .ok (.new 50, 3) := by decide +kernel
theorem d_V_init_80 : decode b_V_init 80 = .ok (.dup, 1) := by decide +kernel
theorem d_V_init_81 : decode b_V_init 81 = .ok (.iload_n 1, 1) := by decide +kernel
theorem d_V_init_82 : decode b_V_init 82 = .ok (.invokespecial 52, 3) := by decide +kernel
theorem d_V_init_85 : decode b_V_init 85 = .ok (.putfield 55, 3) := by decide +kernel
theorem d_V_init_88 : decode b_V_init 88 = .ok (.aload_n 0, 1) := by decide +kernel
theorem d_V_init_89 : decode b_V_init 89 = .ok (.new 59, 3) := by decide +kernel
theorem d_V_init_92 : decode b_V_init 92 = .ok (.dup, 1) := by decide +kernel
theorem d_V_init_93 : decode b_V_init 93 = .ok (.iload_n 1, 1) := by decide +kernel
theorem d_V_init_94 : decode b_V_init 94 = .ok (.invokespecial 61, 3) := by decide +kernel
theorem d_V_init_97 : decode b_V_init 97 = .ok (.putfield 62, 3) := by decide +kernel
theorem d_V_init_100 : decode b_V_init 100 = .ok (.iconst 0, 1) := by decide +kernel
theorem d_V_init_101 : decode b_V_init 101 = .ok (.istore_n 2, 1) := by decide +kernel
theorem d_V_init_102 : decode b_V_init 102 = .ok (.iload_n 2, 1) := by decide +kernel
theorem d_V_init_103 : decode b_V_init 103 = .ok (.iconst 3, 1) := by decide +kernel
theorem d_V_init_104 : decode b_V_init 104 = .ok (.if_icmp .ge 29, 3) := by decide +kernel
theorem d_V_init_107 : decode b_V_init 107 = .ok (.aload_n 0, 1) := by decide +kernel
theorem d_V_init_108 : decode b_V_init 108 = .ok (.getfield 20, 3) := by decide +kernel
theorem d_V_init_111 : decode b_V_init 111 = .ok (.iload_n 2, 1) := by decide +kernel
theorem d_V_init_112 : decode b_V_init 112 = .ok (.new 18, 3) := by decide +kernel
theorem d_V_init_115 : decode b_V_init 115 = .ok (.dup, 1) := by decide +kernel
theorem d_V_init_116 : decode b_V_init 116 = .ok (.invokespecial 66, 3) := by decide +kernel
theorem d_V_init_119 : decode b_V_init 119 = .ok (.aastore, 1) := by decide +kernel
theorem d_V_init_120 : decode b_V_init 120 = .ok (.aload_n 0, 1) := by decide +kernel
theorem d_V_init_121 : decode b_V_init 121 = .ok (.getfield 29, 3) := by decide +kernel
theorem d_V_init_124 : decode b_V_init 124 = .ok (.iload_n 2, 1) := by decide +kernel
theorem d_V_init_125 : decode b_V_init 125 = .ok (.iconst 1, 1) := by decide +kernel
theorem d_V_init_126 : decode b_V_init 126 = .ok (.iastore, 1) := by decide +kernel
theorem d_V_init_127 : decode b_V_init 127 = .ok (.iinc 2 1, 3) := by decide +kernel
theorem d_V_init_130 : decode b_V_init 130 = .ok (.goto (-28), 3) := by decide +kernel
theorem d_V_init_133 : decode b_V_init 133 = .ok (.return_, 1) := by decide +kernel
/-- a new Solver and all that it holds: the cell labelled t lies at ad t -/
def vF (g : Nat → ClassId) (o n : Nat) (ad eo ea lo la : Nat → Nat) (kp : Nat → Int32) (S : mp_M) : Prop := S o = some (10, .inr (7, [.int (nI n), .ref (ad 11), .ref (ad 14), .ref (ad 30), .ref (ad 32), .ref (ad 33), .ref (ad 34), .ref (ad 35), .ref (ad 36), .int 0, .ref (ad 37)])) ∧ S (ad 11) = some (11, .inr (5, [.ref (ad 12), .ref (ad 13)])) ∧ S (ad 12) = some (12, .inl ((g 0), (tr3 (9 * n + 1)), .inl (fun _ => 0))) ∧ S (ad 13) = some (13, .inl ((g 0), (tr3 (9 * n + 1)), .inl kp)) ∧ S (ad 14) = some (14, .inr (4, [.int (nI n), .ref (ad 15), .int 0, .ref (ad 16), .ref (ad 17), .ref (ad 18), .ref (ad 19), .ref (ad 20), .ref (ad 21), .ref (ad 22), .ref (ad 23), .ref (ad 26)])) ∧ S (ad 15) = some (15, .inl ((g 0), 16, .inl (fun _ => 0))) ∧ S (ad 16) = some (16, .inl ((g 1), 48, .inr (.inr (.inr (.inr (rfs (fun i => ad 16 + 1 + i) 48)))))) ∧ S (ad 17) = some (17, .inl ((g 0), 16, .inl (fun _ => 0))) ∧ S (ad 18) = some (18, .inl ((g 0), 16, .inl (fun _ => 0))) ∧ S (ad 19) = some (19, .inl ((g 1), 16, .inr (.inr (.inr (.inr (rfs (fun i => ad 19 + 1 + i) 16)))))) ∧ S (ad 20) = some (20, .inl ((g 0), 16, .inl (fun _ => 0))) ∧ S (ad 21) = some (21, .inl ((g 0), 16, .inl (fun _ => 0))) ∧ S (ad 22) = some (22, .inl ((g 0), 33, .inl (fun _ => 0))) ∧ S (ad 23) = some (23, .inr (8, [.ref (ad 24), .ref (ad 25), .int 0])) ∧ S (ad 24) = some (24, .inl ((g 1), 16, .inr (.inr (.inr (.inr (rfs (fun i => ad 24 + 1 + i) 16)))))) ∧ S (ad 25) = some (25, .inl ((g 0), 16, .inl (fun _ => 0))) ∧ S (ad 26) = some (26, .inr (8, [.ref (ad 27), .ref (ad 28), .int 0])) ∧ S (ad 27) = some (27, .inl ((g 1), 16, .inr (.inr (.inr (.inr (rfs (fun i => ad 27 + 1 + i) 16)))))) ∧ S (ad 28) = some (28, .inl ((g 0), 16, .inl (fun _ => 0))) ∧ S (ad 30) = some (30, .inr (6, [.ref (ad 31), .int 0, .ref (ad 560), .ref (ad 562)])) ∧ S (ad 31) = some (31, .inl ((g 3), 16, .inr (.inr (.inr (.inr (rfs eo 16)))))) ∧ S (ad 32) = some (32, .inl ((g 3), 3, .inr (.inr (.inr (.inr (rfs lo 3)))))) ∧ S (ad 33) = some (33, .inl ((g 1), 3, .inr (.inr (.inr (.inr (rfs (fun i => ad 33 + 1 + i) 3)))))) ∧ S (ad 34) = some (34, .inl ((g 0), 3, .inl (fun j => if j < 3 then nI 1 else 0))) ∧ S (ad 35) = some (35, .inl ((g 1), 16, .inr (.inr (.inr (.inr (rfs (fun i => ad 35 + 1 + i) 16)))))) ∧ S (ad 36) = some (36, .inl ((g 0), 16, .inl (fun _ => 0))) ∧ S (ad 37) = some (37, .inr (2, [.ref (ad 38), .ref (ad 39)])) ∧ S (ad 38) = some (38, .inl ((g 0), 3, .inl (fun _ => 0))) ∧ S (ad 39) = some (39, .inl ((g 1), 3, .inr (.inr (.inr (.inr (rfs (fun i => ad 39 + 1 + i) 3)))))) ∧ S (ad 560) = some (560, .inr (1, [.ref (ad 561), .int (-1)])) ∧ S (ad 561) = some (561, .inl ((g 0), 33, .inl (fun _ => 0))) ∧ S (ad 562) = some (562, .inr (1, [.ref (ad 563), .int (-1)])) ∧ S (ad 563) = some (563, .inl ((g 0), 33, .inl (fun _ => 0))) ∧ oS g 520 16 eo ea (fun _ => -1) (fun _ _ => 0) S ∧ oS g 570 3 lo la (fun _ => -1) (fun _ _ => 0) S ∧ rS g 580 3 16 (fun i => ad 33 + 1 + i) (fun _ _ => 0) S ∧ rS g 590 16 3 (fun i => ad 35 + 1 + i) (fun _ _ => 0) S ∧ rS g 610 3 10 (fun i => ad 39 + 1 + i) (fun _ _ => 0) S ∧ rS g 400 48 16 (fun i => ad 16 + 1 + i) (fun _ _ => 0) S ∧ rS g 450 16 16 (fun i => ad 19 + 1 + i) (fun _ _ => 0) S ∧ rS g 470 16 33 (fun i => ad 24 + 1 + i) (fun _ _ => 0) S ∧ rS g 490 16 16 (fun i => ad 27 + 1 + i) (fun _ _ => 0) S ∧ FL kp (tr3 (9 * n + 1))
theorem upd3 (x : Int32) : upd (upd (upd (fun _ => 0) 0 x) 1 x) 2 x = fun j => if j < 3 then x else 0 := by
  funext j
  unfold upd
  by_cases h2 : j = 2
  · subst h2; rfl
  · by_cases h1 : j = 1
    · subst h1; rfl
    · by_cases h0 : j = 0
      · subst h0; rfl
      · simp [h0, h1, h2, show ¬ j < 3 by omega]
set_option maxHeartbeats 4000000 in
set_option maxRecDepth 100000 in
/-- a new solver -/
theorem c_V_init (l : Launch) (D : mp_G) (g : Nat → ClassId) (S : mp_M) (sz : Nat) (o n : Nat) (h_o : S o = some (10, .inr (7, [.int 0, .null, .null, .null, .null, .null, .null, .null, .null, .int 0, .null]))) (hn : n ≤ 3) : Met l y_V_init w_V_init ({ frames := 4, cells := 188, slots := 11119, locals := 61 }) (va_Pc [.ref o, .int (nI n)] (mp_B0 D classes (tys g) S sz)) (va_Qv (fun (S1 : mp_M) => ∃ (ad eo ea lo la : Nat → Nat) (kp : Nat → Int32), vF g o n ad eo ea lo la kp S1 ∧ (∀ b, S b ≠ none → b ≠ o → S1 b = S b)) (mp_B1 D classes S sz) (mp_A S sz)) 188 11119 (mp_A S sz) := by
  refine Met.ofW (cc := b_V_init) (maxL := 3) (ret := none) (by decide) rfl ?_
  intro p e s m args below meth c s₁ B hml hv
  obtain ⟨rfl, hsz, hH, hK⟩ := hv
  have hx := B.exec
  have hb := B.bytes
  have hr := B.returns
  have hts := atoms_spec (ws := w_V_init) B.pre
  have hg : ∀ w ∈ gw, w.before _ s = true := fun w h => hts w (List.mem_cons_of_mem _ h)
  have hown : s.vm.findClass R_V = some m.cls := findClass_of_methodNamed B.named
  have hlocks := B.notSynchronized
  have hin : meth.name = "<init>" := (name_of_methodNamed B.named B.method).1
  subst hsz
  have hI := mp_I.start hH
  have hl := lv_entry ([.ref o, .int (nI n)]) (n := 3) (Nat.le_of_ble_eq_true rfl)
  rw [lg_entry_eq]
  generalize (lg_sl ([.ref o, .int (nI n)]) ++ List.replicate (3 - (lg_sl ([.ref o, .int (nI n)])).length) Slot.unset).toArray = ls at hl ⊢
  have hl : lv_has ls 3 [(0, .ref o), (1, .int (nI n))] := hl
  have hfr : ∀ b, S b ≠ none → b ≠ o → S b = S b := fun _ _ _ => rfl
  refine lv_aload_n hx hb d_V_init_0 rfl (lv_at hl 0 rfl) ?_
  refine W.objInit hx hb hown (hg _ q_122) (hg _ q_29) (hg _ q_30) rfl (by rw [hml]; exact hl.1) rfl d_V_init_1 (Nat.le_of_ble_eq_true rfl) (Nat.le_of_ble_eq_true rfl) ?_
  refine lv_aload_n hx hb d_V_init_4 rfl (lv_at hl 0 rfl) ?_
  have hI0 := hI
  refine mp_new (C := R_Z) (T := F_Z) (N := 4) (ci := 6) (fs := [.null, .int 0, .null, .null]) hx hb hg i_Z t_Z t_Z_ok hown (hg _ q_123) (hg _ q_124) (hg _ q_17) hK.va hI 30 rfl (fun j hj => by rcases (show j = 0 ∨ j = 1 ∨ j = 2 ∨ j = 3 by omega) with rfl | rfl | rfl | rfl <;> rfl) (Nat.le_of_ble_eq_true rfl) (Nat.le_of_ble_eq_true rfl) d_V_init_5 (fun S1 H2 z_4 e_3 hI => ?_)
  obtain ⟨a5, ea5⟩ : ∃ z, z = s.heap.size := ⟨_, rfl⟩
  have g_a5 : s.heap.size ≤ a5 := by rw [ea5]; exact hI0.2.2.1.1
  rw [← ea5] at z_4 e_3
  refine W.eq (g2 := F0 m 8 ls [.ref a5, .ref o]) (by rw [ea5]) ?_
  have h_o : S1 o = some (10, .inr (7, [.int 0, .null, .null, .null, .null, .null, .null, .null, .null, .int 0, .null])) := by rw [e_3]; exact mp_keepN h_o z_4
  have h_6 : S1 a5 = some (30, .inr (6, [.null, .int 0, .null, .null])) := by rw [e_3]; exact mp_us _ _ _
  have nb_a5 : ∀ b, S b ≠ none → b ≠ o → b ≠ a5 := fun b h9 k0 z9 => h9 ((hfr b h9 k0).symm.trans (by rw [z9]; exact z_4))
  have hfr : ∀ b, S b ≠ none → b ≠ o → S1 b = S b := fun b h9 k0 => by rw [e_3]; exact (mp_un (nb_a5 b h9 k0)).trans (hfr b h9 k0)
  refine lv_dup hx hb d_V_init_8 rfl ?_
  refine mp_callv hI (va_runI (As := []) (rest := [.ref a5, .ref o]) ⟨hx, hb, hml, hown, hg⟩ (c_Z_init l D g S1 _ a5 h_6) ⟨(callB_of 0 hg (wd_goodG q_127) rfl rfl rfl (hg _ q_17) (hg _ q_125) (by decide +kernel) ⟨Nat.le_of_ble_eq_true rfl, Nat.le_of_ble_eq_true rfl⟩), rfl, hg _ q_126⟩ (mp_pre hI hK ([.ref a5])) rfl rfl hl.1 rfl (lv_room (Nat.le_of_ble_eq_true rfl)) d_V_init_9 ⟨Nat.le_of_ble_eq_true rfl, Nat.le_of_ble_eq_true rfl⟩) (fun S7 H8 locs p_9 hI => ?_)
  obtain ⟨fs, on, ot, oa1, oa2, eo, ea, hz_o, hz_fs, hz_on, hz_a1, hz_ot, hz_a2, hzE, fz⟩ := p_9
  have h_o : S7 o = some (10, .inr (7, [.int 0, .null, .null, .null, .null, .null, .null, .null, .null, .int 0, .null])) := (fz o (mp_in h_o) (mp_ne h_o h_6 (by decide))).trans h_o
  have hfr : ∀ b, S b ≠ none → b ≠ o → S7 b = S b := fun b h9 k0 => (fz b (by rw [hfr b h9 k0]; exact h9) (nb_a5 b h9 k0)).trans (hfr b h9 k0)
  refine mp_putF (C := R_V) (T := F_V) (N := 11) (v := .ref a5) (ty := .object "SolutionBoxes$Roots") hx hb hg i_V t_V t_V_ok n_V hown hK.va hI h_o rfl 3 (by decide) (hg _ q_263) (fun _ h9 => h9) rfl hin rfl (by decide +kernel) (rfl) rfl (Nat.le_of_ble_eq_true rfl) d_V_init_12 (fun S11 H12 locs e_13 hI => ?_)
  have e_13 : S11 = va_up S7 o (some (10, .inr (7, [.int 0, .null, .null, .ref a5, .null, .null, .null, .null, .null, .int 0, .null]))) := e_13
  have h_o_o := h_o
  have hz_o : S11 a5 = some (30, .inr (6, [.ref fs, .int 0, .ref on, .ref ot])) := by rw [e_13]; exact mp_keep hz_o h_o (by decide)
  have hz_fs : S11 fs = some (31, .inl ((g 3), 16, .inr (.inr (.inr (.inr (rfs eo 16)))))) := by rw [e_13]; exact mp_keep hz_fs h_o (by decide)
  have hz_on : S11 on = some (560, .inr (1, [.ref oa1, .int (-1)])) := by rw [e_13]; exact mp_keep hz_on h_o (by decide)
  have hz_a1 : S11 oa1 = some (561, .inl ((g 0), 33, .inl (fun _ => 0))) := by rw [e_13]; exact mp_keep hz_a1 h_o (by decide)
  have hz_ot : S11 ot = some (562, .inr (1, [.ref oa2, .int (-1)])) := by rw [e_13]; exact mp_keep hz_ot h_o (by decide)
  have hz_a2 : S11 oa2 = some (563, .inl ((g 0), 33, .inl (fun _ => 0))) := by rw [e_13]; exact mp_keep hz_a2 h_o (by decide)
  have h_o : S11 o = some (10, .inr (7, [.int 0, .null, .null, .ref a5, .null, .null, .null, .null, .null, .int 0, .null])) := by rw [e_13]; exact mp_us _ _ _
  have hzE := oS_kept hzE (S1 := S11) (fun b t9 e9 hb9 h1 h2 => by rw [e_13]; exact mp_un (mp_ne hb9 h_o_o (by omega)))
  have hfr : ∀ b, S b ≠ none → b ≠ o → S11 b = S b := fun b h9 k0 => by rw [e_13]; exact (mp_un k0).trans (hfr b h9 k0)
  refine lv_aload_n hx hb d_V_init_15 rfl (lv_at hl 0 rfl) ?_
  refine lv_iconst (v := nI 3) hx hb d_V_init_16 (by decide) ?_
  have hI0 := hI
  refine mp_newq (N' := 3) hx hb hown (hg _ q_158) (hK.use q_130 rfl) hK.va hI 3 32 rfl (by decide) (by decide) (Nat.le_of_ble_eq_true rfl) (Nat.le_of_ble_eq_true rfl) (Nat.le_of_ble_eq_true rfl) d_V_init_17 (fun S14 H15 z_17 e_16 hI => ?_)
  obtain ⟨a18, ea18⟩ : ∃ z, z = H12.size := ⟨_, rfl⟩
  have g_a18 : s.heap.size ≤ a18 := by rw [ea18]; exact hI0.2.2.1.1
  rw [← ea18] at z_17 e_16
  refine W.eq (g2 := F0 m 20 ls [.ref a18, .ref o]) (by rw [ea18]) ?_
  have h_o : S14 o = some (10, .inr (7, [.int 0, .null, .null, .ref a5, .null, .null, .null, .null, .null, .int 0, .null])) := by rw [e_16]; exact mp_keepN h_o z_17
  have hz_o : S14 a5 = some (30, .inr (6, [.ref fs, .int 0, .ref on, .ref ot])) := by rw [e_16]; exact mp_keepN hz_o z_17
  have hz_fs : S14 fs = some (31, .inl ((g 3), 16, .inr (.inr (.inr (.inr (rfs eo 16)))))) := by rw [e_16]; exact mp_keepN hz_fs z_17
  have hz_on : S14 on = some (560, .inr (1, [.ref oa1, .int (-1)])) := by rw [e_16]; exact mp_keepN hz_on z_17
  have hz_a1 : S14 oa1 = some (561, .inl ((g 0), 33, .inl (fun _ => 0))) := by rw [e_16]; exact mp_keepN hz_a1 z_17
  have hz_ot : S14 ot = some (562, .inr (1, [.ref oa2, .int (-1)])) := by rw [e_16]; exact mp_keepN hz_ot z_17
  have hz_a2 : S14 oa2 = some (563, .inl ((g 0), 33, .inl (fun _ => 0))) := by rw [e_16]; exact mp_keepN hz_a2 z_17
  have h_19 : S14 a18 = some (32, .inl ((g 3), 3, .inr (.inr (.inr (.inr (fun _ => none)))))) := by rw [e_16]; exact mp_us _ _ _
  have hzE := oS_kept hzE (S1 := S14) (fun b t9 e9 hb9 h1 h2 => by rw [e_16]; exact mp_un (fun z9 => by rw [z9, z_17] at hb9; cases hb9))
  have nb_a18 : ∀ b, S b ≠ none → b ≠ o → b ≠ a18 := fun b h9 k0 z9 => h9 ((hfr b h9 k0).symm.trans (by rw [z9]; exact z_17))
  have hfr : ∀ b, S b ≠ none → b ≠ o → S14 b = S b := fun b h9 k0 => by rw [e_16]; exact (mp_un (nb_a18 b h9 k0)).trans (hfr b h9 k0)
  refine mp_putF (C := R_V) (T := F_V) (N := 11) (v := .ref a18) (ty := .array (.object "SolutionBoxes$OneLetter")) hx hb hg i_V t_V t_V_ok n_V hown hK.va hI h_o rfl 4 (by decide) (hg _ q_264) (fun _ h9 => h9) rfl hin rfl (by decide +kernel) (rfl) rfl (Nat.le_of_ble_eq_true rfl) d_V_init_20 (fun S20 H21 locs e_22 hI => ?_)
  have e_22 : S20 = va_up S14 o (some (10, .inr (7, [.int 0, .null, .null, .ref a5, .ref a18, .null, .null, .null, .null, .int 0, .null]))) := e_22
  have h_o_o := h_o
  have hz_o : S20 a5 = some (30, .inr (6, [.ref fs, .int 0, .ref on, .ref ot])) := by rw [e_22]; exact mp_keep hz_o h_o (by decide)
  have hz_fs : S20 fs = some (31, .inl ((g 3), 16, .inr (.inr (.inr (.inr (rfs eo 16)))))) := by rw [e_22]; exact mp_keep hz_fs h_o (by decide)
  have hz_on : S20 on = some (560, .inr (1, [.ref oa1, .int (-1)])) := by rw [e_22]; exact mp_keep hz_on h_o (by decide)
  have hz_a1 : S20 oa1 = some (561, .inl ((g 0), 33, .inl (fun _ => 0))) := by rw [e_22]; exact mp_keep hz_a1 h_o (by decide)
  have hz_ot : S20 ot = some (562, .inr (1, [.ref oa2, .int (-1)])) := by rw [e_22]; exact mp_keep hz_ot h_o (by decide)
  have hz_a2 : S20 oa2 = some (563, .inl ((g 0), 33, .inl (fun _ => 0))) := by rw [e_22]; exact mp_keep hz_a2 h_o (by decide)
  have h_19 : S20 a18 = some (32, .inl ((g 3), 3, .inr (.inr (.inr (.inr (fun _ => none)))))) := by rw [e_22]; exact mp_keep h_19 h_o (by decide)
  have h_o : S20 o = some (10, .inr (7, [.int 0, .null, .null, .ref a5, .ref a18, .null, .null, .null, .null, .int 0, .null])) := by rw [e_22]; exact mp_us _ _ _
  have hzE := oS_kept hzE (S1 := S20) (fun b t9 e9 hb9 h1 h2 => by rw [e_22]; exact mp_un (mp_ne hb9 h_o_o (by omega)))
  have hfr : ∀ b, S b ≠ none → b ≠ o → S20 b = S b := fun b h9 k0 => by rw [e_22]; exact (mp_un k0).trans (hfr b h9 k0)
  refine lv_aload_n hx hb d_V_init_23 rfl (lv_at hl 0 rfl) ?_
  refine lv_iconst (v := nI 3) hx hb d_V_init_24 (by decide) ?_
  refine lv_bipush (v := nI 16) hx hb d_V_init_25 (by decide) ?_
  have hI0 := hI
  refine mp_mna hx hb hown (hg _ q_159) (hK.use q_160 rfl) (hg _ q_60) hK.va hI 33 580 (N' := 3) (K' := 16) (by decide) (by decide) (by decide) (by decide) (by decide) (by decide) (Nat.le_of_ble_eq_true rfl) (Nat.le_of_ble_eq_true rfl) d_V_init_27 (fun a23 S24 H25 g_a230 z_26 h_27 hR5 f_28 hI => ?_)
  have g_a23 : s.heap.size ≤ a23 := Nat.le_trans hI0.2.2.1.1 g_a230
  have nb_a23 : ∀ b, S b ≠ none → b ≠ o → b ≠ a23 := fun b h9 k0 z9 => h9 ((hfr b h9 k0).symm.trans (by rw [z9]; exact z_26))
  have h_o : S24 o = some (10, .inr (7, [.int 0, .null, .null, .ref a5, .ref a18, .null, .null, .null, .null, .int 0, .null])) := (f_28 o (mp_in h_o)).trans h_o
  have hz_o : S24 a5 = some (30, .inr (6, [.ref fs, .int 0, .ref on, .ref ot])) := (f_28 a5 (mp_in hz_o)).trans hz_o
  have hz_fs : S24 fs = some (31, .inl ((g 3), 16, .inr (.inr (.inr (.inr (rfs eo 16)))))) := (f_28 fs (mp_in hz_fs)).trans hz_fs
  have hz_on : S24 on = some (560, .inr (1, [.ref oa1, .int (-1)])) := (f_28 on (mp_in hz_on)).trans hz_on
  have hz_a1 : S24 oa1 = some (561, .inl ((g 0), 33, .inl (fun _ => 0))) := (f_28 oa1 (mp_in hz_a1)).trans hz_a1
  have hz_ot : S24 ot = some (562, .inr (1, [.ref oa2, .int (-1)])) := (f_28 ot (mp_in hz_ot)).trans hz_ot
  have hz_a2 : S24 oa2 = some (563, .inl ((g 0), 33, .inl (fun _ => 0))) := (f_28 oa2 (mp_in hz_a2)).trans hz_a2
  have h_19 : S24 a18 = some (32, .inl ((g 3), 3, .inr (.inr (.inr (.inr (fun _ => none)))))) := (f_28 a18 (mp_in h_19)).trans h_19
  have hfr : ∀ b, S b ≠ none → b ≠ o → S24 b = S b := fun b h9 k0 => (f_28 b (by rw [hfr b h9 k0]; exact h9)).trans (hfr b h9 k0)
  have hzE := oS_kept hzE (S1 := S24) (fun b t9 e9 hb9 h1 h2 => f_28 b (mp_in hb9))
  refine mp_putF (C := R_V) (T := F_V) (N := 11) (v := .ref a23) (ty := .array (.array .int)) hx hb hg i_V t_V t_V_ok n_V hown hK.va hI h_o rfl 5 (by decide) (hg _ q_266) (fun _ h9 => h9) rfl hin rfl (by decide +kernel) (rfl) rfl (Nat.le_of_ble_eq_true rfl) d_V_init_31 (fun S29 H30 locs e_31 hI => ?_)
  have e_31 : S29 = va_up S24 o (some (10, .inr (7, [.int 0, .null, .null, .ref a5, .ref a18, .ref a23, .null, .null, .null, .int 0, .null]))) := e_31
  have h_o_o := h_o
  have hz_o : S29 a5 = some (30, .inr (6, [.ref fs, .int 0, .ref on, .ref ot])) := by rw [e_31]; exact mp_keep hz_o h_o (by decide)
  have hz_fs : S29 fs = some (31, .inl ((g 3), 16, .inr (.inr (.inr (.inr (rfs eo 16)))))) := by rw [e_31]; exact mp_keep hz_fs h_o (by decide)
  have hz_on : S29 on = some (560, .inr (1, [.ref oa1, .int (-1)])) := by rw [e_31]; exact mp_keep hz_on h_o (by decide)
  have hz_a1 : S29 oa1 = some (561, .inl ((g 0), 33, .inl (fun _ => 0))) := by rw [e_31]; exact mp_keep hz_a1 h_o (by decide)
  have hz_ot : S29 ot = some (562, .inr (1, [.ref oa2, .int (-1)])) := by rw [e_31]; exact mp_keep hz_ot h_o (by decide)
  have hz_a2 : S29 oa2 = some (563, .inl ((g 0), 33, .inl (fun _ => 0))) := by rw [e_31]; exact mp_keep hz_a2 h_o (by decide)
  have h_19 : S29 a18 = some (32, .inl ((g 3), 3, .inr (.inr (.inr (.inr (fun _ => none)))))) := by rw [e_31]; exact mp_keep h_19 h_o (by decide)
  have h_27 : S29 a23 = some (33, .inl ((g 1), 3, .inr (.inr (.inr (.inr (rfs (fun i => a23 + 1 + i) 3)))))) := by rw [e_31]; exact mp_keep h_27 h_o (by decide)
  have h_o : S29 o = some (10, .inr (7, [.int 0, .null, .null, .ref a5, .ref a18, .ref a23, .null, .null, .null, .int 0, .null])) := by rw [e_31]; exact mp_us _ _ _
  have hzE := oS_kept hzE (S1 := S29) (fun b t9 e9 hb9 h1 h2 => by rw [e_31]; exact mp_un (mp_ne hb9 h_o_o (by omega)))
  have hR5 := rS_kept hR5 (S1 := S29) (fun b t9 e9 hb9 h1 h2 => by rw [e_31]; exact mp_un (mp_ne hb9 h_o_o (by omega)))
  have hfr : ∀ b, S b ≠ none → b ≠ o → S29 b = S b := fun b h9 k0 => by rw [e_31]; exact (mp_un k0).trans (hfr b h9 k0)
  refine lv_aload_n hx hb d_V_init_34 rfl (lv_at hl 0 rfl) ?_
  refine lv_iconst (v := nI 3) hx hb d_V_init_35 (by decide) ?_
  have hI0 := hI
  refine mp_newi (N' := 3) hx hb (hg _ q_60) hK.va hI 0 34 rfl (by decide) (by decide) (Nat.le_of_ble_eq_true rfl) (Nat.le_of_ble_eq_true rfl) (Nat.le_of_ble_eq_true rfl) d_V_init_36 (fun S32 H33 z_35 e_34 hI => ?_)
  obtain ⟨a36, ea36⟩ : ∃ z, z = H30.size := ⟨_, rfl⟩
  have g_a36 : s.heap.size ≤ a36 := by rw [ea36]; exact hI0.2.2.1.1
  rw [← ea36] at z_35 e_34
  refine W.eq (g2 := F0 m 38 ls [.ref a36, .ref o]) (by rw [ea36]) ?_
  have h_o : S32 o = some (10, .inr (7, [.int 0, .null, .null, .ref a5, .ref a18, .ref a23, .null, .null, .null, .int 0, .null])) := by rw [e_34]; exact mp_keepN h_o z_35
  have hz_o : S32 a5 = some (30, .inr (6, [.ref fs, .int 0, .ref on, .ref ot])) := by rw [e_34]; exact mp_keepN hz_o z_35
  have hz_fs : S32 fs = some (31, .inl ((g 3), 16, .inr (.inr (.inr (.inr (rfs eo 16)))))) := by rw [e_34]; exact mp_keepN hz_fs z_35
  have hz_on : S32 on = some (560, .inr (1, [.ref oa1, .int (-1)])) := by rw [e_34]; exact mp_keepN hz_on z_35
  have hz_a1 : S32 oa1 = some (561, .inl ((g 0), 33, .inl (fun _ => 0))) := by rw [e_34]; exact mp_keepN hz_a1 z_35
  have hz_ot : S32 ot = some (562, .inr (1, [.ref oa2, .int (-1)])) := by rw [e_34]; exact mp_keepN hz_ot z_35
  have hz_a2 : S32 oa2 = some (563, .inl ((g 0), 33, .inl (fun _ => 0))) := by rw [e_34]; exact mp_keepN hz_a2 z_35
  have h_19 : S32 a18 = some (32, .inl ((g 3), 3, .inr (.inr (.inr (.inr (fun _ => none)))))) := by rw [e_34]; exact mp_keepN h_19 z_35
  have h_27 : S32 a23 = some (33, .inl ((g 1), 3, .inr (.inr (.inr (.inr (rfs (fun i => a23 + 1 + i) 3)))))) := by rw [e_34]; exact mp_keepN h_27 z_35
  have h_37 : S32 a36 = some (34, .inl ((g 0), 3, .inl (fun _ => 0))) := by rw [e_34]; exact mp_us _ _ _
  have hzE := oS_kept hzE (S1 := S32) (fun b t9 e9 hb9 h1 h2 => by rw [e_34]; exact mp_un (fun z9 => by rw [z9, z_35] at hb9; cases hb9))
  have hR5 := rS_kept hR5 (S1 := S32) (fun b t9 e9 hb9 h1 h2 => by rw [e_34]; exact mp_un (fun z9 => by rw [z9, z_35] at hb9; cases hb9))
  have nb_a36 : ∀ b, S b ≠ none → b ≠ o → b ≠ a36 := fun b h9 k0 z9 => h9 ((hfr b h9 k0).symm.trans (by rw [z9]; exact z_35))
  have hfr : ∀ b, S b ≠ none → b ≠ o → S32 b = S b := fun b h9 k0 => by rw [e_34]; exact (mp_un (nb_a36 b h9 k0)).trans (hfr b h9 k0)
  refine mp_putF (C := R_V) (T := F_V) (N := 11) (v := .ref a36) (ty := .array .int) hx hb hg i_V t_V t_V_ok n_V hown hK.va hI h_o rfl 6 (by decide) (hg _ q_267) (fun _ h9 => h9) rfl hin rfl (by decide +kernel) (rfl) rfl (Nat.le_of_ble_eq_true rfl) d_V_init_38 (fun S38 H39 locs e_40 hI => ?_)
  have e_40 : S38 = va_up S32 o (some (10, .inr (7, [.int 0, .null, .null, .ref a5, .ref a18, .ref a23, .ref a36, .null, .null, .int 0, .null]))) := e_40
  have h_o_o := h_o
  have hz_o : S38 a5 = some (30, .inr (6, [.ref fs, .int 0, .ref on, .ref ot])) := by rw [e_40]; exact mp_keep hz_o h_o (by decide)
  have hz_fs : S38 fs = some (31, .inl ((g 3), 16, .inr (.inr (.inr (.inr (rfs eo 16)))))) := by rw [e_40]; exact mp_keep hz_fs h_o (by decide)
  have hz_on : S38 on = some (560, .inr (1, [.ref oa1, .int (-1)])) := by rw [e_40]; exact mp_keep hz_on h_o (by decide)
  have hz_a1 : S38 oa1 = some (561, .inl ((g 0), 33, .inl (fun _ => 0))) := by rw [e_40]; exact mp_keep hz_a1 h_o (by decide)
  have hz_ot : S38 ot = some (562, .inr (1, [.ref oa2, .int (-1)])) := by rw [e_40]; exact mp_keep hz_ot h_o (by decide)
  have hz_a2 : S38 oa2 = some (563, .inl ((g 0), 33, .inl (fun _ => 0))) := by rw [e_40]; exact mp_keep hz_a2 h_o (by decide)
  have h_19 : S38 a18 = some (32, .inl ((g 3), 3, .inr (.inr (.inr (.inr (fun _ => none)))))) := by rw [e_40]; exact mp_keep h_19 h_o (by decide)
  have h_27 : S38 a23 = some (33, .inl ((g 1), 3, .inr (.inr (.inr (.inr (rfs (fun i => a23 + 1 + i) 3)))))) := by rw [e_40]; exact mp_keep h_27 h_o (by decide)
  have h_37 : S38 a36 = some (34, .inl ((g 0), 3, .inl (fun _ => 0))) := by rw [e_40]; exact mp_keep h_37 h_o (by decide)
  have h_o : S38 o = some (10, .inr (7, [.int 0, .null, .null, .ref a5, .ref a18, .ref a23, .ref a36, .null, .null, .int 0, .null])) := by rw [e_40]; exact mp_us _ _ _
  have hzE := oS_kept hzE (S1 := S38) (fun b t9 e9 hb9 h1 h2 => by rw [e_40]; exact mp_un (mp_ne hb9 h_o_o (by omega)))
  have hR5 := rS_kept hR5 (S1 := S38) (fun b t9 e9 hb9 h1 h2 => by rw [e_40]; exact mp_un (mp_ne hb9 h_o_o (by omega)))
  have hfr : ∀ b, S b ≠ none → b ≠ o → S38 b = S b := fun b h9 k0 => by rw [e_40]; exact (mp_un k0).trans (hfr b h9 k0)
  refine lv_aload_n hx hb d_V_init_41 rfl (lv_at hl 0 rfl) ?_
  refine lv_bipush (v := nI 16) hx hb d_V_init_42 (by decide) ?_
  refine lv_iconst (v := nI 3) hx hb d_V_init_44 (by decide) ?_
  have hI0 := hI
  refine mp_mna hx hb hown (hg _ q_159) (hK.use q_160 rfl) (hg _ q_60) hK.va hI 35 590 (N' := 16) (K' := 3) (by decide) (by decide) (by decide) (by decide) (by decide) (by decide) (Nat.le_of_ble_eq_true rfl) (Nat.le_of_ble_eq_true rfl) d_V_init_45 (fun a41 S42 H43 g_a410 z_44 h_45 hR6 f_46 hI => ?_)
  have g_a41 : s.heap.size ≤ a41 := Nat.le_trans hI0.2.2.1.1 g_a410
  have nb_a41 : ∀ b, S b ≠ none → b ≠ o → b ≠ a41 := fun b h9 k0 z9 => h9 ((hfr b h9 k0).symm.trans (by rw [z9]; exact z_44))
  have h_o : S42 o = some (10, .inr (7, [.int 0, .null, .null, .ref a5, .ref a18, .ref a23, .ref a36, .null, .null, .int 0, .null])) := (f_46 o (mp_in h_o)).trans h_o
  have hz_o : S42 a5 = some (30, .inr (6, [.ref fs, .int 0, .ref on, .ref ot])) := (f_46 a5 (mp_in hz_o)).trans hz_o
  have hz_fs : S42 fs = some (31, .inl ((g 3), 16, .inr (.inr (.inr (.inr (rfs eo 16)))))) := (f_46 fs (mp_in hz_fs)).trans hz_fs
  have hz_on : S42 on = some (560, .inr (1, [.ref oa1, .int (-1)])) := (f_46 on (mp_in hz_on)).trans hz_on
  have hz_a1 : S42 oa1 = some (561, .inl ((g 0), 33, .inl (fun _ => 0))) := (f_46 oa1 (mp_in hz_a1)).trans hz_a1
  have hz_ot : S42 ot = some (562, .inr (1, [.ref oa2, .int (-1)])) := (f_46 ot (mp_in hz_ot)).trans hz_ot
  have hz_a2 : S42 oa2 = some (563, .inl ((g 0), 33, .inl (fun _ => 0))) := (f_46 oa2 (mp_in hz_a2)).trans hz_a2
  have h_19 : S42 a18 = some (32, .inl ((g 3), 3, .inr (.inr (.inr (.inr (fun _ => none)))))) := (f_46 a18 (mp_in h_19)).trans h_19
  have h_27 : S42 a23 = some (33, .inl ((g 1), 3, .inr (.inr (.inr (.inr (rfs (fun i => a23 + 1 + i) 3)))))) := (f_46 a23 (mp_in h_27)).trans h_27
  have h_37 : S42 a36 = some (34, .inl ((g 0), 3, .inl (fun _ => 0))) := (f_46 a36 (mp_in h_37)).trans h_37
  have hfr : ∀ b, S b ≠ none → b ≠ o → S42 b = S b := fun b h9 k0 => (f_46 b (by rw [hfr b h9 k0]; exact h9)).trans (hfr b h9 k0)
  have hzE := oS_kept hzE (S1 := S42) (fun b t9 e9 hb9 h1 h2 => f_46 b (mp_in hb9))
  have hR5 := rS_kept hR5 (S1 := S42) (fun b t9 e9 hb9 h1 h2 => f_46 b (mp_in hb9))
  refine mp_putF (C := R_V) (T := F_V) (N := 11) (v := .ref a41) (ty := .array (.array .int)) hx hb hg i_V t_V t_V_ok n_V hown hK.va hI h_o rfl 7 (by decide) (hg _ q_268) (fun _ h9 => h9) rfl hin rfl (by decide +kernel) (rfl) rfl (Nat.le_of_ble_eq_true rfl) d_V_init_49 (fun S47 H48 locs e_49 hI => ?_)
  have e_49 : S47 = va_up S42 o (some (10, .inr (7, [.int 0, .null, .null, .ref a5, .ref a18, .ref a23, .ref a36, .ref a41, .null, .int 0, .null]))) := e_49
  have h_o_o := h_o
  have hz_o : S47 a5 = some (30, .inr (6, [.ref fs, .int 0, .ref on, .ref ot])) := by rw [e_49]; exact mp_keep hz_o h_o (by decide)
  have hz_fs : S47 fs = some (31, .inl ((g 3), 16, .inr (.inr (.inr (.inr (rfs eo 16)))))) := by rw [e_49]; exact mp_keep hz_fs h_o (by decide)
  have hz_on : S47 on = some (560, .inr (1, [.ref oa1, .int (-1)])) := by rw [e_49]; exact mp_keep hz_on h_o (by decide)
  have hz_a1 : S47 oa1 = some (561, .inl ((g 0), 33, .inl (fun _ => 0))) := by rw [e_49]; exact mp_keep hz_a1 h_o (by decide)
  have hz_ot : S47 ot = some (562, .inr (1, [.ref oa2, .int (-1)])) := by rw [e_49]; exact mp_keep hz_ot h_o (by decide)
  have hz_a2 : S47 oa2 = some (563, .inl ((g 0), 33, .inl (fun _ => 0))) := by rw [e_49]; exact mp_keep hz_a2 h_o (by decide)
  have h_19 : S47 a18 = some (32, .inl ((g 3), 3, .inr (.inr (.inr (.inr (fun _ => none)))))) := by rw [e_49]; exact mp_keep h_19 h_o (by decide)
  have h_27 : S47 a23 = some (33, .inl ((g 1), 3, .inr (.inr (.inr (.inr (rfs (fun i => a23 + 1 + i) 3)))))) := by rw [e_49]; exact mp_keep h_27 h_o (by decide)
  have h_37 : S47 a36 = some (34, .inl ((g 0), 3, .inl (fun _ => 0))) := by rw [e_49]; exact mp_keep h_37 h_o (by decide)
  have h_45 : S47 a41 = some (35, .inl ((g 1), 16, .inr (.inr (.inr (.inr (rfs (fun i => a41 + 1 + i) 16)))))) := by rw [e_49]; exact mp_keep h_45 h_o (by decide)
  have h_o : S47 o = some (10, .inr (7, [.int 0, .null, .null, .ref a5, .ref a18, .ref a23, .ref a36, .ref a41, .null, .int 0, .null])) := by rw [e_49]; exact mp_us _ _ _
  have hzE := oS_kept hzE (S1 := S47) (fun b t9 e9 hb9 h1 h2 => by rw [e_49]; exact mp_un (mp_ne hb9 h_o_o (by omega)))
  have hR5 := rS_kept hR5 (S1 := S47) (fun b t9 e9 hb9 h1 h2 => by rw [e_49]; exact mp_un (mp_ne hb9 h_o_o (by omega)))
  have hR6 := rS_kept hR6 (S1 := S47) (fun b t9 e9 hb9 h1 h2 => by rw [e_49]; exact mp_un (mp_ne hb9 h_o_o (by omega)))
  have hfr : ∀ b, S b ≠ none → b ≠ o → S47 b = S b := fun b h9 k0 => by rw [e_49]; exact (mp_un k0).trans (hfr b h9 k0)
  refine lv_aload_n hx hb d_V_init_52 rfl (lv_at hl 0 rfl) ?_
  refine lv_bipush (v := nI 16) hx hb d_V_init_53 (by decide) ?_
  have hI0 := hI
  refine mp_newi (N' := 16) hx hb (hg _ q_60) hK.va hI 0 36 rfl (by decide) (by decide) (Nat.le_of_ble_eq_true rfl) (Nat.le_of_ble_eq_true rfl) (Nat.le_of_ble_eq_true rfl) d_V_init_55 (fun S50 H51 z_53 e_52 hI => ?_)
  obtain ⟨a54, ea54⟩ : ∃ z, z = H48.size := ⟨_, rfl⟩
  have g_a54 : s.heap.size ≤ a54 := by rw [ea54]; exact hI0.2.2.1.1
  rw [← ea54] at z_53 e_52
  refine W.eq (g2 := F0 m 57 ls [.ref a54, .ref o]) (by rw [ea54]) ?_
  have h_o : S50 o = some (10, .inr (7, [.int 0, .null, .null, .ref a5, .ref a18, .ref a23, .ref a36, .ref a41, .null, .int 0, .null])) := by rw [e_52]; exact mp_keepN h_o z_53
  have hz_o : S50 a5 = some (30, .inr (6, [.ref fs, .int 0, .ref on, .ref ot])) := by rw [e_52]; exact mp_keepN hz_o z_53
  have hz_fs : S50 fs = some (31, .inl ((g 3), 16, .inr (.inr (.inr (.inr (rfs eo 16)))))) := by rw [e_52]; exact mp_keepN hz_fs z_53
  have hz_on : S50 on = some (560, .inr (1, [.ref oa1, .int (-1)])) := by rw [e_52]; exact mp_keepN hz_on z_53
  have hz_a1 : S50 oa1 = some (561, .inl ((g 0), 33, .inl (fun _ => 0))) := by rw [e_52]; exact mp_keepN hz_a1 z_53
  have hz_ot : S50 ot = some (562, .inr (1, [.ref oa2, .int (-1)])) := by rw [e_52]; exact mp_keepN hz_ot z_53
  have hz_a2 : S50 oa2 = some (563, .inl ((g 0), 33, .inl (fun _ => 0))) := by rw [e_52]; exact mp_keepN hz_a2 z_53
  have h_19 : S50 a18 = some (32, .inl ((g 3), 3, .inr (.inr (.inr (.inr (fun _ => none)))))) := by rw [e_52]; exact mp_keepN h_19 z_53
  have h_27 : S50 a23 = some (33, .inl ((g 1), 3, .inr (.inr (.inr (.inr (rfs (fun i => a23 + 1 + i) 3)))))) := by rw [e_52]; exact mp_keepN h_27 z_53
  have h_37 : S50 a36 = some (34, .inl ((g 0), 3, .inl (fun _ => 0))) := by rw [e_52]; exact mp_keepN h_37 z_53
  have h_45 : S50 a41 = some (35, .inl ((g 1), 16, .inr (.inr (.inr (.inr (rfs (fun i => a41 + 1 + i) 16)))))) := by rw [e_52]; exact mp_keepN h_45 z_53
  have h_55 : S50 a54 = some (36, .inl ((g 0), 16, .inl (fun _ => 0))) := by rw [e_52]; exact mp_us _ _ _
  have hzE := oS_kept hzE (S1 := S50) (fun b t9 e9 hb9 h1 h2 => by rw [e_52]; exact mp_un (fun z9 => by rw [z9, z_53] at hb9; cases hb9))
  have hR5 := rS_kept hR5 (S1 := S50) (fun b t9 e9 hb9 h1 h2 => by rw [e_52]; exact mp_un (fun z9 => by rw [z9, z_53] at hb9; cases hb9))
  have hR6 := rS_kept hR6 (S1 := S50) (fun b t9 e9 hb9 h1 h2 => by rw [e_52]; exact mp_un (fun z9 => by rw [z9, z_53] at hb9; cases hb9))
  have nb_a54 : ∀ b, S b ≠ none → b ≠ o → b ≠ a54 := fun b h9 k0 z9 => h9 ((hfr b h9 k0).symm.trans (by rw [z9]; exact z_53))
  have hfr : ∀ b, S b ≠ none → b ≠ o → S50 b = S b := fun b h9 k0 => by rw [e_52]; exact (mp_un (nb_a54 b h9 k0)).trans (hfr b h9 k0)
  refine mp_putF (C := R_V) (T := F_V) (N := 11) (v := .ref a54) (ty := .array .int) hx hb hg i_V t_V t_V_ok n_V hown hK.va hI h_o rfl 8 (by decide) (hg _ q_270) (fun _ h9 => h9) rfl hin rfl (by decide +kernel) (rfl) rfl (Nat.le_of_ble_eq_true rfl) d_V_init_57 (fun S56 H57 locs e_58 hI => ?_)
  have e_58 : S56 = va_up S50 o (some (10, .inr (7, [.int 0, .null, .null, .ref a5, .ref a18, .ref a23, .ref a36, .ref a41, .ref a54, .int 0, .null]))) := e_58
  have h_o_o := h_o
  have hz_o : S56 a5 = some (30, .inr (6, [.ref fs, .int 0, .ref on, .ref ot])) := by rw [e_58]; exact mp_keep hz_o h_o (by decide)
  have hz_fs : S56 fs = some (31, .inl ((g 3), 16, .inr (.inr (.inr (.inr (rfs eo 16)))))) := by rw [e_58]; exact mp_keep hz_fs h_o (by decide)
  have hz_on : S56 on = some (560, .inr (1, [.ref oa1, .int (-1)])) := by rw [e_58]; exact mp_keep hz_on h_o (by decide)
  have hz_a1 : S56 oa1 = some (561, .inl ((g 0), 33, .inl (fun _ => 0))) := by rw [e_58]; exact mp_keep hz_a1 h_o (by decide)
  have hz_ot : S56 ot = some (562, .inr (1, [.ref oa2, .int (-1)])) := by rw [e_58]; exact mp_keep hz_ot h_o (by decide)
  have hz_a2 : S56 oa2 = some (563, .inl ((g 0), 33, .inl (fun _ => 0))) := by rw [e_58]; exact mp_keep hz_a2 h_o (by decide)
  have h_19 : S56 a18 = some (32, .inl ((g 3), 3, .inr (.inr (.inr (.inr (fun _ => none)))))) := by rw [e_58]; exact mp_keep h_19 h_o (by decide)
  have h_27 : S56 a23 = some (33, .inl ((g 1), 3, .inr (.inr (.inr (.inr (rfs (fun i => a23 + 1 + i) 3)))))) := by rw [e_58]; exact mp_keep h_27 h_o (by decide)
  have h_37 : S56 a36 = some (34, .inl ((g 0), 3, .inl (fun _ => 0))) := by rw [e_58]; exact mp_keep h_37 h_o (by decide)
  have h_45 : S56 a41 = some (35, .inl ((g 1), 16, .inr (.inr (.inr (.inr (rfs (fun i => a41 + 1 + i) 16)))))) := by rw [e_58]; exact mp_keep h_45 h_o (by decide)
  have h_55 : S56 a54 = some (36, .inl ((g 0), 16, .inl (fun _ => 0))) := by rw [e_58]; exact mp_keep h_55 h_o (by decide)
  have h_o : S56 o = some (10, .inr (7, [.int 0, .null, .null, .ref a5, .ref a18, .ref a23, .ref a36, .ref a41, .ref a54, .int 0, .null])) := by rw [e_58]; exact mp_us _ _ _
  have hzE := oS_kept hzE (S1 := S56) (fun b t9 e9 hb9 h1 h2 => by rw [e_58]; exact mp_un (mp_ne hb9 h_o_o (by omega)))
  have hR5 := rS_kept hR5 (S1 := S56) (fun b t9 e9 hb9 h1 h2 => by rw [e_58]; exact mp_un (mp_ne hb9 h_o_o (by omega)))
  have hR6 := rS_kept hR6 (S1 := S56) (fun b t9 e9 hb9 h1 h2 => by rw [e_58]; exact mp_un (mp_ne hb9 h_o_o (by omega)))
  have hfr : ∀ b, S b ≠ none → b ≠ o → S56 b = S b := fun b h9 k0 => by rw [e_58]; exact (mp_un k0).trans (hfr b h9 k0)
  refine lv_aload_n hx hb d_V_init_60 rfl (lv_at hl 0 rfl) ?_
  have hI0 := hI
  refine mp_new (C := R_P) (T := F_P) (N := 2) (ci := 2) (fs := [.null, .null]) hx hb hg i_P t_P t_P_ok hown (hg _ q_161) (hg _ q_162) (hg _ q_19) hK.va hI 37 rfl (fun j hj => by rcases (show j = 0 ∨ j = 1 by omega) with rfl | rfl <;> rfl) (Nat.le_of_ble_eq_true rfl) (Nat.le_of_ble_eq_true rfl) d_V_init_61 (fun S59 H60 z_62 e_61 hI => ?_)
  obtain ⟨a63, ea63⟩ : ∃ z, z = H57.size := ⟨_, rfl⟩
  have g_a63 : s.heap.size ≤ a63 := by rw [ea63]; exact hI0.2.2.1.1
  rw [← ea63] at z_62 e_61
  refine W.eq (g2 := F0 m 64 ls [.ref a63, .ref o]) (by rw [ea63]) ?_
  have h_o : S59 o = some (10, .inr (7, [.int 0, .null, .null, .ref a5, .ref a18, .ref a23, .ref a36, .ref a41, .ref a54, .int 0, .null])) := by rw [e_61]; exact mp_keepN h_o z_62
  have hz_o : S59 a5 = some (30, .inr (6, [.ref fs, .int 0, .ref on, .ref ot])) := by rw [e_61]; exact mp_keepN hz_o z_62
  have hz_fs : S59 fs = some (31, .inl ((g 3), 16, .inr (.inr (.inr (.inr (rfs eo 16)))))) := by rw [e_61]; exact mp_keepN hz_fs z_62
  have hz_on : S59 on = some (560, .inr (1, [.ref oa1, .int (-1)])) := by rw [e_61]; exact mp_keepN hz_on z_62
  have hz_a1 : S59 oa1 = some (561, .inl ((g 0), 33, .inl (fun _ => 0))) := by rw [e_61]; exact mp_keepN hz_a1 z_62
  have hz_ot : S59 ot = some (562, .inr (1, [.ref oa2, .int (-1)])) := by rw [e_61]; exact mp_keepN hz_ot z_62
  have hz_a2 : S59 oa2 = some (563, .inl ((g 0), 33, .inl (fun _ => 0))) := by rw [e_61]; exact mp_keepN hz_a2 z_62
  have h_19 : S59 a18 = some (32, .inl ((g 3), 3, .inr (.inr (.inr (.inr (fun _ => none)))))) := by rw [e_61]; exact mp_keepN h_19 z_62
  have h_27 : S59 a23 = some (33, .inl ((g 1), 3, .inr (.inr (.inr (.inr (rfs (fun i => a23 + 1 + i) 3)))))) := by rw [e_61]; exact mp_keepN h_27 z_62
  have h_37 : S59 a36 = some (34, .inl ((g 0), 3, .inl (fun _ => 0))) := by rw [e_61]; exact mp_keepN h_37 z_62
  have h_45 : S59 a41 = some (35, .inl ((g 1), 16, .inr (.inr (.inr (.inr (rfs (fun i => a41 + 1 + i) 16)))))) := by rw [e_61]; exact mp_keepN h_45 z_62
  have h_55 : S59 a54 = some (36, .inl ((g 0), 16, .inl (fun _ => 0))) := by rw [e_61]; exact mp_keepN h_55 z_62
  have h_64 : S59 a63 = some (37, .inr (2, [.null, .null])) := by rw [e_61]; exact mp_us _ _ _
  have hzE := oS_kept hzE (S1 := S59) (fun b t9 e9 hb9 h1 h2 => by rw [e_61]; exact mp_un (fun z9 => by rw [z9, z_62] at hb9; cases hb9))
  have hR5 := rS_kept hR5 (S1 := S59) (fun b t9 e9 hb9 h1 h2 => by rw [e_61]; exact mp_un (fun z9 => by rw [z9, z_62] at hb9; cases hb9))
  have hR6 := rS_kept hR6 (S1 := S59) (fun b t9 e9 hb9 h1 h2 => by rw [e_61]; exact mp_un (fun z9 => by rw [z9, z_62] at hb9; cases hb9))
  have nb_a63 : ∀ b, S b ≠ none → b ≠ o → b ≠ a63 := fun b h9 k0 z9 => h9 ((hfr b h9 k0).symm.trans (by rw [z9]; exact z_62))
  have hfr : ∀ b, S b ≠ none → b ≠ o → S59 b = S b := fun b h9 k0 => by rw [e_61]; exact (mp_un (nb_a63 b h9 k0)).trans (hfr b h9 k0)
  refine lv_dup hx hb d_V_init_64 rfl ?_
  refine mp_callv hI (va_runIN (As := []) (rest := [.ref a63, .ref o]) ⟨hx, hb, hml, hown, hg⟩ (c_P_init l D g S59 _ a63 h_64) ⟨(va_cnB 0 hg (wd_goodG q_165) rfl rfl rfl (hK.nw q_163 rfl) (hg _ q_19) (by decide +kernel) ⟨Nat.le_of_ble_eq_true rfl, Nat.le_of_ble_eq_true rfl⟩), rfl, hg _ q_164⟩ (mp_pre hI hK ([.ref a63])) rfl rfl hl.1 rfl (lv_room (Nat.le_of_ble_eq_true rfl)) d_V_init_65 ⟨Nat.le_of_ble_eq_true rfl, Nat.le_of_ble_eq_true rfl⟩) (fun S65 H66 locs p_67 hI => ?_)
  obtain ⟨pnu, ppw, hp_o, hp_n, hp_p, hR7, fp⟩ := p_67
  have h_o : S65 o = some (10, .inr (7, [.int 0, .null, .null, .ref a5, .ref a18, .ref a23, .ref a36, .ref a41, .ref a54, .int 0, .null])) := (fp o (mp_in h_o) (mp_ne h_o h_64 (by decide))).trans h_o
  have hz_o : S65 a5 = some (30, .inr (6, [.ref fs, .int 0, .ref on, .ref ot])) := (fp a5 (mp_in hz_o) (mp_ne hz_o h_64 (by decide))).trans hz_o
  have hz_fs : S65 fs = some (31, .inl ((g 3), 16, .inr (.inr (.inr (.inr (rfs eo 16)))))) := (fp fs (mp_in hz_fs) (mp_ne hz_fs h_64 (by decide))).trans hz_fs
  have hz_on : S65 on = some (560, .inr (1, [.ref oa1, .int (-1)])) := (fp on (mp_in hz_on) (mp_ne hz_on h_64 (by decide))).trans hz_on
  have hz_a1 : S65 oa1 = some (561, .inl ((g 0), 33, .inl (fun _ => 0))) := (fp oa1 (mp_in hz_a1) (mp_ne hz_a1 h_64 (by decide))).trans hz_a1
  have hz_ot : S65 ot = some (562, .inr (1, [.ref oa2, .int (-1)])) := (fp ot (mp_in hz_ot) (mp_ne hz_ot h_64 (by decide))).trans hz_ot
  have hz_a2 : S65 oa2 = some (563, .inl ((g 0), 33, .inl (fun _ => 0))) := (fp oa2 (mp_in hz_a2) (mp_ne hz_a2 h_64 (by decide))).trans hz_a2
  have h_19 : S65 a18 = some (32, .inl ((g 3), 3, .inr (.inr (.inr (.inr (fun _ => none)))))) := (fp a18 (mp_in h_19) (mp_ne h_19 h_64 (by decide))).trans h_19
  have h_27 : S65 a23 = some (33, .inl ((g 1), 3, .inr (.inr (.inr (.inr (rfs (fun i => a23 + 1 + i) 3)))))) := (fp a23 (mp_in h_27) (mp_ne h_27 h_64 (by decide))).trans h_27
  have h_37 : S65 a36 = some (34, .inl ((g 0), 3, .inl (fun _ => 0))) := (fp a36 (mp_in h_37) (mp_ne h_37 h_64 (by decide))).trans h_37
  have h_45 : S65 a41 = some (35, .inl ((g 1), 16, .inr (.inr (.inr (.inr (rfs (fun i => a41 + 1 + i) 16)))))) := (fp a41 (mp_in h_45) (mp_ne h_45 h_64 (by decide))).trans h_45
  have h_55 : S65 a54 = some (36, .inl ((g 0), 16, .inl (fun _ => 0))) := (fp a54 (mp_in h_55) (mp_ne h_55 h_64 (by decide))).trans h_55
  have hfr : ∀ b, S b ≠ none → b ≠ o → S65 b = S b := fun b h9 k0 => (fp b (by rw [hfr b h9 k0]; exact h9) (nb_a63 b h9 k0)).trans (hfr b h9 k0)
  have hzE := oS_kept hzE (S1 := S65) (fun b t9 e9 hb9 h1 h2 => fp b (mp_in hb9) (mp_ne hb9 h_64 (by omega)))
  have hR5 := rS_kept hR5 (S1 := S65) (fun b t9 e9 hb9 h1 h2 => fp b (mp_in hb9) (mp_ne hb9 h_64 (by omega)))
  have hR6 := rS_kept hR6 (S1 := S65) (fun b t9 e9 hb9 h1 h2 => fp b (mp_in hb9) (mp_ne hb9 h_64 (by omega)))
  refine mp_putF (C := R_V) (T := F_V) (N := 11) (v := .ref a63) (ty := .object "SolutionBoxes$Point") hx hb hg i_V t_V t_V_ok n_V hown hK.va hI h_o rfl 10 (by decide) (hg _ q_274) (fun _ h9 => h9) rfl hin rfl (by decide +kernel) (rfl) rfl (Nat.le_of_ble_eq_true rfl) d_V_init_68 (fun S69 H70 locs e_71 hI => ?_)
  have e_71 : S69 = va_up S65 o (some (10, .inr (7, [.int 0, .null, .null, .ref a5, .ref a18, .ref a23, .ref a36, .ref a41, .ref a54, .int 0, .ref a63]))) := e_71
  have h_o_o := h_o
  have hz_o : S69 a5 = some (30, .inr (6, [.ref fs, .int 0, .ref on, .ref ot])) := by rw [e_71]; exact mp_keep hz_o h_o (by decide)
  have hz_fs : S69 fs = some (31, .inl ((g 3), 16, .inr (.inr (.inr (.inr (rfs eo 16)))))) := by rw [e_71]; exact mp_keep hz_fs h_o (by decide)
  have hz_on : S69 on = some (560, .inr (1, [.ref oa1, .int (-1)])) := by rw [e_71]; exact mp_keep hz_on h_o (by decide)
  have hz_a1 : S69 oa1 = some (561, .inl ((g 0), 33, .inl (fun _ => 0))) := by rw [e_71]; exact mp_keep hz_a1 h_o (by decide)
  have hz_ot : S69 ot = some (562, .inr (1, [.ref oa2, .int (-1)])) := by rw [e_71]; exact mp_keep hz_ot h_o (by decide)
  have hz_a2 : S69 oa2 = some (563, .inl ((g 0), 33, .inl (fun _ => 0))) := by rw [e_71]; exact mp_keep hz_a2 h_o (by decide)
  have h_19 : S69 a18 = some (32, .inl ((g 3), 3, .inr (.inr (.inr (.inr (fun _ => none)))))) := by rw [e_71]; exact mp_keep h_19 h_o (by decide)
  have h_27 : S69 a23 = some (33, .inl ((g 1), 3, .inr (.inr (.inr (.inr (rfs (fun i => a23 + 1 + i) 3)))))) := by rw [e_71]; exact mp_keep h_27 h_o (by decide)
  have h_37 : S69 a36 = some (34, .inl ((g 0), 3, .inl (fun _ => 0))) := by rw [e_71]; exact mp_keep h_37 h_o (by decide)
  have h_45 : S69 a41 = some (35, .inl ((g 1), 16, .inr (.inr (.inr (.inr (rfs (fun i => a41 + 1 + i) 16)))))) := by rw [e_71]; exact mp_keep h_45 h_o (by decide)
  have h_55 : S69 a54 = some (36, .inl ((g 0), 16, .inl (fun _ => 0))) := by rw [e_71]; exact mp_keep h_55 h_o (by decide)
  have hp_o : S69 a63 = some (37, .inr (2, [.ref pnu, .ref ppw])) := by rw [e_71]; exact mp_keep hp_o h_o (by decide)
  have hp_n : S69 pnu = some (38, .inl ((g 0), 3, .inl (fun _ => 0))) := by rw [e_71]; exact mp_keep hp_n h_o (by decide)
  have hp_p : S69 ppw = some (39, .inl ((g 1), 3, .inr (.inr (.inr (.inr (rfs (fun i => ppw + 1 + i) 3)))))) := by rw [e_71]; exact mp_keep hp_p h_o (by decide)
  have h_o : S69 o = some (10, .inr (7, [.int 0, .null, .null, .ref a5, .ref a18, .ref a23, .ref a36, .ref a41, .ref a54, .int 0, .ref a63])) := by rw [e_71]; exact mp_us _ _ _
  have hzE := oS_kept hzE (S1 := S69) (fun b t9 e9 hb9 h1 h2 => by rw [e_71]; exact mp_un (mp_ne hb9 h_o_o (by omega)))
  have hR5 := rS_kept hR5 (S1 := S69) (fun b t9 e9 hb9 h1 h2 => by rw [e_71]; exact mp_un (mp_ne hb9 h_o_o (by omega)))
  have hR6 := rS_kept hR6 (S1 := S69) (fun b t9 e9 hb9 h1 h2 => by rw [e_71]; exact mp_un (mp_ne hb9 h_o_o (by omega)))
  have hR7 := rS_kept hR7 (S1 := S69) (fun b t9 e9 hb9 h1 h2 => by rw [e_71]; exact mp_un (mp_ne hb9 h_o_o (by omega)))
  have hfr : ∀ b, S b ≠ none → b ≠ o → S69 b = S b := fun b h9 k0 => by rw [e_71]; exact (mp_un k0).trans (hfr b h9 k0)
  refine lv_aload_n hx hb d_V_init_71 rfl (lv_at hl 0 rfl) ?_
  refine lv_iload_n hx hb d_V_init_72 rfl (lv_at hl 1 rfl) ?_
  refine mp_putF (C := R_V) (T := F_V) (N := 11) (v := .int (nI n)) (ty := .int) hx hb hg i_V t_V t_V_ok n_V hown hK.va hI h_o rfl 0 (by decide) (hg _ q_259) (fun _ h9 => h9) rfl hin rfl (by decide +kernel) (rfl) rfl (Nat.le_of_ble_eq_true rfl) d_V_init_73 (fun S72 H73 locs e_74 hI => ?_)
  have e_74 : S72 = va_up S69 o (some (10, .inr (7, [.int (nI n), .null, .null, .ref a5, .ref a18, .ref a23, .ref a36, .ref a41, .ref a54, .int 0, .ref a63]))) := e_74
  have h_o_o := h_o
  have hz_o : S72 a5 = some (30, .inr (6, [.ref fs, .int 0, .ref on, .ref ot])) := by rw [e_74]; exact mp_keep hz_o h_o (by decide)
  have hz_fs : S72 fs = some (31, .inl ((g 3), 16, .inr (.inr (.inr (.inr (rfs eo 16)))))) := by rw [e_74]; exact mp_keep hz_fs h_o (by decide)
  have hz_on : S72 on = some (560, .inr (1, [.ref oa1, .int (-1)])) := by rw [e_74]; exact mp_keep hz_on h_o (by decide)
  have hz_a1 : S72 oa1 = some (561, .inl ((g 0), 33, .inl (fun _ => 0))) := by rw [e_74]; exact mp_keep hz_a1 h_o (by decide)
  have hz_ot : S72 ot = some (562, .inr (1, [.ref oa2, .int (-1)])) := by rw [e_74]; exact mp_keep hz_ot h_o (by decide)
  have hz_a2 : S72 oa2 = some (563, .inl ((g 0), 33, .inl (fun _ => 0))) := by rw [e_74]; exact mp_keep hz_a2 h_o (by decide)
  have h_19 : S72 a18 = some (32, .inl ((g 3), 3, .inr (.inr (.inr (.inr (fun _ => none)))))) := by rw [e_74]; exact mp_keep h_19 h_o (by decide)
  have h_27 : S72 a23 = some (33, .inl ((g 1), 3, .inr (.inr (.inr (.inr (rfs (fun i => a23 + 1 + i) 3)))))) := by rw [e_74]; exact mp_keep h_27 h_o (by decide)
  have h_37 : S72 a36 = some (34, .inl ((g 0), 3, .inl (fun _ => 0))) := by rw [e_74]; exact mp_keep h_37 h_o (by decide)
  have h_45 : S72 a41 = some (35, .inl ((g 1), 16, .inr (.inr (.inr (.inr (rfs (fun i => a41 + 1 + i) 16)))))) := by rw [e_74]; exact mp_keep h_45 h_o (by decide)
  have h_55 : S72 a54 = some (36, .inl ((g 0), 16, .inl (fun _ => 0))) := by rw [e_74]; exact mp_keep h_55 h_o (by decide)
  have hp_o : S72 a63 = some (37, .inr (2, [.ref pnu, .ref ppw])) := by rw [e_74]; exact mp_keep hp_o h_o (by decide)
  have hp_n : S72 pnu = some (38, .inl ((g 0), 3, .inl (fun _ => 0))) := by rw [e_74]; exact mp_keep hp_n h_o (by decide)
  have hp_p : S72 ppw = some (39, .inl ((g 1), 3, .inr (.inr (.inr (.inr (rfs (fun i => ppw + 1 + i) 3)))))) := by rw [e_74]; exact mp_keep hp_p h_o (by decide)
  have h_o : S72 o = some (10, .inr (7, [.int (nI n), .null, .null, .ref a5, .ref a18, .ref a23, .ref a36, .ref a41, .ref a54, .int 0, .ref a63])) := by rw [e_74]; exact mp_us _ _ _
  have hzE := oS_kept hzE (S1 := S72) (fun b t9 e9 hb9 h1 h2 => by rw [e_74]; exact mp_un (mp_ne hb9 h_o_o (by omega)))
  have hR5 := rS_kept hR5 (S1 := S72) (fun b t9 e9 hb9 h1 h2 => by rw [e_74]; exact mp_un (mp_ne hb9 h_o_o (by omega)))
  have hR6 := rS_kept hR6 (S1 := S72) (fun b t9 e9 hb9 h1 h2 => by rw [e_74]; exact mp_un (mp_ne hb9 h_o_o (by omega)))
  have hR7 := rS_kept hR7 (S1 := S72) (fun b t9 e9 hb9 h1 h2 => by rw [e_74]; exact mp_un (mp_ne hb9 h_o_o (by omega)))
  have hfr : ∀ b, S b ≠ none → b ≠ o → S72 b = S b := fun b h9 k0 => by rw [e_74]; exact (mp_un k0).trans (hfr b h9 k0)
  refine lv_aload_n hx hb d_V_init_76 rfl (lv_at hl 0 rfl) ?_
  have hI0 := hI
  refine mp_new (C := R_D) (T := F_D) (N := 2) (ci := 5) (fs := [.null, .null]) hx hb hg i_D t_D t_D_ok hown (hg _ q_175) (hg _ q_176) (hg _ q_20) hK.va hI 11 rfl (fun j hj => by rcases (show j = 0 ∨ j = 1 by omega) with rfl | rfl <;> rfl) (Nat.le_of_ble_eq_true rfl) (Nat.le_of_ble_eq_true rfl) d_V_init_77 (fun S75 H76 z_78 e_77 hI => ?_)
  obtain ⟨a79, ea79⟩ : ∃ z, z = H73.size := ⟨_, rfl⟩
  have g_a79 : s.heap.size ≤ a79 := by rw [ea79]; exact hI0.2.2.1.1
  rw [← ea79] at z_78 e_77
  refine W.eq (g2 := F0 m 80 ls [.ref a79, .ref o]) (by rw [ea79]) ?_
  have h_o : S75 o = some (10, .inr (7, [.int (nI n), .null, .null, .ref a5, .ref a18, .ref a23, .ref a36, .ref a41, .ref a54, .int 0, .ref a63])) := by rw [e_77]; exact mp_keepN h_o z_78
  have hz_o : S75 a5 = some (30, .inr (6, [.ref fs, .int 0, .ref on, .ref ot])) := by rw [e_77]; exact mp_keepN hz_o z_78
  have hz_fs : S75 fs = some (31, .inl ((g 3), 16, .inr (.inr (.inr (.inr (rfs eo 16)))))) := by rw [e_77]; exact mp_keepN hz_fs z_78
  have hz_on : S75 on = some (560, .inr (1, [.ref oa1, .int (-1)])) := by rw [e_77]; exact mp_keepN hz_on z_78
  have hz_a1 : S75 oa1 = some (561, .inl ((g 0), 33, .inl (fun _ => 0))) := by rw [e_77]; exact mp_keepN hz_a1 z_78
  have hz_ot : S75 ot = some (562, .inr (1, [.ref oa2, .int (-1)])) := by rw [e_77]; exact mp_keepN hz_ot z_78
  have hz_a2 : S75 oa2 = some (563, .inl ((g 0), 33, .inl (fun _ => 0))) := by rw [e_77]; exact mp_keepN hz_a2 z_78
  have h_19 : S75 a18 = some (32, .inl ((g 3), 3, .inr (.inr (.inr (.inr (fun _ => none)))))) := by rw [e_77]; exact mp_keepN h_19 z_78
  have h_27 : S75 a23 = some (33, .inl ((g 1), 3, .inr (.inr (.inr (.inr (rfs (fun i => a23 + 1 + i) 3)))))) := by rw [e_77]; exact mp_keepN h_27 z_78
  have h_37 : S75 a36 = some (34, .inl ((g 0), 3, .inl (fun _ => 0))) := by rw [e_77]; exact mp_keepN h_37 z_78
  have h_45 : S75 a41 = some (35, .inl ((g 1), 16, .inr (.inr (.inr (.inr (rfs (fun i => a41 + 1 + i) 16)))))) := by rw [e_77]; exact mp_keepN h_45 z_78
  have h_55 : S75 a54 = some (36, .inl ((g 0), 16, .inl (fun _ => 0))) := by rw [e_77]; exact mp_keepN h_55 z_78
  have hp_o : S75 a63 = some (37, .inr (2, [.ref pnu, .ref ppw])) := by rw [e_77]; exact mp_keepN hp_o z_78
  have hp_n : S75 pnu = some (38, .inl ((g 0), 3, .inl (fun _ => 0))) := by rw [e_77]; exact mp_keepN hp_n z_78
  have hp_p : S75 ppw = some (39, .inl ((g 1), 3, .inr (.inr (.inr (.inr (rfs (fun i => ppw + 1 + i) 3)))))) := by rw [e_77]; exact mp_keepN hp_p z_78
  have h_80 : S75 a79 = some (11, .inr (5, [.null, .null])) := by rw [e_77]; exact mp_us _ _ _
  have hzE := oS_kept hzE (S1 := S75) (fun b t9 e9 hb9 h1 h2 => by rw [e_77]; exact mp_un (fun z9 => by rw [z9, z_78] at hb9; cases hb9))
  have hR5 := rS_kept hR5 (S1 := S75) (fun b t9 e9 hb9 h1 h2 => by rw [e_77]; exact mp_un (fun z9 => by rw [z9, z_78] at hb9; cases hb9))
  have hR6 := rS_kept hR6 (S1 := S75) (fun b t9 e9 hb9 h1 h2 => by rw [e_77]; exact mp_un (fun z9 => by rw [z9, z_78] at hb9; cases hb9))
  have hR7 := rS_kept hR7 (S1 := S75) (fun b t9 e9 hb9 h1 h2 => by rw [e_77]; exact mp_un (fun z9 => by rw [z9, z_78] at hb9; cases hb9))
  have nb_a79 : ∀ b, S b ≠ none → b ≠ o → b ≠ a79 := fun b h9 k0 z9 => h9 ((hfr b h9 k0).symm.trans (by rw [z9]; exact z_78))
  have hfr : ∀ b, S b ≠ none → b ≠ o → S75 b = S b := fun b h9 k0 => by rw [e_77]; exact (mp_un (nb_a79 b h9 k0)).trans (hfr b h9 k0)
  refine lv_dup hx hb d_V_init_80 rfl ?_
  refine lv_iload_n hx hb d_V_init_81 rfl (lv_at hl 1 rfl) ?_
  refine mp_callv hI (va_runI (As := [.int (nI n)]) (rest := [.ref a79, .ref o]) ⟨hx, hb, hml, hown, hg⟩ (c_D_init l D g S75 _ a79 n h_80 hn) ⟨(callB_of 1 hg (wd_goodG q_179) rfl rfl rfl (hg _ q_20) (hg _ q_177) (by decide +kernel) ⟨Nat.le_of_ble_eq_true rfl, Nat.le_of_ble_eq_true rfl⟩), rfl, hg _ q_178⟩ (mp_pre hI hK ([.ref a79, .int (nI n)])) rfl rfl hl.1 rfl (lv_room (Nat.le_of_ble_eq_true rfl)) d_V_init_82 ⟨Nat.le_of_ble_eq_true rfl, Nat.le_of_ble_eq_true rfl⟩) (fun S81 H82 locs p_83 hI => ?_)
  obtain ⟨dra, dka, kp, hd_o, hd_r, hd_k, hFL, fd⟩ := p_83
  have h_o : S81 o = some (10, .inr (7, [.int (nI n), .null, .null, .ref a5, .ref a18, .ref a23, .ref a36, .ref a41, .ref a54, .int 0, .ref a63])) := (fd o (mp_in h_o) (mp_ne h_o h_80 (by decide))).trans h_o
  have hz_o : S81 a5 = some (30, .inr (6, [.ref fs, .int 0, .ref on, .ref ot])) := (fd a5 (mp_in hz_o) (mp_ne hz_o h_80 (by decide))).trans hz_o
  have hz_fs : S81 fs = some (31, .inl ((g 3), 16, .inr (.inr (.inr (.inr (rfs eo 16)))))) := (fd fs (mp_in hz_fs) (mp_ne hz_fs h_80 (by decide))).trans hz_fs
  have hz_on : S81 on = some (560, .inr (1, [.ref oa1, .int (-1)])) := (fd on (mp_in hz_on) (mp_ne hz_on h_80 (by decide))).trans hz_on
  have hz_a1 : S81 oa1 = some (561, .inl ((g 0), 33, .inl (fun _ => 0))) := (fd oa1 (mp_in hz_a1) (mp_ne hz_a1 h_80 (by decide))).trans hz_a1
  have hz_ot : S81 ot = some (562, .inr (1, [.ref oa2, .int (-1)])) := (fd ot (mp_in hz_ot) (mp_ne hz_ot h_80 (by decide))).trans hz_ot
  have hz_a2 : S81 oa2 = some (563, .inl ((g 0), 33, .inl (fun _ => 0))) := (fd oa2 (mp_in hz_a2) (mp_ne hz_a2 h_80 (by decide))).trans hz_a2
  have h_19 : S81 a18 = some (32, .inl ((g 3), 3, .inr (.inr (.inr (.inr (fun _ => none)))))) := (fd a18 (mp_in h_19) (mp_ne h_19 h_80 (by decide))).trans h_19
  have h_27 : S81 a23 = some (33, .inl ((g 1), 3, .inr (.inr (.inr (.inr (rfs (fun i => a23 + 1 + i) 3)))))) := (fd a23 (mp_in h_27) (mp_ne h_27 h_80 (by decide))).trans h_27
  have h_37 : S81 a36 = some (34, .inl ((g 0), 3, .inl (fun _ => 0))) := (fd a36 (mp_in h_37) (mp_ne h_37 h_80 (by decide))).trans h_37
  have h_45 : S81 a41 = some (35, .inl ((g 1), 16, .inr (.inr (.inr (.inr (rfs (fun i => a41 + 1 + i) 16)))))) := (fd a41 (mp_in h_45) (mp_ne h_45 h_80 (by decide))).trans h_45
  have h_55 : S81 a54 = some (36, .inl ((g 0), 16, .inl (fun _ => 0))) := (fd a54 (mp_in h_55) (mp_ne h_55 h_80 (by decide))).trans h_55
  have hp_o : S81 a63 = some (37, .inr (2, [.ref pnu, .ref ppw])) := (fd a63 (mp_in hp_o) (mp_ne hp_o h_80 (by decide))).trans hp_o
  have hp_n : S81 pnu = some (38, .inl ((g 0), 3, .inl (fun _ => 0))) := (fd pnu (mp_in hp_n) (mp_ne hp_n h_80 (by decide))).trans hp_n
  have hp_p : S81 ppw = some (39, .inl ((g 1), 3, .inr (.inr (.inr (.inr (rfs (fun i => ppw + 1 + i) 3)))))) := (fd ppw (mp_in hp_p) (mp_ne hp_p h_80 (by decide))).trans hp_p
  have hfr : ∀ b, S b ≠ none → b ≠ o → S81 b = S b := fun b h9 k0 => (fd b (by rw [hfr b h9 k0]; exact h9) (nb_a79 b h9 k0)).trans (hfr b h9 k0)
  have hzE := oS_kept hzE (S1 := S81) (fun b t9 e9 hb9 h1 h2 => fd b (mp_in hb9) (mp_ne hb9 h_80 (by omega)))
  have hR5 := rS_kept hR5 (S1 := S81) (fun b t9 e9 hb9 h1 h2 => fd b (mp_in hb9) (mp_ne hb9 h_80 (by omega)))
  have hR6 := rS_kept hR6 (S1 := S81) (fun b t9 e9 hb9 h1 h2 => fd b (mp_in hb9) (mp_ne hb9 h_80 (by omega)))
  have hR7 := rS_kept hR7 (S1 := S81) (fun b t9 e9 hb9 h1 h2 => fd b (mp_in hb9) (mp_ne hb9 h_80 (by omega)))
  refine mp_putF (C := R_V) (T := F_V) (N := 11) (v := .ref a79) (ty := .object "SolutionBoxes$Reducer") hx hb hg i_V t_V t_V_ok n_V hown hK.va hI h_o rfl 1 (by decide) (hg _ q_260) (fun _ h9 => h9) rfl hin rfl (by decide +kernel) (rfl) rfl (Nat.le_of_ble_eq_true rfl) d_V_init_85 (fun S85 H86 locs e_87 hI => ?_)
  have e_87 : S85 = va_up S81 o (some (10, .inr (7, [.int (nI n), .ref a79, .null, .ref a5, .ref a18, .ref a23, .ref a36, .ref a41, .ref a54, .int 0, .ref a63]))) := e_87
  have h_o_o := h_o
  have hz_o : S85 a5 = some (30, .inr (6, [.ref fs, .int 0, .ref on, .ref ot])) := by rw [e_87]; exact mp_keep hz_o h_o (by decide)
  have hz_fs : S85 fs = some (31, .inl ((g 3), 16, .inr (.inr (.inr (.inr (rfs eo 16)))))) := by rw [e_87]; exact mp_keep hz_fs h_o (by decide)
  have hz_on : S85 on = some (560, .inr (1, [.ref oa1, .int (-1)])) := by rw [e_87]; exact mp_keep hz_on h_o (by decide)
  have hz_a1 : S85 oa1 = some (561, .inl ((g 0), 33, .inl (fun _ => 0))) := by rw [e_87]; exact mp_keep hz_a1 h_o (by decide)
  have hz_ot : S85 ot = some (562, .inr (1, [.ref oa2, .int (-1)])) := by rw [e_87]; exact mp_keep hz_ot h_o (by decide)
  have hz_a2 : S85 oa2 = some (563, .inl ((g 0), 33, .inl (fun _ => 0))) := by rw [e_87]; exact mp_keep hz_a2 h_o (by decide)
  have h_19 : S85 a18 = some (32, .inl ((g 3), 3, .inr (.inr (.inr (.inr (fun _ => none)))))) := by rw [e_87]; exact mp_keep h_19 h_o (by decide)
  have h_27 : S85 a23 = some (33, .inl ((g 1), 3, .inr (.inr (.inr (.inr (rfs (fun i => a23 + 1 + i) 3)))))) := by rw [e_87]; exact mp_keep h_27 h_o (by decide)
  have h_37 : S85 a36 = some (34, .inl ((g 0), 3, .inl (fun _ => 0))) := by rw [e_87]; exact mp_keep h_37 h_o (by decide)
  have h_45 : S85 a41 = some (35, .inl ((g 1), 16, .inr (.inr (.inr (.inr (rfs (fun i => a41 + 1 + i) 16)))))) := by rw [e_87]; exact mp_keep h_45 h_o (by decide)
  have h_55 : S85 a54 = some (36, .inl ((g 0), 16, .inl (fun _ => 0))) := by rw [e_87]; exact mp_keep h_55 h_o (by decide)
  have hp_o : S85 a63 = some (37, .inr (2, [.ref pnu, .ref ppw])) := by rw [e_87]; exact mp_keep hp_o h_o (by decide)
  have hp_n : S85 pnu = some (38, .inl ((g 0), 3, .inl (fun _ => 0))) := by rw [e_87]; exact mp_keep hp_n h_o (by decide)
  have hp_p : S85 ppw = some (39, .inl ((g 1), 3, .inr (.inr (.inr (.inr (rfs (fun i => ppw + 1 + i) 3)))))) := by rw [e_87]; exact mp_keep hp_p h_o (by decide)
  have hd_o : S85 a79 = some (11, .inr (5, [.ref dra, .ref dka])) := by rw [e_87]; exact mp_keep hd_o h_o (by decide)
  have hd_r : S85 dra = some (12, .inl ((g 0), (tr3 (9 * n + 1)), .inl (fun _ => 0))) := by rw [e_87]; exact mp_keep hd_r h_o (by decide)
  have hd_k : S85 dka = some (13, .inl ((g 0), (tr3 (9 * n + 1)), .inl kp)) := by rw [e_87]; exact mp_keep hd_k h_o (by decide)
  have h_o : S85 o = some (10, .inr (7, [.int (nI n), .ref a79, .null, .ref a5, .ref a18, .ref a23, .ref a36, .ref a41, .ref a54, .int 0, .ref a63])) := by rw [e_87]; exact mp_us _ _ _
  have hzE := oS_kept hzE (S1 := S85) (fun b t9 e9 hb9 h1 h2 => by rw [e_87]; exact mp_un (mp_ne hb9 h_o_o (by omega)))
  have hR5 := rS_kept hR5 (S1 := S85) (fun b t9 e9 hb9 h1 h2 => by rw [e_87]; exact mp_un (mp_ne hb9 h_o_o (by omega)))
  have hR6 := rS_kept hR6 (S1 := S85) (fun b t9 e9 hb9 h1 h2 => by rw [e_87]; exact mp_un (mp_ne hb9 h_o_o (by omega)))
  have hR7 := rS_kept hR7 (S1 := S85) (fun b t9 e9 hb9 h1 h2 => by rw [e_87]; exact mp_un (mp_ne hb9 h_o_o (by omega)))
  have hfr : ∀ b, S b ≠ none → b ≠ o → S85 b = S b := fun b h9 k0 => by rw [e_87]; exact (mp_un k0).trans (hfr b h9 k0)
  refine lv_aload_n hx hb d_V_init_88 rfl (lv_at hl 0 rfl) ?_
  have hI0 := hI
  refine mp_new (C := R_Q) (T := F_Q) (N := 12) (ci := 4) (fs := [.int 0, .null, .int 0, .null, .null, .null, .null, .null, .null, .null, .null, .null]) hx hb hg i_Q t_Q t_Q_ok hown (hg _ q_192) (hg _ q_193) (hg _ q_21) hK.va hI 14 rfl (fun j hj => by rcases (show j = 0 ∨ j = 1 ∨ j = 2 ∨ j = 3 ∨ j = 4 ∨ j = 5 ∨ j = 6 ∨ j = 7 ∨ j = 8 ∨ j = 9 ∨ j = 10 ∨ j = 11 by omega) with rfl | rfl | rfl | rfl | rfl | rfl | rfl | rfl | rfl | rfl | rfl | rfl <;> rfl) (Nat.le_of_ble_eq_true rfl) (Nat.le_of_ble_eq_true rfl) d_V_init_89 (fun S88 H89 z_91 e_90 hI => ?_)
  obtain ⟨a92, ea92⟩ : ∃ z, z = H86.size := ⟨_, rfl⟩
  have g_a92 : s.heap.size ≤ a92 := by rw [ea92]; exact hI0.2.2.1.1
  rw [← ea92] at z_91 e_90
  refine W.eq (g2 := F0 m 92 ls [.ref a92, .ref o]) (by rw [ea92]) ?_
  have h_o : S88 o = some (10, .inr (7, [.int (nI n), .ref a79, .null, .ref a5, .ref a18, .ref a23, .ref a36, .ref a41, .ref a54, .int 0, .ref a63])) := by rw [e_90]; exact mp_keepN h_o z_91
  have hz_o : S88 a5 = some (30, .inr (6, [.ref fs, .int 0, .ref on, .ref ot])) := by rw [e_90]; exact mp_keepN hz_o z_91
  have hz_fs : S88 fs = some (31, .inl ((g 3), 16, .inr (.inr (.inr (.inr (rfs eo 16)))))) := by rw [e_90]; exact mp_keepN hz_fs z_91
  have hz_on : S88 on = some (560, .inr (1, [.ref oa1, .int (-1)])) := by rw [e_90]; exact mp_keepN hz_on z_91
  have hz_a1 : S88 oa1 = some (561, .inl ((g 0), 33, .inl (fun _ => 0))) := by rw [e_90]; exact mp_keepN hz_a1 z_91
  have hz_ot : S88 ot = some (562, .inr (1, [.ref oa2, .int (-1)])) := by rw [e_90]; exact mp_keepN hz_ot z_91
  have hz_a2 : S88 oa2 = some (563, .inl ((g 0), 33, .inl (fun _ => 0))) := by rw [e_90]; exact mp_keepN hz_a2 z_91
  have h_19 : S88 a18 = some (32, .inl ((g 3), 3, .inr (.inr (.inr (.inr (fun _ => none)))))) := by rw [e_90]; exact mp_keepN h_19 z_91
  have h_27 : S88 a23 = some (33, .inl ((g 1), 3, .inr (.inr (.inr (.inr (rfs (fun i => a23 + 1 + i) 3)))))) := by rw [e_90]; exact mp_keepN h_27 z_91
  have h_37 : S88 a36 = some (34, .inl ((g 0), 3, .inl (fun _ => 0))) := by rw [e_90]; exact mp_keepN h_37 z_91
  have h_45 : S88 a41 = some (35, .inl ((g 1), 16, .inr (.inr (.inr (.inr (rfs (fun i => a41 + 1 + i) 16)))))) := by rw [e_90]; exact mp_keepN h_45 z_91
  have h_55 : S88 a54 = some (36, .inl ((g 0), 16, .inl (fun _ => 0))) := by rw [e_90]; exact mp_keepN h_55 z_91
  have hp_o : S88 a63 = some (37, .inr (2, [.ref pnu, .ref ppw])) := by rw [e_90]; exact mp_keepN hp_o z_91
  have hp_n : S88 pnu = some (38, .inl ((g 0), 3, .inl (fun _ => 0))) := by rw [e_90]; exact mp_keepN hp_n z_91
  have hp_p : S88 ppw = some (39, .inl ((g 1), 3, .inr (.inr (.inr (.inr (rfs (fun i => ppw + 1 + i) 3)))))) := by rw [e_90]; exact mp_keepN hp_p z_91
  have hd_o : S88 a79 = some (11, .inr (5, [.ref dra, .ref dka])) := by rw [e_90]; exact mp_keepN hd_o z_91
  have hd_r : S88 dra = some (12, .inl ((g 0), (tr3 (9 * n + 1)), .inl (fun _ => 0))) := by rw [e_90]; exact mp_keepN hd_r z_91
  have hd_k : S88 dka = some (13, .inl ((g 0), (tr3 (9 * n + 1)), .inl kp)) := by rw [e_90]; exact mp_keepN hd_k z_91
  have h_93 : S88 a92 = some (14, .inr (4, [.int 0, .null, .int 0, .null, .null, .null, .null, .null, .null, .null, .null, .null])) := by rw [e_90]; exact mp_us _ _ _
  have hzE := oS_kept hzE (S1 := S88) (fun b t9 e9 hb9 h1 h2 => by rw [e_90]; exact mp_un (fun z9 => by rw [z9, z_91] at hb9; cases hb9))
  have hR5 := rS_kept hR5 (S1 := S88) (fun b t9 e9 hb9 h1 h2 => by rw [e_90]; exact mp_un (fun z9 => by rw [z9, z_91] at hb9; cases hb9))
  have hR6 := rS_kept hR6 (S1 := S88) (fun b t9 e9 hb9 h1 h2 => by rw [e_90]; exact mp_un (fun z9 => by rw [z9, z_91] at hb9; cases hb9))
  have hR7 := rS_kept hR7 (S1 := S88) (fun b t9 e9 hb9 h1 h2 => by rw [e_90]; exact mp_un (fun z9 => by rw [z9, z_91] at hb9; cases hb9))
  have nb_a92 : ∀ b, S b ≠ none → b ≠ o → b ≠ a92 := fun b h9 k0 z9 => h9 ((hfr b h9 k0).symm.trans (by rw [z9]; exact z_91))
  have hfr : ∀ b, S b ≠ none → b ≠ o → S88 b = S b := fun b h9 k0 => by rw [e_90]; exact (mp_un (nb_a92 b h9 k0)).trans (hfr b h9 k0)
  refine lv_dup hx hb d_V_init_92 rfl ?_
  refine lv_iload_n hx hb d_V_init_93 rfl (lv_at hl 1 rfl) ?_
  refine mp_callv hI (va_runI (As := [.int (nI n)]) (rest := [.ref a92, .ref o]) ⟨hx, hb, hml, hown, hg⟩ (c_Q_init l D g S88 _ a92 (nI n) h_93) ⟨(callB_of 1 hg (wd_goodG q_196) rfl rfl rfl (hg _ q_21) (hg _ q_194) (by decide +kernel) ⟨Nat.le_of_ble_eq_true rfl, Nat.le_of_ble_eq_true rfl⟩), rfl, hg _ q_195⟩ (mp_pre hI hK ([.ref a92, .int (nI n)])) rfl rfl hl.1 rfl (lv_room (Nat.le_of_ble_eq_true rfl)) d_V_init_94 ⟨Nat.le_of_ble_eq_true rfl, Nat.le_of_ble_eq_true rfl⟩) (fun S94 H95 locs p_96 hI => ?_)
  obtain ⟨ky, pr, lw, ll, mu, qfa, nx, re, rl, rq, rp, il, iq, ip, hq_o, hq_ky, hq_pr, hq_lw, hq_ll, hq_mu, hq_qfa, hq_nx, hq_re, hq_rl, hq_rq, hq_rp, hq_il, hq_iq, hq_ip, hR1, hR2, hR3, hR4, fq⟩ := p_96
  have h_o : S94 o = some (10, .inr (7, [.int (nI n), .ref a79, .null, .ref a5, .ref a18, .ref a23, .ref a36, .ref a41, .ref a54, .int 0, .ref a63])) := (fq o (mp_in h_o) (mp_ne h_o h_93 (by decide))).trans h_o
  have hz_o : S94 a5 = some (30, .inr (6, [.ref fs, .int 0, .ref on, .ref ot])) := (fq a5 (mp_in hz_o) (mp_ne hz_o h_93 (by decide))).trans hz_o
  have hz_fs : S94 fs = some (31, .inl ((g 3), 16, .inr (.inr (.inr (.inr (rfs eo 16)))))) := (fq fs (mp_in hz_fs) (mp_ne hz_fs h_93 (by decide))).trans hz_fs
  have hz_on : S94 on = some (560, .inr (1, [.ref oa1, .int (-1)])) := (fq on (mp_in hz_on) (mp_ne hz_on h_93 (by decide))).trans hz_on
  have hz_a1 : S94 oa1 = some (561, .inl ((g 0), 33, .inl (fun _ => 0))) := (fq oa1 (mp_in hz_a1) (mp_ne hz_a1 h_93 (by decide))).trans hz_a1
  have hz_ot : S94 ot = some (562, .inr (1, [.ref oa2, .int (-1)])) := (fq ot (mp_in hz_ot) (mp_ne hz_ot h_93 (by decide))).trans hz_ot
  have hz_a2 : S94 oa2 = some (563, .inl ((g 0), 33, .inl (fun _ => 0))) := (fq oa2 (mp_in hz_a2) (mp_ne hz_a2 h_93 (by decide))).trans hz_a2
  have h_19 : S94 a18 = some (32, .inl ((g 3), 3, .inr (.inr (.inr (.inr (fun _ => none)))))) := (fq a18 (mp_in h_19) (mp_ne h_19 h_93 (by decide))).trans h_19
  have h_27 : S94 a23 = some (33, .inl ((g 1), 3, .inr (.inr (.inr (.inr (rfs (fun i => a23 + 1 + i) 3)))))) := (fq a23 (mp_in h_27) (mp_ne h_27 h_93 (by decide))).trans h_27
  have h_37 : S94 a36 = some (34, .inl ((g 0), 3, .inl (fun _ => 0))) := (fq a36 (mp_in h_37) (mp_ne h_37 h_93 (by decide))).trans h_37
  have h_45 : S94 a41 = some (35, .inl ((g 1), 16, .inr (.inr (.inr (.inr (rfs (fun i => a41 + 1 + i) 16)))))) := (fq a41 (mp_in h_45) (mp_ne h_45 h_93 (by decide))).trans h_45
  have h_55 : S94 a54 = some (36, .inl ((g 0), 16, .inl (fun _ => 0))) := (fq a54 (mp_in h_55) (mp_ne h_55 h_93 (by decide))).trans h_55
  have hp_o : S94 a63 = some (37, .inr (2, [.ref pnu, .ref ppw])) := (fq a63 (mp_in hp_o) (mp_ne hp_o h_93 (by decide))).trans hp_o
  have hp_n : S94 pnu = some (38, .inl ((g 0), 3, .inl (fun _ => 0))) := (fq pnu (mp_in hp_n) (mp_ne hp_n h_93 (by decide))).trans hp_n
  have hp_p : S94 ppw = some (39, .inl ((g 1), 3, .inr (.inr (.inr (.inr (rfs (fun i => ppw + 1 + i) 3)))))) := (fq ppw (mp_in hp_p) (mp_ne hp_p h_93 (by decide))).trans hp_p
  have hd_o : S94 a79 = some (11, .inr (5, [.ref dra, .ref dka])) := (fq a79 (mp_in hd_o) (mp_ne hd_o h_93 (by decide))).trans hd_o
  have hd_r : S94 dra = some (12, .inl ((g 0), (tr3 (9 * n + 1)), .inl (fun _ => 0))) := (fq dra (mp_in hd_r) (mp_ne hd_r h_93 (by decide))).trans hd_r
  have hd_k : S94 dka = some (13, .inl ((g 0), (tr3 (9 * n + 1)), .inl kp)) := (fq dka (mp_in hd_k) (mp_ne hd_k h_93 (by decide))).trans hd_k
  have hfr : ∀ b, S b ≠ none → b ≠ o → S94 b = S b := fun b h9 k0 => (fq b (by rw [hfr b h9 k0]; exact h9) (nb_a92 b h9 k0)).trans (hfr b h9 k0)
  have hzE := oS_kept hzE (S1 := S94) (fun b t9 e9 hb9 h1 h2 => fq b (mp_in hb9) (mp_ne hb9 h_93 (by omega)))
  have hR5 := rS_kept hR5 (S1 := S94) (fun b t9 e9 hb9 h1 h2 => fq b (mp_in hb9) (mp_ne hb9 h_93 (by omega)))
  have hR6 := rS_kept hR6 (S1 := S94) (fun b t9 e9 hb9 h1 h2 => fq b (mp_in hb9) (mp_ne hb9 h_93 (by omega)))
  have hR7 := rS_kept hR7 (S1 := S94) (fun b t9 e9 hb9 h1 h2 => fq b (mp_in hb9) (mp_ne hb9 h_93 (by omega)))
  refine mp_putF (C := R_V) (T := F_V) (N := 11) (v := .ref a92) (ty := .object "SolutionBoxes$Quotient") hx hb hg i_V t_V t_V_ok n_V hown hK.va hI h_o rfl 2 (by decide) (hg _ q_261) (fun _ h9 => h9) rfl hin rfl (by decide +kernel) (rfl) rfl (Nat.le_of_ble_eq_true rfl) d_V_init_97 (fun S98 H99 locs e_100 hI => ?_)
  have e_100 : S98 = va_up S94 o (some (10, .inr (7, [.int (nI n), .ref a79, .ref a92, .ref a5, .ref a18, .ref a23, .ref a36, .ref a41, .ref a54, .int 0, .ref a63]))) := e_100
  have h_o_o := h_o
  have hz_o : S98 a5 = some (30, .inr (6, [.ref fs, .int 0, .ref on, .ref ot])) := by rw [e_100]; exact mp_keep hz_o h_o (by decide)
  have hz_fs : S98 fs = some (31, .inl ((g 3), 16, .inr (.inr (.inr (.inr (rfs eo 16)))))) := by rw [e_100]; exact mp_keep hz_fs h_o (by decide)
  have hz_on : S98 on = some (560, .inr (1, [.ref oa1, .int (-1)])) := by rw [e_100]; exact mp_keep hz_on h_o (by decide)
  have hz_a1 : S98 oa1 = some (561, .inl ((g 0), 33, .inl (fun _ => 0))) := by rw [e_100]; exact mp_keep hz_a1 h_o (by decide)
  have hz_ot : S98 ot = some (562, .inr (1, [.ref oa2, .int (-1)])) := by rw [e_100]; exact mp_keep hz_ot h_o (by decide)
  have hz_a2 : S98 oa2 = some (563, .inl ((g 0), 33, .inl (fun _ => 0))) := by rw [e_100]; exact mp_keep hz_a2 h_o (by decide)
  have h_19 : S98 a18 = some (32, .inl ((g 3), 3, .inr (.inr (.inr (.inr (fun _ => none)))))) := by rw [e_100]; exact mp_keep h_19 h_o (by decide)
  have h_27 : S98 a23 = some (33, .inl ((g 1), 3, .inr (.inr (.inr (.inr (rfs (fun i => a23 + 1 + i) 3)))))) := by rw [e_100]; exact mp_keep h_27 h_o (by decide)
  have h_37 : S98 a36 = some (34, .inl ((g 0), 3, .inl (fun _ => 0))) := by rw [e_100]; exact mp_keep h_37 h_o (by decide)
  have h_45 : S98 a41 = some (35, .inl ((g 1), 16, .inr (.inr (.inr (.inr (rfs (fun i => a41 + 1 + i) 16)))))) := by rw [e_100]; exact mp_keep h_45 h_o (by decide)
  have h_55 : S98 a54 = some (36, .inl ((g 0), 16, .inl (fun _ => 0))) := by rw [e_100]; exact mp_keep h_55 h_o (by decide)
  have hp_o : S98 a63 = some (37, .inr (2, [.ref pnu, .ref ppw])) := by rw [e_100]; exact mp_keep hp_o h_o (by decide)
  have hp_n : S98 pnu = some (38, .inl ((g 0), 3, .inl (fun _ => 0))) := by rw [e_100]; exact mp_keep hp_n h_o (by decide)
  have hp_p : S98 ppw = some (39, .inl ((g 1), 3, .inr (.inr (.inr (.inr (rfs (fun i => ppw + 1 + i) 3)))))) := by rw [e_100]; exact mp_keep hp_p h_o (by decide)
  have hd_o : S98 a79 = some (11, .inr (5, [.ref dra, .ref dka])) := by rw [e_100]; exact mp_keep hd_o h_o (by decide)
  have hd_r : S98 dra = some (12, .inl ((g 0), (tr3 (9 * n + 1)), .inl (fun _ => 0))) := by rw [e_100]; exact mp_keep hd_r h_o (by decide)
  have hd_k : S98 dka = some (13, .inl ((g 0), (tr3 (9 * n + 1)), .inl kp)) := by rw [e_100]; exact mp_keep hd_k h_o (by decide)
  have hq_o : S98 a92 = some (14, .inr (4, [.int (nI n), .ref ky, .int 0, .ref pr, .ref lw, .ref ll, .ref mu, .ref qfa, .ref nx, .ref re, .ref rl, .ref il])) := by rw [e_100]; exact mp_keep hq_o h_o (by decide)
  have hq_ky : S98 ky = some (15, .inl ((g 0), 16, .inl (fun _ => 0))) := by rw [e_100]; exact mp_keep hq_ky h_o (by decide)
  have hq_pr : S98 pr = some (16, .inl ((g 1), 48, .inr (.inr (.inr (.inr (rfs (fun i => pr + 1 + i) 48)))))) := by rw [e_100]; exact mp_keep hq_pr h_o (by decide)
  have hq_lw : S98 lw = some (17, .inl ((g 0), 16, .inl (fun _ => 0))) := by rw [e_100]; exact mp_keep hq_lw h_o (by decide)
  have hq_ll : S98 ll = some (18, .inl ((g 0), 16, .inl (fun _ => 0))) := by rw [e_100]; exact mp_keep hq_ll h_o (by decide)
  have hq_mu : S98 mu = some (19, .inl ((g 1), 16, .inr (.inr (.inr (.inr (rfs (fun i => mu + 1 + i) 16)))))) := by rw [e_100]; exact mp_keep hq_mu h_o (by decide)
  have hq_qfa : S98 qfa = some (20, .inl ((g 0), 16, .inl (fun _ => 0))) := by rw [e_100]; exact mp_keep hq_qfa h_o (by decide)
  have hq_nx : S98 nx = some (21, .inl ((g 0), 16, .inl (fun _ => 0))) := by rw [e_100]; exact mp_keep hq_nx h_o (by decide)
  have hq_re : S98 re = some (22, .inl ((g 0), 33, .inl (fun _ => 0))) := by rw [e_100]; exact mp_keep hq_re h_o (by decide)
  have hq_rl : S98 rl = some (23, .inr (8, [.ref rq, .ref rp, .int 0])) := by rw [e_100]; exact mp_keep hq_rl h_o (by decide)
  have hq_rq : S98 rq = some (24, .inl ((g 1), 16, .inr (.inr (.inr (.inr (rfs (fun i => rq + 1 + i) 16)))))) := by rw [e_100]; exact mp_keep hq_rq h_o (by decide)
  have hq_rp : S98 rp = some (25, .inl ((g 0), 16, .inl (fun _ => 0))) := by rw [e_100]; exact mp_keep hq_rp h_o (by decide)
  have hq_il : S98 il = some (26, .inr (8, [.ref iq, .ref ip, .int 0])) := by rw [e_100]; exact mp_keep hq_il h_o (by decide)
  have hq_iq : S98 iq = some (27, .inl ((g 1), 16, .inr (.inr (.inr (.inr (rfs (fun i => iq + 1 + i) 16)))))) := by rw [e_100]; exact mp_keep hq_iq h_o (by decide)
  have hq_ip : S98 ip = some (28, .inl ((g 0), 16, .inl (fun _ => 0))) := by rw [e_100]; exact mp_keep hq_ip h_o (by decide)
  have h_o : S98 o = some (10, .inr (7, [.int (nI n), .ref a79, .ref a92, .ref a5, .ref a18, .ref a23, .ref a36, .ref a41, .ref a54, .int 0, .ref a63])) := by rw [e_100]; exact mp_us _ _ _
  have hzE := oS_kept hzE (S1 := S98) (fun b t9 e9 hb9 h1 h2 => by rw [e_100]; exact mp_un (mp_ne hb9 h_o_o (by omega)))
  have hR5 := rS_kept hR5 (S1 := S98) (fun b t9 e9 hb9 h1 h2 => by rw [e_100]; exact mp_un (mp_ne hb9 h_o_o (by omega)))
  have hR6 := rS_kept hR6 (S1 := S98) (fun b t9 e9 hb9 h1 h2 => by rw [e_100]; exact mp_un (mp_ne hb9 h_o_o (by omega)))
  have hR7 := rS_kept hR7 (S1 := S98) (fun b t9 e9 hb9 h1 h2 => by rw [e_100]; exact mp_un (mp_ne hb9 h_o_o (by omega)))
  have hR1 := rS_kept hR1 (S1 := S98) (fun b t9 e9 hb9 h1 h2 => by rw [e_100]; exact mp_un (mp_ne hb9 h_o_o (by omega)))
  have hR2 := rS_kept hR2 (S1 := S98) (fun b t9 e9 hb9 h1 h2 => by rw [e_100]; exact mp_un (mp_ne hb9 h_o_o (by omega)))
  have hR3 := rS_kept hR3 (S1 := S98) (fun b t9 e9 hb9 h1 h2 => by rw [e_100]; exact mp_un (mp_ne hb9 h_o_o (by omega)))
  have hR4 := rS_kept hR4 (S1 := S98) (fun b t9 e9 hb9 h1 h2 => by rw [e_100]; exact mp_un (mp_ne hb9 h_o_o (by omega)))
  have hfr : ∀ b, S b ≠ none → b ≠ o → S98 b = S b := fun b h9 k0 => by rw [e_100]; exact (mp_un k0).trans (hfr b h9 k0)
  refine lv_iconst (v := nI 0) hx hb d_V_init_100 (by decide) ?_
  refine lv_istore_n (lv' := [(2, .int (nI 0)), (0, .ref o), (1, .int (nI n))]) hx hb d_V_init_101 rfl hl (by decide) rfl (fun ls hl => ?_)
  refine lv_iload_n hx hb d_V_init_102 rfl (lv_at hl 0 rfl) ?_
  refine lv_iconst (v := nI 3) hx hb d_V_init_103 (by decide) ?_
  refine lv_icmp_ge (tgt := 133) hx hb d_V_init_104 (by decide) (fun h9 => absurd h9 (by decide)) (fun _ => ?_)
  refine lv_aload_n hx hb d_V_init_107 rfl (lv_at hl 1 rfl) ?_
  refine mp_get (C := R_V) (T := F_V) (N := 11) (v := .ref a18) hx hb hg i_V hown hK.va hI h_o rfl 4 (by decide) (hg _ q_264) (fun _ h9 => h9) rfl d_V_init_108 ?_
  refine lv_iload_n hx hb d_V_init_111 rfl (lv_at hl 0 rfl) ?_
  have hI0 := hI
  refine mp_new (C := R_O) (T := F_O) (N := 2) (ci := 1) (fs := [.null, .int 0]) hx hb hg i_O t_O t_O_ok hown (hg _ q_158) (hg _ q_131) (hg _ q_18) hK.va hI 570 rfl (fun j hj => by rcases (show j = 0 ∨ j = 1 by omega) with rfl | rfl <;> rfl) (Nat.le_of_ble_eq_true rfl) (Nat.le_of_ble_eq_true rfl) d_V_init_112 (fun S101 H102 z_104 e_103 hI => ?_)
  obtain ⟨a105, ea105⟩ : ∃ z, z = H99.size := ⟨_, rfl⟩
  have g_a105 : s.heap.size ≤ a105 := by rw [ea105]; exact hI0.2.2.1.1
  rw [← ea105] at z_104 e_103
  refine W.eq (g2 := F0 m 115 ls [.ref a105, .int (nI 0), .ref a18]) (by rw [ea105]) ?_
  have h_o : S101 o = some (10, .inr (7, [.int (nI n), .ref a79, .ref a92, .ref a5, .ref a18, .ref a23, .ref a36, .ref a41, .ref a54, .int 0, .ref a63])) := by rw [e_103]; exact mp_keepN h_o z_104
  have hz_o : S101 a5 = some (30, .inr (6, [.ref fs, .int 0, .ref on, .ref ot])) := by rw [e_103]; exact mp_keepN hz_o z_104
  have hz_fs : S101 fs = some (31, .inl ((g 3), 16, .inr (.inr (.inr (.inr (rfs eo 16)))))) := by rw [e_103]; exact mp_keepN hz_fs z_104
  have hz_on : S101 on = some (560, .inr (1, [.ref oa1, .int (-1)])) := by rw [e_103]; exact mp_keepN hz_on z_104
  have hz_a1 : S101 oa1 = some (561, .inl ((g 0), 33, .inl (fun _ => 0))) := by rw [e_103]; exact mp_keepN hz_a1 z_104
  have hz_ot : S101 ot = some (562, .inr (1, [.ref oa2, .int (-1)])) := by rw [e_103]; exact mp_keepN hz_ot z_104
  have hz_a2 : S101 oa2 = some (563, .inl ((g 0), 33, .inl (fun _ => 0))) := by rw [e_103]; exact mp_keepN hz_a2 z_104
  have h_19 : S101 a18 = some (32, .inl ((g 3), 3, .inr (.inr (.inr (.inr (fun _ => none)))))) := by rw [e_103]; exact mp_keepN h_19 z_104
  have h_27 : S101 a23 = some (33, .inl ((g 1), 3, .inr (.inr (.inr (.inr (rfs (fun i => a23 + 1 + i) 3)))))) := by rw [e_103]; exact mp_keepN h_27 z_104
  have h_37 : S101 a36 = some (34, .inl ((g 0), 3, .inl (fun _ => 0))) := by rw [e_103]; exact mp_keepN h_37 z_104
  have h_45 : S101 a41 = some (35, .inl ((g 1), 16, .inr (.inr (.inr (.inr (rfs (fun i => a41 + 1 + i) 16)))))) := by rw [e_103]; exact mp_keepN h_45 z_104
  have h_55 : S101 a54 = some (36, .inl ((g 0), 16, .inl (fun _ => 0))) := by rw [e_103]; exact mp_keepN h_55 z_104
  have hp_o : S101 a63 = some (37, .inr (2, [.ref pnu, .ref ppw])) := by rw [e_103]; exact mp_keepN hp_o z_104
  have hp_n : S101 pnu = some (38, .inl ((g 0), 3, .inl (fun _ => 0))) := by rw [e_103]; exact mp_keepN hp_n z_104
  have hp_p : S101 ppw = some (39, .inl ((g 1), 3, .inr (.inr (.inr (.inr (rfs (fun i => ppw + 1 + i) 3)))))) := by rw [e_103]; exact mp_keepN hp_p z_104
  have hd_o : S101 a79 = some (11, .inr (5, [.ref dra, .ref dka])) := by rw [e_103]; exact mp_keepN hd_o z_104
  have hd_r : S101 dra = some (12, .inl ((g 0), (tr3 (9 * n + 1)), .inl (fun _ => 0))) := by rw [e_103]; exact mp_keepN hd_r z_104
  have hd_k : S101 dka = some (13, .inl ((g 0), (tr3 (9 * n + 1)), .inl kp)) := by rw [e_103]; exact mp_keepN hd_k z_104
  have hq_o : S101 a92 = some (14, .inr (4, [.int (nI n), .ref ky, .int 0, .ref pr, .ref lw, .ref ll, .ref mu, .ref qfa, .ref nx, .ref re, .ref rl, .ref il])) := by rw [e_103]; exact mp_keepN hq_o z_104
  have hq_ky : S101 ky = some (15, .inl ((g 0), 16, .inl (fun _ => 0))) := by rw [e_103]; exact mp_keepN hq_ky z_104
  have hq_pr : S101 pr = some (16, .inl ((g 1), 48, .inr (.inr (.inr (.inr (rfs (fun i => pr + 1 + i) 48)))))) := by rw [e_103]; exact mp_keepN hq_pr z_104
  have hq_lw : S101 lw = some (17, .inl ((g 0), 16, .inl (fun _ => 0))) := by rw [e_103]; exact mp_keepN hq_lw z_104
  have hq_ll : S101 ll = some (18, .inl ((g 0), 16, .inl (fun _ => 0))) := by rw [e_103]; exact mp_keepN hq_ll z_104
  have hq_mu : S101 mu = some (19, .inl ((g 1), 16, .inr (.inr (.inr (.inr (rfs (fun i => mu + 1 + i) 16)))))) := by rw [e_103]; exact mp_keepN hq_mu z_104
  have hq_qfa : S101 qfa = some (20, .inl ((g 0), 16, .inl (fun _ => 0))) := by rw [e_103]; exact mp_keepN hq_qfa z_104
  have hq_nx : S101 nx = some (21, .inl ((g 0), 16, .inl (fun _ => 0))) := by rw [e_103]; exact mp_keepN hq_nx z_104
  have hq_re : S101 re = some (22, .inl ((g 0), 33, .inl (fun _ => 0))) := by rw [e_103]; exact mp_keepN hq_re z_104
  have hq_rl : S101 rl = some (23, .inr (8, [.ref rq, .ref rp, .int 0])) := by rw [e_103]; exact mp_keepN hq_rl z_104
  have hq_rq : S101 rq = some (24, .inl ((g 1), 16, .inr (.inr (.inr (.inr (rfs (fun i => rq + 1 + i) 16)))))) := by rw [e_103]; exact mp_keepN hq_rq z_104
  have hq_rp : S101 rp = some (25, .inl ((g 0), 16, .inl (fun _ => 0))) := by rw [e_103]; exact mp_keepN hq_rp z_104
  have hq_il : S101 il = some (26, .inr (8, [.ref iq, .ref ip, .int 0])) := by rw [e_103]; exact mp_keepN hq_il z_104
  have hq_iq : S101 iq = some (27, .inl ((g 1), 16, .inr (.inr (.inr (.inr (rfs (fun i => iq + 1 + i) 16)))))) := by rw [e_103]; exact mp_keepN hq_iq z_104
  have hq_ip : S101 ip = some (28, .inl ((g 0), 16, .inl (fun _ => 0))) := by rw [e_103]; exact mp_keepN hq_ip z_104
  have h_106 : S101 a105 = some (570, .inr (1, [.null, .int 0])) := by rw [e_103]; exact mp_us _ _ _
  have hzE := oS_kept hzE (S1 := S101) (fun b t9 e9 hb9 h1 h2 => by rw [e_103]; exact mp_un (fun z9 => by rw [z9, z_104] at hb9; cases hb9))
  have hR5 := rS_kept hR5 (S1 := S101) (fun b t9 e9 hb9 h1 h2 => by rw [e_103]; exact mp_un (fun z9 => by rw [z9, z_104] at hb9; cases hb9))
  have hR6 := rS_kept hR6 (S1 := S101) (fun b t9 e9 hb9 h1 h2 => by rw [e_103]; exact mp_un (fun z9 => by rw [z9, z_104] at hb9; cases hb9))
  have hR7 := rS_kept hR7 (S1 := S101) (fun b t9 e9 hb9 h1 h2 => by rw [e_103]; exact mp_un (fun z9 => by rw [z9, z_104] at hb9; cases hb9))
  have hR1 := rS_kept hR1 (S1 := S101) (fun b t9 e9 hb9 h1 h2 => by rw [e_103]; exact mp_un (fun z9 => by rw [z9, z_104] at hb9; cases hb9))
  have hR2 := rS_kept hR2 (S1 := S101) (fun b t9 e9 hb9 h1 h2 => by rw [e_103]; exact mp_un (fun z9 => by rw [z9, z_104] at hb9; cases hb9))
  have hR3 := rS_kept hR3 (S1 := S101) (fun b t9 e9 hb9 h1 h2 => by rw [e_103]; exact mp_un (fun z9 => by rw [z9, z_104] at hb9; cases hb9))
  have hR4 := rS_kept hR4 (S1 := S101) (fun b t9 e9 hb9 h1 h2 => by rw [e_103]; exact mp_un (fun z9 => by rw [z9, z_104] at hb9; cases hb9))
  have nb_a105 : ∀ b, S b ≠ none → b ≠ o → b ≠ a105 := fun b h9 k0 z9 => h9 ((hfr b h9 k0).symm.trans (by rw [z9]; exact z_104))
  have hfr : ∀ b, S b ≠ none → b ≠ o → S101 b = S b := fun b h9 k0 => by rw [e_103]; exact (mp_un (nb_a105 b h9 k0)).trans (hfr b h9 k0)
  refine lv_dup hx hb d_V_init_115 rfl ?_
  refine mp_callv hI (va_runIN (As := []) (rest := [.ref a105, .int (nI 0), .ref a18]) ⟨hx, hb, hml, hown, hg⟩ (c_O_init l D g S101 _ a105 570 571 h_106 (by decide)) ⟨(va_cnB 0 hg (wd_goodG q_134) rfl rfl rfl (hK.nw q_258 rfl) (hg _ q_18) (by decide +kernel) ⟨Nat.le_of_ble_eq_true rfl, Nat.le_of_ble_eq_true rfl⟩), rfl, hg _ q_133⟩ (mp_pre hI hK ([.ref a105])) rfl rfl hl.1 rfl (lv_room (Nat.le_of_ble_eq_true rfl)) d_V_init_116 ⟨Nat.le_of_ble_eq_true rfl, Nat.le_of_ble_eq_true rfl⟩) (fun S107 H108 locs p_109 hI => ?_)
  obtain ⟨la0, gla0, hl_o0, hl_a0, fl0⟩ := p_109
  have h_o : S107 o = some (10, .inr (7, [.int (nI n), .ref a79, .ref a92, .ref a5, .ref a18, .ref a23, .ref a36, .ref a41, .ref a54, .int 0, .ref a63])) := (fl0 o (mp_in h_o) (mp_ne h_o h_106 (by decide))).trans h_o
  have hz_o : S107 a5 = some (30, .inr (6, [.ref fs, .int 0, .ref on, .ref ot])) := (fl0 a5 (mp_in hz_o) (mp_ne hz_o h_106 (by decide))).trans hz_o
  have hz_fs : S107 fs = some (31, .inl ((g 3), 16, .inr (.inr (.inr (.inr (rfs eo 16)))))) := (fl0 fs (mp_in hz_fs) (mp_ne hz_fs h_106 (by decide))).trans hz_fs
  have hz_on : S107 on = some (560, .inr (1, [.ref oa1, .int (-1)])) := (fl0 on (mp_in hz_on) (mp_ne hz_on h_106 (by decide))).trans hz_on
  have hz_a1 : S107 oa1 = some (561, .inl ((g 0), 33, .inl (fun _ => 0))) := (fl0 oa1 (mp_in hz_a1) (mp_ne hz_a1 h_106 (by decide))).trans hz_a1
  have hz_ot : S107 ot = some (562, .inr (1, [.ref oa2, .int (-1)])) := (fl0 ot (mp_in hz_ot) (mp_ne hz_ot h_106 (by decide))).trans hz_ot
  have hz_a2 : S107 oa2 = some (563, .inl ((g 0), 33, .inl (fun _ => 0))) := (fl0 oa2 (mp_in hz_a2) (mp_ne hz_a2 h_106 (by decide))).trans hz_a2
  have h_19 : S107 a18 = some (32, .inl ((g 3), 3, .inr (.inr (.inr (.inr (fun _ => none)))))) := (fl0 a18 (mp_in h_19) (mp_ne h_19 h_106 (by decide))).trans h_19
  have h_27 : S107 a23 = some (33, .inl ((g 1), 3, .inr (.inr (.inr (.inr (rfs (fun i => a23 + 1 + i) 3)))))) := (fl0 a23 (mp_in h_27) (mp_ne h_27 h_106 (by decide))).trans h_27
  have h_37 : S107 a36 = some (34, .inl ((g 0), 3, .inl (fun _ => 0))) := (fl0 a36 (mp_in h_37) (mp_ne h_37 h_106 (by decide))).trans h_37
  have h_45 : S107 a41 = some (35, .inl ((g 1), 16, .inr (.inr (.inr (.inr (rfs (fun i => a41 + 1 + i) 16)))))) := (fl0 a41 (mp_in h_45) (mp_ne h_45 h_106 (by decide))).trans h_45
  have h_55 : S107 a54 = some (36, .inl ((g 0), 16, .inl (fun _ => 0))) := (fl0 a54 (mp_in h_55) (mp_ne h_55 h_106 (by decide))).trans h_55
  have hp_o : S107 a63 = some (37, .inr (2, [.ref pnu, .ref ppw])) := (fl0 a63 (mp_in hp_o) (mp_ne hp_o h_106 (by decide))).trans hp_o
  have hp_n : S107 pnu = some (38, .inl ((g 0), 3, .inl (fun _ => 0))) := (fl0 pnu (mp_in hp_n) (mp_ne hp_n h_106 (by decide))).trans hp_n
  have hp_p : S107 ppw = some (39, .inl ((g 1), 3, .inr (.inr (.inr (.inr (rfs (fun i => ppw + 1 + i) 3)))))) := (fl0 ppw (mp_in hp_p) (mp_ne hp_p h_106 (by decide))).trans hp_p
  have hd_o : S107 a79 = some (11, .inr (5, [.ref dra, .ref dka])) := (fl0 a79 (mp_in hd_o) (mp_ne hd_o h_106 (by decide))).trans hd_o
  have hd_r : S107 dra = some (12, .inl ((g 0), (tr3 (9 * n + 1)), .inl (fun _ => 0))) := (fl0 dra (mp_in hd_r) (mp_ne hd_r h_106 (by decide))).trans hd_r
  have hd_k : S107 dka = some (13, .inl ((g 0), (tr3 (9 * n + 1)), .inl kp)) := (fl0 dka (mp_in hd_k) (mp_ne hd_k h_106 (by decide))).trans hd_k
  have hq_o : S107 a92 = some (14, .inr (4, [.int (nI n), .ref ky, .int 0, .ref pr, .ref lw, .ref ll, .ref mu, .ref qfa, .ref nx, .ref re, .ref rl, .ref il])) := (fl0 a92 (mp_in hq_o) (mp_ne hq_o h_106 (by decide))).trans hq_o
  have hq_ky : S107 ky = some (15, .inl ((g 0), 16, .inl (fun _ => 0))) := (fl0 ky (mp_in hq_ky) (mp_ne hq_ky h_106 (by decide))).trans hq_ky
  have hq_pr : S107 pr = some (16, .inl ((g 1), 48, .inr (.inr (.inr (.inr (rfs (fun i => pr + 1 + i) 48)))))) := (fl0 pr (mp_in hq_pr) (mp_ne hq_pr h_106 (by decide))).trans hq_pr
  have hq_lw : S107 lw = some (17, .inl ((g 0), 16, .inl (fun _ => 0))) := (fl0 lw (mp_in hq_lw) (mp_ne hq_lw h_106 (by decide))).trans hq_lw
  have hq_ll : S107 ll = some (18, .inl ((g 0), 16, .inl (fun _ => 0))) := (fl0 ll (mp_in hq_ll) (mp_ne hq_ll h_106 (by decide))).trans hq_ll
  have hq_mu : S107 mu = some (19, .inl ((g 1), 16, .inr (.inr (.inr (.inr (rfs (fun i => mu + 1 + i) 16)))))) := (fl0 mu (mp_in hq_mu) (mp_ne hq_mu h_106 (by decide))).trans hq_mu
  have hq_qfa : S107 qfa = some (20, .inl ((g 0), 16, .inl (fun _ => 0))) := (fl0 qfa (mp_in hq_qfa) (mp_ne hq_qfa h_106 (by decide))).trans hq_qfa
  have hq_nx : S107 nx = some (21, .inl ((g 0), 16, .inl (fun _ => 0))) := (fl0 nx (mp_in hq_nx) (mp_ne hq_nx h_106 (by decide))).trans hq_nx
  have hq_re : S107 re = some (22, .inl ((g 0), 33, .inl (fun _ => 0))) := (fl0 re (mp_in hq_re) (mp_ne hq_re h_106 (by decide))).trans hq_re
  have hq_rl : S107 rl = some (23, .inr (8, [.ref rq, .ref rp, .int 0])) := (fl0 rl (mp_in hq_rl) (mp_ne hq_rl h_106 (by decide))).trans hq_rl
  have hq_rq : S107 rq = some (24, .inl ((g 1), 16, .inr (.inr (.inr (.inr (rfs (fun i => rq + 1 + i) 16)))))) := (fl0 rq (mp_in hq_rq) (mp_ne hq_rq h_106 (by decide))).trans hq_rq
  have hq_rp : S107 rp = some (25, .inl ((g 0), 16, .inl (fun _ => 0))) := (fl0 rp (mp_in hq_rp) (mp_ne hq_rp h_106 (by decide))).trans hq_rp
  have hq_il : S107 il = some (26, .inr (8, [.ref iq, .ref ip, .int 0])) := (fl0 il (mp_in hq_il) (mp_ne hq_il h_106 (by decide))).trans hq_il
  have hq_iq : S107 iq = some (27, .inl ((g 1), 16, .inr (.inr (.inr (.inr (rfs (fun i => iq + 1 + i) 16)))))) := (fl0 iq (mp_in hq_iq) (mp_ne hq_iq h_106 (by decide))).trans hq_iq
  have hq_ip : S107 ip = some (28, .inl ((g 0), 16, .inl (fun _ => 0))) := (fl0 ip (mp_in hq_ip) (mp_ne hq_ip h_106 (by decide))).trans hq_ip
  have hfr : ∀ b, S b ≠ none → b ≠ o → S107 b = S b := fun b h9 k0 => (fl0 b (by rw [hfr b h9 k0]; exact h9) (nb_a105 b h9 k0)).trans (hfr b h9 k0)
  have hzE := oS_kept hzE (S1 := S107) (fun b t9 e9 hb9 h1 h2 => fl0 b (mp_in hb9) (mp_ne hb9 h_106 (by omega)))
  have hR5 := rS_kept hR5 (S1 := S107) (fun b t9 e9 hb9 h1 h2 => fl0 b (mp_in hb9) (mp_ne hb9 h_106 (by omega)))
  have hR6 := rS_kept hR6 (S1 := S107) (fun b t9 e9 hb9 h1 h2 => fl0 b (mp_in hb9) (mp_ne hb9 h_106 (by omega)))
  have hR7 := rS_kept hR7 (S1 := S107) (fun b t9 e9 hb9 h1 h2 => fl0 b (mp_in hb9) (mp_ne hb9 h_106 (by omega)))
  have hR1 := rS_kept hR1 (S1 := S107) (fun b t9 e9 hb9 h1 h2 => fl0 b (mp_in hb9) (mp_ne hb9 h_106 (by omega)))
  have hR2 := rS_kept hR2 (S1 := S107) (fun b t9 e9 hb9 h1 h2 => fl0 b (mp_in hb9) (mp_ne hb9 h_106 (by omega)))
  have hR3 := rS_kept hR3 (S1 := S107) (fun b t9 e9 hb9 h1 h2 => fl0 b (mp_in hb9) (mp_ne hb9 h_106 (by omega)))
  have hR4 := rS_kept hR4 (S1 := S107) (fun b t9 e9 hb9 h1 h2 => fl0 b (mp_in hb9) (mp_ne hb9 h_106 (by omega)))
  refine mp_astq (r := (R_O, F_O, 2)) hx hb hK.va hI 3 1 h_19 rfl hl_o0 rfl (vp_in_nI (by decide) (by decide)) d_V_init_119 (fun S111 H112 locs e_113 hI => ?_)
  have e_113 : S111 = va_up S107 a18 (some (32, .inl ((g 3), 3, .inr (.inr (.inr (.inr (va_up (fun _ => none) (nI 0).toNatClampNeg (some a105)))))))) := e_113
  have h_19_o := h_19
  have h_o : S111 o = some (10, .inr (7, [.int (nI n), .ref a79, .ref a92, .ref a5, .ref a18, .ref a23, .ref a36, .ref a41, .ref a54, .int 0, .ref a63])) := by rw [e_113]; exact mp_keep h_o h_19 (by decide)
  have hz_o : S111 a5 = some (30, .inr (6, [.ref fs, .int 0, .ref on, .ref ot])) := by rw [e_113]; exact mp_keep hz_o h_19 (by decide)
  have hz_fs : S111 fs = some (31, .inl ((g 3), 16, .inr (.inr (.inr (.inr (rfs eo 16)))))) := by rw [e_113]; exact mp_keep hz_fs h_19 (by decide)
  have hz_on : S111 on = some (560, .inr (1, [.ref oa1, .int (-1)])) := by rw [e_113]; exact mp_keep hz_on h_19 (by decide)
  have hz_a1 : S111 oa1 = some (561, .inl ((g 0), 33, .inl (fun _ => 0))) := by rw [e_113]; exact mp_keep hz_a1 h_19 (by decide)
  have hz_ot : S111 ot = some (562, .inr (1, [.ref oa2, .int (-1)])) := by rw [e_113]; exact mp_keep hz_ot h_19 (by decide)
  have hz_a2 : S111 oa2 = some (563, .inl ((g 0), 33, .inl (fun _ => 0))) := by rw [e_113]; exact mp_keep hz_a2 h_19 (by decide)
  have h_27 : S111 a23 = some (33, .inl ((g 1), 3, .inr (.inr (.inr (.inr (rfs (fun i => a23 + 1 + i) 3)))))) := by rw [e_113]; exact mp_keep h_27 h_19 (by decide)
  have h_37 : S111 a36 = some (34, .inl ((g 0), 3, .inl (fun _ => 0))) := by rw [e_113]; exact mp_keep h_37 h_19 (by decide)
  have h_45 : S111 a41 = some (35, .inl ((g 1), 16, .inr (.inr (.inr (.inr (rfs (fun i => a41 + 1 + i) 16)))))) := by rw [e_113]; exact mp_keep h_45 h_19 (by decide)
  have h_55 : S111 a54 = some (36, .inl ((g 0), 16, .inl (fun _ => 0))) := by rw [e_113]; exact mp_keep h_55 h_19 (by decide)
  have hp_o : S111 a63 = some (37, .inr (2, [.ref pnu, .ref ppw])) := by rw [e_113]; exact mp_keep hp_o h_19 (by decide)
  have hp_n : S111 pnu = some (38, .inl ((g 0), 3, .inl (fun _ => 0))) := by rw [e_113]; exact mp_keep hp_n h_19 (by decide)
  have hp_p : S111 ppw = some (39, .inl ((g 1), 3, .inr (.inr (.inr (.inr (rfs (fun i => ppw + 1 + i) 3)))))) := by rw [e_113]; exact mp_keep hp_p h_19 (by decide)
  have hd_o : S111 a79 = some (11, .inr (5, [.ref dra, .ref dka])) := by rw [e_113]; exact mp_keep hd_o h_19 (by decide)
  have hd_r : S111 dra = some (12, .inl ((g 0), (tr3 (9 * n + 1)), .inl (fun _ => 0))) := by rw [e_113]; exact mp_keep hd_r h_19 (by decide)
  have hd_k : S111 dka = some (13, .inl ((g 0), (tr3 (9 * n + 1)), .inl kp)) := by rw [e_113]; exact mp_keep hd_k h_19 (by decide)
  have hq_o : S111 a92 = some (14, .inr (4, [.int (nI n), .ref ky, .int 0, .ref pr, .ref lw, .ref ll, .ref mu, .ref qfa, .ref nx, .ref re, .ref rl, .ref il])) := by rw [e_113]; exact mp_keep hq_o h_19 (by decide)
  have hq_ky : S111 ky = some (15, .inl ((g 0), 16, .inl (fun _ => 0))) := by rw [e_113]; exact mp_keep hq_ky h_19 (by decide)
  have hq_pr : S111 pr = some (16, .inl ((g 1), 48, .inr (.inr (.inr (.inr (rfs (fun i => pr + 1 + i) 48)))))) := by rw [e_113]; exact mp_keep hq_pr h_19 (by decide)
  have hq_lw : S111 lw = some (17, .inl ((g 0), 16, .inl (fun _ => 0))) := by rw [e_113]; exact mp_keep hq_lw h_19 (by decide)
  have hq_ll : S111 ll = some (18, .inl ((g 0), 16, .inl (fun _ => 0))) := by rw [e_113]; exact mp_keep hq_ll h_19 (by decide)
  have hq_mu : S111 mu = some (19, .inl ((g 1), 16, .inr (.inr (.inr (.inr (rfs (fun i => mu + 1 + i) 16)))))) := by rw [e_113]; exact mp_keep hq_mu h_19 (by decide)
  have hq_qfa : S111 qfa = some (20, .inl ((g 0), 16, .inl (fun _ => 0))) := by rw [e_113]; exact mp_keep hq_qfa h_19 (by decide)
  have hq_nx : S111 nx = some (21, .inl ((g 0), 16, .inl (fun _ => 0))) := by rw [e_113]; exact mp_keep hq_nx h_19 (by decide)
  have hq_re : S111 re = some (22, .inl ((g 0), 33, .inl (fun _ => 0))) := by rw [e_113]; exact mp_keep hq_re h_19 (by decide)
  have hq_rl : S111 rl = some (23, .inr (8, [.ref rq, .ref rp, .int 0])) := by rw [e_113]; exact mp_keep hq_rl h_19 (by decide)
  have hq_rq : S111 rq = some (24, .inl ((g 1), 16, .inr (.inr (.inr (.inr (rfs (fun i => rq + 1 + i) 16)))))) := by rw [e_113]; exact mp_keep hq_rq h_19 (by decide)
  have hq_rp : S111 rp = some (25, .inl ((g 0), 16, .inl (fun _ => 0))) := by rw [e_113]; exact mp_keep hq_rp h_19 (by decide)
  have hq_il : S111 il = some (26, .inr (8, [.ref iq, .ref ip, .int 0])) := by rw [e_113]; exact mp_keep hq_il h_19 (by decide)
  have hq_iq : S111 iq = some (27, .inl ((g 1), 16, .inr (.inr (.inr (.inr (rfs (fun i => iq + 1 + i) 16)))))) := by rw [e_113]; exact mp_keep hq_iq h_19 (by decide)
  have hq_ip : S111 ip = some (28, .inl ((g 0), 16, .inl (fun _ => 0))) := by rw [e_113]; exact mp_keep hq_ip h_19 (by decide)
  have hl_o0 : S111 a105 = some (570, .inr (1, [.ref la0, .int (-1)])) := by rw [e_113]; exact mp_keep hl_o0 h_19 (by decide)
  have hl_a0 : S111 la0 = some (571, .inl ((g 0), 33, .inl (fun _ => 0))) := by rw [e_113]; exact mp_keep hl_a0 h_19 (by decide)
  have h_19 : S111 a18 = some (32, .inl ((g 3), 3, .inr (.inr (.inr (.inr (va_up (fun _ => none) (nI 0).toNatClampNeg (some a105))))))) := by rw [e_113]; exact mp_us _ _ _
  have hzE := oS_kept hzE (S1 := S111) (fun b t9 e9 hb9 h1 h2 => by rw [e_113]; exact mp_un (mp_ne hb9 h_19_o (by omega)))
  have hR5 := rS_kept hR5 (S1 := S111) (fun b t9 e9 hb9 h1 h2 => by rw [e_113]; exact mp_un (mp_ne hb9 h_19_o (by omega)))
  have hR6 := rS_kept hR6 (S1 := S111) (fun b t9 e9 hb9 h1 h2 => by rw [e_113]; exact mp_un (mp_ne hb9 h_19_o (by omega)))
  have hR7 := rS_kept hR7 (S1 := S111) (fun b t9 e9 hb9 h1 h2 => by rw [e_113]; exact mp_un (mp_ne hb9 h_19_o (by omega)))
  have hR1 := rS_kept hR1 (S1 := S111) (fun b t9 e9 hb9 h1 h2 => by rw [e_113]; exact mp_un (mp_ne hb9 h_19_o (by omega)))
  have hR2 := rS_kept hR2 (S1 := S111) (fun b t9 e9 hb9 h1 h2 => by rw [e_113]; exact mp_un (mp_ne hb9 h_19_o (by omega)))
  have hR3 := rS_kept hR3 (S1 := S111) (fun b t9 e9 hb9 h1 h2 => by rw [e_113]; exact mp_un (mp_ne hb9 h_19_o (by omega)))
  have hR4 := rS_kept hR4 (S1 := S111) (fun b t9 e9 hb9 h1 h2 => by rw [e_113]; exact mp_un (mp_ne hb9 h_19_o (by omega)))
  have hfr : ∀ b, S b ≠ none → b ≠ o → S111 b = S b := fun b h9 k0 => by rw [e_113]; exact (mp_un (nb_a18 b h9 k0)).trans (hfr b h9 k0)
  refine lv_aload_n hx hb d_V_init_120 rfl (lv_at hl 1 rfl) ?_
  refine mp_get (C := R_V) (T := F_V) (N := 11) (v := .ref a36) hx hb hg i_V hown hK.va hI h_o rfl 6 (by decide) (hg _ q_267) (fun _ h9 => h9) rfl d_V_init_121 ?_
  refine lv_iload_n hx hb d_V_init_124 rfl (lv_at hl 0 rfl) ?_
  refine lv_iconst (v := nI 1) hx hb d_V_init_125 (by decide) ?_
  refine mp_iast hx hb hK.va hI 0 h_37 rfl (vp_in_nI (by decide) (by decide)) d_V_init_126 (fun S114 H115 locs e_116 hI => ?_)
  have e_116 : S114 = va_up S111 a36 (some (34, .inl ((g 0), 3, .inl (upd (fun _ => 0) (nI 0).toNatClampNeg (nI 1))))) := e_116
  have h_37_o := h_37
  have h_o : S114 o = some (10, .inr (7, [.int (nI n), .ref a79, .ref a92, .ref a5, .ref a18, .ref a23, .ref a36, .ref a41, .ref a54, .int 0, .ref a63])) := by rw [e_116]; exact mp_keep h_o h_37 (by decide)
  have hz_o : S114 a5 = some (30, .inr (6, [.ref fs, .int 0, .ref on, .ref ot])) := by rw [e_116]; exact mp_keep hz_o h_37 (by decide)
  have hz_fs : S114 fs = some (31, .inl ((g 3), 16, .inr (.inr (.inr (.inr (rfs eo 16)))))) := by rw [e_116]; exact mp_keep hz_fs h_37 (by decide)
  have hz_on : S114 on = some (560, .inr (1, [.ref oa1, .int (-1)])) := by rw [e_116]; exact mp_keep hz_on h_37 (by decide)
  have hz_a1 : S114 oa1 = some (561, .inl ((g 0), 33, .inl (fun _ => 0))) := by rw [e_116]; exact mp_keep hz_a1 h_37 (by decide)
  have hz_ot : S114 ot = some (562, .inr (1, [.ref oa2, .int (-1)])) := by rw [e_116]; exact mp_keep hz_ot h_37 (by decide)
  have hz_a2 : S114 oa2 = some (563, .inl ((g 0), 33, .inl (fun _ => 0))) := by rw [e_116]; exact mp_keep hz_a2 h_37 (by decide)
  have h_19 : S114 a18 = some (32, .inl ((g 3), 3, .inr (.inr (.inr (.inr (va_up (fun _ => none) (nI 0).toNatClampNeg (some a105))))))) := by rw [e_116]; exact mp_keep h_19 h_37 (by decide)
  have h_27 : S114 a23 = some (33, .inl ((g 1), 3, .inr (.inr (.inr (.inr (rfs (fun i => a23 + 1 + i) 3)))))) := by rw [e_116]; exact mp_keep h_27 h_37 (by decide)
  have h_45 : S114 a41 = some (35, .inl ((g 1), 16, .inr (.inr (.inr (.inr (rfs (fun i => a41 + 1 + i) 16)))))) := by rw [e_116]; exact mp_keep h_45 h_37 (by decide)
  have h_55 : S114 a54 = some (36, .inl ((g 0), 16, .inl (fun _ => 0))) := by rw [e_116]; exact mp_keep h_55 h_37 (by decide)
  have hp_o : S114 a63 = some (37, .inr (2, [.ref pnu, .ref ppw])) := by rw [e_116]; exact mp_keep hp_o h_37 (by decide)
  have hp_n : S114 pnu = some (38, .inl ((g 0), 3, .inl (fun _ => 0))) := by rw [e_116]; exact mp_keep hp_n h_37 (by decide)
  have hp_p : S114 ppw = some (39, .inl ((g 1), 3, .inr (.inr (.inr (.inr (rfs (fun i => ppw + 1 + i) 3)))))) := by rw [e_116]; exact mp_keep hp_p h_37 (by decide)
  have hd_o : S114 a79 = some (11, .inr (5, [.ref dra, .ref dka])) := by rw [e_116]; exact mp_keep hd_o h_37 (by decide)
  have hd_r : S114 dra = some (12, .inl ((g 0), (tr3 (9 * n + 1)), .inl (fun _ => 0))) := by rw [e_116]; exact mp_keep hd_r h_37 (by decide)
  have hd_k : S114 dka = some (13, .inl ((g 0), (tr3 (9 * n + 1)), .inl kp)) := by rw [e_116]; exact mp_keep hd_k h_37 (by decide)
  have hq_o : S114 a92 = some (14, .inr (4, [.int (nI n), .ref ky, .int 0, .ref pr, .ref lw, .ref ll, .ref mu, .ref qfa, .ref nx, .ref re, .ref rl, .ref il])) := by rw [e_116]; exact mp_keep hq_o h_37 (by decide)
  have hq_ky : S114 ky = some (15, .inl ((g 0), 16, .inl (fun _ => 0))) := by rw [e_116]; exact mp_keep hq_ky h_37 (by decide)
  have hq_pr : S114 pr = some (16, .inl ((g 1), 48, .inr (.inr (.inr (.inr (rfs (fun i => pr + 1 + i) 48)))))) := by rw [e_116]; exact mp_keep hq_pr h_37 (by decide)
  have hq_lw : S114 lw = some (17, .inl ((g 0), 16, .inl (fun _ => 0))) := by rw [e_116]; exact mp_keep hq_lw h_37 (by decide)
  have hq_ll : S114 ll = some (18, .inl ((g 0), 16, .inl (fun _ => 0))) := by rw [e_116]; exact mp_keep hq_ll h_37 (by decide)
  have hq_mu : S114 mu = some (19, .inl ((g 1), 16, .inr (.inr (.inr (.inr (rfs (fun i => mu + 1 + i) 16)))))) := by rw [e_116]; exact mp_keep hq_mu h_37 (by decide)
  have hq_qfa : S114 qfa = some (20, .inl ((g 0), 16, .inl (fun _ => 0))) := by rw [e_116]; exact mp_keep hq_qfa h_37 (by decide)
  have hq_nx : S114 nx = some (21, .inl ((g 0), 16, .inl (fun _ => 0))) := by rw [e_116]; exact mp_keep hq_nx h_37 (by decide)
  have hq_re : S114 re = some (22, .inl ((g 0), 33, .inl (fun _ => 0))) := by rw [e_116]; exact mp_keep hq_re h_37 (by decide)
  have hq_rl : S114 rl = some (23, .inr (8, [.ref rq, .ref rp, .int 0])) := by rw [e_116]; exact mp_keep hq_rl h_37 (by decide)
  have hq_rq : S114 rq = some (24, .inl ((g 1), 16, .inr (.inr (.inr (.inr (rfs (fun i => rq + 1 + i) 16)))))) := by rw [e_116]; exact mp_keep hq_rq h_37 (by decide)
  have hq_rp : S114 rp = some (25, .inl ((g 0), 16, .inl (fun _ => 0))) := by rw [e_116]; exact mp_keep hq_rp h_37 (by decide)
  have hq_il : S114 il = some (26, .inr (8, [.ref iq, .ref ip, .int 0])) := by rw [e_116]; exact mp_keep hq_il h_37 (by decide)
  have hq_iq : S114 iq = some (27, .inl ((g 1), 16, .inr (.inr (.inr (.inr (rfs (fun i => iq + 1 + i) 16)))))) := by rw [e_116]; exact mp_keep hq_iq h_37 (by decide)
  have hq_ip : S114 ip = some (28, .inl ((g 0), 16, .inl (fun _ => 0))) := by rw [e_116]; exact mp_keep hq_ip h_37 (by decide)
  have hl_o0 : S114 a105 = some (570, .inr (1, [.ref la0, .int (-1)])) := by rw [e_116]; exact mp_keep hl_o0 h_37 (by decide)
  have hl_a0 : S114 la0 = some (571, .inl ((g 0), 33, .inl (fun _ => 0))) := by rw [e_116]; exact mp_keep hl_a0 h_37 (by decide)
  have h_37 : S114 a36 = some (34, .inl ((g 0), 3, .inl (upd (fun _ => 0) (nI 0).toNatClampNeg (nI 1)))) := by rw [e_116]; exact mp_us _ _ _
  have hzE := oS_kept hzE (S1 := S114) (fun b t9 e9 hb9 h1 h2 => by rw [e_116]; exact mp_un (mp_ne hb9 h_37_o (by omega)))
  have hR5 := rS_kept hR5 (S1 := S114) (fun b t9 e9 hb9 h1 h2 => by rw [e_116]; exact mp_un (mp_ne hb9 h_37_o (by omega)))
  have hR6 := rS_kept hR6 (S1 := S114) (fun b t9 e9 hb9 h1 h2 => by rw [e_116]; exact mp_un (mp_ne hb9 h_37_o (by omega)))
  have hR7 := rS_kept hR7 (S1 := S114) (fun b t9 e9 hb9 h1 h2 => by rw [e_116]; exact mp_un (mp_ne hb9 h_37_o (by omega)))
  have hR1 := rS_kept hR1 (S1 := S114) (fun b t9 e9 hb9 h1 h2 => by rw [e_116]; exact mp_un (mp_ne hb9 h_37_o (by omega)))
  have hR2 := rS_kept hR2 (S1 := S114) (fun b t9 e9 hb9 h1 h2 => by rw [e_116]; exact mp_un (mp_ne hb9 h_37_o (by omega)))
  have hR3 := rS_kept hR3 (S1 := S114) (fun b t9 e9 hb9 h1 h2 => by rw [e_116]; exact mp_un (mp_ne hb9 h_37_o (by omega)))
  have hR4 := rS_kept hR4 (S1 := S114) (fun b t9 e9 hb9 h1 h2 => by rw [e_116]; exact mp_un (mp_ne hb9 h_37_o (by omega)))
  have hfr : ∀ b, S b ≠ none → b ≠ o → S114 b = S b := fun b h9 k0 => by rw [e_116]; exact (mp_un (nb_a36 b h9 k0)).trans (hfr b h9 k0)
  refine lv_iinc (v := nI (0 + 1)) (lv' := [(2, .int (nI (0 + 1))), (0, .ref o), (1, .int (nI n))]) hx hb d_V_init_127 hl (k := 0) rfl (nI_1 _) (by decide) rfl (fun ls hl => ?_)
  refine lv_goto (tgt := 102) hx hb d_V_init_130 (by decide) ?_
  refine lv_iload_n hx hb d_V_init_102 rfl (lv_at hl 0 rfl) ?_
  refine lv_iconst (v := nI 3) hx hb d_V_init_103 (by decide) ?_
  refine lv_icmp_ge (tgt := 133) hx hb d_V_init_104 (by decide) (fun h9 => absurd h9 (by decide)) (fun _ => ?_)
  refine lv_aload_n hx hb d_V_init_107 rfl (lv_at hl 1 rfl) ?_
  refine mp_get (C := R_V) (T := F_V) (N := 11) (v := .ref a18) hx hb hg i_V hown hK.va hI h_o rfl 4 (by decide) (hg _ q_264) (fun _ h9 => h9) rfl d_V_init_108 ?_
  refine lv_iload_n hx hb d_V_init_111 rfl (lv_at hl 0 rfl) ?_
  have hI0 := hI
  refine mp_new (C := R_O) (T := F_O) (N := 2) (ci := 1) (fs := [.null, .int 0]) hx hb hg i_O t_O t_O_ok hown (hg _ q_158) (hg _ q_131) (hg _ q_18) hK.va hI 572 rfl (fun j hj => by rcases (show j = 0 ∨ j = 1 by omega) with rfl | rfl <;> rfl) (Nat.le_of_ble_eq_true rfl) (Nat.le_of_ble_eq_true rfl) d_V_init_112 (fun S117 H118 z_120 e_119 hI => ?_)
  obtain ⟨a121, ea121⟩ : ∃ z, z = H115.size := ⟨_, rfl⟩
  have g_a121 : s.heap.size ≤ a121 := by rw [ea121]; exact hI0.2.2.1.1
  rw [← ea121] at z_120 e_119
  refine W.eq (g2 := F0 m 115 ls [.ref a121, .int (nI (0 + 1)), .ref a18]) (by rw [ea121]) ?_
  have h_o : S117 o = some (10, .inr (7, [.int (nI n), .ref a79, .ref a92, .ref a5, .ref a18, .ref a23, .ref a36, .ref a41, .ref a54, .int 0, .ref a63])) := by rw [e_119]; exact mp_keepN h_o z_120
  have hz_o : S117 a5 = some (30, .inr (6, [.ref fs, .int 0, .ref on, .ref ot])) := by rw [e_119]; exact mp_keepN hz_o z_120
  have hz_fs : S117 fs = some (31, .inl ((g 3), 16, .inr (.inr (.inr (.inr (rfs eo 16)))))) := by rw [e_119]; exact mp_keepN hz_fs z_120
  have hz_on : S117 on = some (560, .inr (1, [.ref oa1, .int (-1)])) := by rw [e_119]; exact mp_keepN hz_on z_120
  have hz_a1 : S117 oa1 = some (561, .inl ((g 0), 33, .inl (fun _ => 0))) := by rw [e_119]; exact mp_keepN hz_a1 z_120
  have hz_ot : S117 ot = some (562, .inr (1, [.ref oa2, .int (-1)])) := by rw [e_119]; exact mp_keepN hz_ot z_120
  have hz_a2 : S117 oa2 = some (563, .inl ((g 0), 33, .inl (fun _ => 0))) := by rw [e_119]; exact mp_keepN hz_a2 z_120
  have h_19 : S117 a18 = some (32, .inl ((g 3), 3, .inr (.inr (.inr (.inr (va_up (fun _ => none) (nI 0).toNatClampNeg (some a105))))))) := by rw [e_119]; exact mp_keepN h_19 z_120
  have h_27 : S117 a23 = some (33, .inl ((g 1), 3, .inr (.inr (.inr (.inr (rfs (fun i => a23 + 1 + i) 3)))))) := by rw [e_119]; exact mp_keepN h_27 z_120
  have h_37 : S117 a36 = some (34, .inl ((g 0), 3, .inl (upd (fun _ => 0) (nI 0).toNatClampNeg (nI 1)))) := by rw [e_119]; exact mp_keepN h_37 z_120
  have h_45 : S117 a41 = some (35, .inl ((g 1), 16, .inr (.inr (.inr (.inr (rfs (fun i => a41 + 1 + i) 16)))))) := by rw [e_119]; exact mp_keepN h_45 z_120
  have h_55 : S117 a54 = some (36, .inl ((g 0), 16, .inl (fun _ => 0))) := by rw [e_119]; exact mp_keepN h_55 z_120
  have hp_o : S117 a63 = some (37, .inr (2, [.ref pnu, .ref ppw])) := by rw [e_119]; exact mp_keepN hp_o z_120
  have hp_n : S117 pnu = some (38, .inl ((g 0), 3, .inl (fun _ => 0))) := by rw [e_119]; exact mp_keepN hp_n z_120
  have hp_p : S117 ppw = some (39, .inl ((g 1), 3, .inr (.inr (.inr (.inr (rfs (fun i => ppw + 1 + i) 3)))))) := by rw [e_119]; exact mp_keepN hp_p z_120
  have hd_o : S117 a79 = some (11, .inr (5, [.ref dra, .ref dka])) := by rw [e_119]; exact mp_keepN hd_o z_120
  have hd_r : S117 dra = some (12, .inl ((g 0), (tr3 (9 * n + 1)), .inl (fun _ => 0))) := by rw [e_119]; exact mp_keepN hd_r z_120
  have hd_k : S117 dka = some (13, .inl ((g 0), (tr3 (9 * n + 1)), .inl kp)) := by rw [e_119]; exact mp_keepN hd_k z_120
  have hq_o : S117 a92 = some (14, .inr (4, [.int (nI n), .ref ky, .int 0, .ref pr, .ref lw, .ref ll, .ref mu, .ref qfa, .ref nx, .ref re, .ref rl, .ref il])) := by rw [e_119]; exact mp_keepN hq_o z_120
  have hq_ky : S117 ky = some (15, .inl ((g 0), 16, .inl (fun _ => 0))) := by rw [e_119]; exact mp_keepN hq_ky z_120
  have hq_pr : S117 pr = some (16, .inl ((g 1), 48, .inr (.inr (.inr (.inr (rfs (fun i => pr + 1 + i) 48)))))) := by rw [e_119]; exact mp_keepN hq_pr z_120
  have hq_lw : S117 lw = some (17, .inl ((g 0), 16, .inl (fun _ => 0))) := by rw [e_119]; exact mp_keepN hq_lw z_120
  have hq_ll : S117 ll = some (18, .inl ((g 0), 16, .inl (fun _ => 0))) := by rw [e_119]; exact mp_keepN hq_ll z_120
  have hq_mu : S117 mu = some (19, .inl ((g 1), 16, .inr (.inr (.inr (.inr (rfs (fun i => mu + 1 + i) 16)))))) := by rw [e_119]; exact mp_keepN hq_mu z_120
  have hq_qfa : S117 qfa = some (20, .inl ((g 0), 16, .inl (fun _ => 0))) := by rw [e_119]; exact mp_keepN hq_qfa z_120
  have hq_nx : S117 nx = some (21, .inl ((g 0), 16, .inl (fun _ => 0))) := by rw [e_119]; exact mp_keepN hq_nx z_120
  have hq_re : S117 re = some (22, .inl ((g 0), 33, .inl (fun _ => 0))) := by rw [e_119]; exact mp_keepN hq_re z_120
  have hq_rl : S117 rl = some (23, .inr (8, [.ref rq, .ref rp, .int 0])) := by rw [e_119]; exact mp_keepN hq_rl z_120
  have hq_rq : S117 rq = some (24, .inl ((g 1), 16, .inr (.inr (.inr (.inr (rfs (fun i => rq + 1 + i) 16)))))) := by rw [e_119]; exact mp_keepN hq_rq z_120
  have hq_rp : S117 rp = some (25, .inl ((g 0), 16, .inl (fun _ => 0))) := by rw [e_119]; exact mp_keepN hq_rp z_120
  have hq_il : S117 il = some (26, .inr (8, [.ref iq, .ref ip, .int 0])) := by rw [e_119]; exact mp_keepN hq_il z_120
  have hq_iq : S117 iq = some (27, .inl ((g 1), 16, .inr (.inr (.inr (.inr (rfs (fun i => iq + 1 + i) 16)))))) := by rw [e_119]; exact mp_keepN hq_iq z_120
  have hq_ip : S117 ip = some (28, .inl ((g 0), 16, .inl (fun _ => 0))) := by rw [e_119]; exact mp_keepN hq_ip z_120
  have hl_o0 : S117 a105 = some (570, .inr (1, [.ref la0, .int (-1)])) := by rw [e_119]; exact mp_keepN hl_o0 z_120
  have hl_a0 : S117 la0 = some (571, .inl ((g 0), 33, .inl (fun _ => 0))) := by rw [e_119]; exact mp_keepN hl_a0 z_120
  have h_122 : S117 a121 = some (572, .inr (1, [.null, .int 0])) := by rw [e_119]; exact mp_us _ _ _
  have hzE := oS_kept hzE (S1 := S117) (fun b t9 e9 hb9 h1 h2 => by rw [e_119]; exact mp_un (fun z9 => by rw [z9, z_120] at hb9; cases hb9))
  have hR5 := rS_kept hR5 (S1 := S117) (fun b t9 e9 hb9 h1 h2 => by rw [e_119]; exact mp_un (fun z9 => by rw [z9, z_120] at hb9; cases hb9))
  have hR6 := rS_kept hR6 (S1 := S117) (fun b t9 e9 hb9 h1 h2 => by rw [e_119]; exact mp_un (fun z9 => by rw [z9, z_120] at hb9; cases hb9))
  have hR7 := rS_kept hR7 (S1 := S117) (fun b t9 e9 hb9 h1 h2 => by rw [e_119]; exact mp_un (fun z9 => by rw [z9, z_120] at hb9; cases hb9))
  have hR1 := rS_kept hR1 (S1 := S117) (fun b t9 e9 hb9 h1 h2 => by rw [e_119]; exact mp_un (fun z9 => by rw [z9, z_120] at hb9; cases hb9))
  have hR2 := rS_kept hR2 (S1 := S117) (fun b t9 e9 hb9 h1 h2 => by rw [e_119]; exact mp_un (fun z9 => by rw [z9, z_120] at hb9; cases hb9))
  have hR3 := rS_kept hR3 (S1 := S117) (fun b t9 e9 hb9 h1 h2 => by rw [e_119]; exact mp_un (fun z9 => by rw [z9, z_120] at hb9; cases hb9))
  have hR4 := rS_kept hR4 (S1 := S117) (fun b t9 e9 hb9 h1 h2 => by rw [e_119]; exact mp_un (fun z9 => by rw [z9, z_120] at hb9; cases hb9))
  have nb_a121 : ∀ b, S b ≠ none → b ≠ o → b ≠ a121 := fun b h9 k0 z9 => h9 ((hfr b h9 k0).symm.trans (by rw [z9]; exact z_120))
  have hfr : ∀ b, S b ≠ none → b ≠ o → S117 b = S b := fun b h9 k0 => by rw [e_119]; exact (mp_un (nb_a121 b h9 k0)).trans (hfr b h9 k0)
  refine lv_dup hx hb d_V_init_115 rfl ?_
  refine mp_callv hI (va_runIN (As := []) (rest := [.ref a121, .int (nI (0 + 1)), .ref a18]) ⟨hx, hb, hml, hown, hg⟩ (c_O_init l D g S117 _ a121 572 573 h_122 (by decide)) ⟨(va_cnB 0 hg (wd_goodG q_134) rfl rfl rfl (hK.nw q_258 rfl) (hg _ q_18) (by decide +kernel) ⟨Nat.le_of_ble_eq_true rfl, Nat.le_of_ble_eq_true rfl⟩), rfl, hg _ q_133⟩ (mp_pre hI hK ([.ref a121])) rfl rfl hl.1 rfl (lv_room (Nat.le_of_ble_eq_true rfl)) d_V_init_116 ⟨Nat.le_of_ble_eq_true rfl, Nat.le_of_ble_eq_true rfl⟩) (fun S123 H124 locs p_125 hI => ?_)
  obtain ⟨la1, gla1, hl_o1, hl_a1, fl1⟩ := p_125
  have h_o : S123 o = some (10, .inr (7, [.int (nI n), .ref a79, .ref a92, .ref a5, .ref a18, .ref a23, .ref a36, .ref a41, .ref a54, .int 0, .ref a63])) := (fl1 o (mp_in h_o) (mp_ne h_o h_122 (by decide))).trans h_o
  have hz_o : S123 a5 = some (30, .inr (6, [.ref fs, .int 0, .ref on, .ref ot])) := (fl1 a5 (mp_in hz_o) (mp_ne hz_o h_122 (by decide))).trans hz_o
  have hz_fs : S123 fs = some (31, .inl ((g 3), 16, .inr (.inr (.inr (.inr (rfs eo 16)))))) := (fl1 fs (mp_in hz_fs) (mp_ne hz_fs h_122 (by decide))).trans hz_fs
  have hz_on : S123 on = some (560, .inr (1, [.ref oa1, .int (-1)])) := (fl1 on (mp_in hz_on) (mp_ne hz_on h_122 (by decide))).trans hz_on
  have hz_a1 : S123 oa1 = some (561, .inl ((g 0), 33, .inl (fun _ => 0))) := (fl1 oa1 (mp_in hz_a1) (mp_ne hz_a1 h_122 (by decide))).trans hz_a1
  have hz_ot : S123 ot = some (562, .inr (1, [.ref oa2, .int (-1)])) := (fl1 ot (mp_in hz_ot) (mp_ne hz_ot h_122 (by decide))).trans hz_ot
  have hz_a2 : S123 oa2 = some (563, .inl ((g 0), 33, .inl (fun _ => 0))) := (fl1 oa2 (mp_in hz_a2) (mp_ne hz_a2 h_122 (by decide))).trans hz_a2
  have h_19 : S123 a18 = some (32, .inl ((g 3), 3, .inr (.inr (.inr (.inr (va_up (fun _ => none) (nI 0).toNatClampNeg (some a105))))))) := (fl1 a18 (mp_in h_19) (mp_ne h_19 h_122 (by decide))).trans h_19
  have h_27 : S123 a23 = some (33, .inl ((g 1), 3, .inr (.inr (.inr (.inr (rfs (fun i => a23 + 1 + i) 3)))))) := (fl1 a23 (mp_in h_27) (mp_ne h_27 h_122 (by decide))).trans h_27
  have h_37 : S123 a36 = some (34, .inl ((g 0), 3, .inl (upd (fun _ => 0) (nI 0).toNatClampNeg (nI 1)))) := (fl1 a36 (mp_in h_37) (mp_ne h_37 h_122 (by decide))).trans h_37
  have h_45 : S123 a41 = some (35, .inl ((g 1), 16, .inr (.inr (.inr (.inr (rfs (fun i => a41 + 1 + i) 16)))))) := (fl1 a41 (mp_in h_45) (mp_ne h_45 h_122 (by decide))).trans h_45
  have h_55 : S123 a54 = some (36, .inl ((g 0), 16, .inl (fun _ => 0))) := (fl1 a54 (mp_in h_55) (mp_ne h_55 h_122 (by decide))).trans h_55
  have hp_o : S123 a63 = some (37, .inr (2, [.ref pnu, .ref ppw])) := (fl1 a63 (mp_in hp_o) (mp_ne hp_o h_122 (by decide))).trans hp_o
  have hp_n : S123 pnu = some (38, .inl ((g 0), 3, .inl (fun _ => 0))) := (fl1 pnu (mp_in hp_n) (mp_ne hp_n h_122 (by decide))).trans hp_n
  have hp_p : S123 ppw = some (39, .inl ((g 1), 3, .inr (.inr (.inr (.inr (rfs (fun i => ppw + 1 + i) 3)))))) := (fl1 ppw (mp_in hp_p) (mp_ne hp_p h_122 (by decide))).trans hp_p
  have hd_o : S123 a79 = some (11, .inr (5, [.ref dra, .ref dka])) := (fl1 a79 (mp_in hd_o) (mp_ne hd_o h_122 (by decide))).trans hd_o
  have hd_r : S123 dra = some (12, .inl ((g 0), (tr3 (9 * n + 1)), .inl (fun _ => 0))) := (fl1 dra (mp_in hd_r) (mp_ne hd_r h_122 (by decide))).trans hd_r
  have hd_k : S123 dka = some (13, .inl ((g 0), (tr3 (9 * n + 1)), .inl kp)) := (fl1 dka (mp_in hd_k) (mp_ne hd_k h_122 (by decide))).trans hd_k
  have hq_o : S123 a92 = some (14, .inr (4, [.int (nI n), .ref ky, .int 0, .ref pr, .ref lw, .ref ll, .ref mu, .ref qfa, .ref nx, .ref re, .ref rl, .ref il])) := (fl1 a92 (mp_in hq_o) (mp_ne hq_o h_122 (by decide))).trans hq_o
  have hq_ky : S123 ky = some (15, .inl ((g 0), 16, .inl (fun _ => 0))) := (fl1 ky (mp_in hq_ky) (mp_ne hq_ky h_122 (by decide))).trans hq_ky
  have hq_pr : S123 pr = some (16, .inl ((g 1), 48, .inr (.inr (.inr (.inr (rfs (fun i => pr + 1 + i) 48)))))) := (fl1 pr (mp_in hq_pr) (mp_ne hq_pr h_122 (by decide))).trans hq_pr
  have hq_lw : S123 lw = some (17, .inl ((g 0), 16, .inl (fun _ => 0))) := (fl1 lw (mp_in hq_lw) (mp_ne hq_lw h_122 (by decide))).trans hq_lw
  have hq_ll : S123 ll = some (18, .inl ((g 0), 16, .inl (fun _ => 0))) := (fl1 ll (mp_in hq_ll) (mp_ne hq_ll h_122 (by decide))).trans hq_ll
  have hq_mu : S123 mu = some (19, .inl ((g 1), 16, .inr (.inr (.inr (.inr (rfs (fun i => mu + 1 + i) 16)))))) := (fl1 mu (mp_in hq_mu) (mp_ne hq_mu h_122 (by decide))).trans hq_mu
  have hq_qfa : S123 qfa = some (20, .inl ((g 0), 16, .inl (fun _ => 0))) := (fl1 qfa (mp_in hq_qfa) (mp_ne hq_qfa h_122 (by decide))).trans hq_qfa
  have hq_nx : S123 nx = some (21, .inl ((g 0), 16, .inl (fun _ => 0))) := (fl1 nx (mp_in hq_nx) (mp_ne hq_nx h_122 (by decide))).trans hq_nx
  have hq_re : S123 re = some (22, .inl ((g 0), 33, .inl (fun _ => 0))) := (fl1 re (mp_in hq_re) (mp_ne hq_re h_122 (by decide))).trans hq_re
  have hq_rl : S123 rl = some (23, .inr (8, [.ref rq, .ref rp, .int 0])) := (fl1 rl (mp_in hq_rl) (mp_ne hq_rl h_122 (by decide))).trans hq_rl
  have hq_rq : S123 rq = some (24, .inl ((g 1), 16, .inr (.inr (.inr (.inr (rfs (fun i => rq + 1 + i) 16)))))) := (fl1 rq (mp_in hq_rq) (mp_ne hq_rq h_122 (by decide))).trans hq_rq
  have hq_rp : S123 rp = some (25, .inl ((g 0), 16, .inl (fun _ => 0))) := (fl1 rp (mp_in hq_rp) (mp_ne hq_rp h_122 (by decide))).trans hq_rp
  have hq_il : S123 il = some (26, .inr (8, [.ref iq, .ref ip, .int 0])) := (fl1 il (mp_in hq_il) (mp_ne hq_il h_122 (by decide))).trans hq_il
  have hq_iq : S123 iq = some (27, .inl ((g 1), 16, .inr (.inr (.inr (.inr (rfs (fun i => iq + 1 + i) 16)))))) := (fl1 iq (mp_in hq_iq) (mp_ne hq_iq h_122 (by decide))).trans hq_iq
  have hq_ip : S123 ip = some (28, .inl ((g 0), 16, .inl (fun _ => 0))) := (fl1 ip (mp_in hq_ip) (mp_ne hq_ip h_122 (by decide))).trans hq_ip
  have hl_o0 : S123 a105 = some (570, .inr (1, [.ref la0, .int (-1)])) := (fl1 a105 (mp_in hl_o0) (mp_ne hl_o0 h_122 (by decide))).trans hl_o0
  have hl_a0 : S123 la0 = some (571, .inl ((g 0), 33, .inl (fun _ => 0))) := (fl1 la0 (mp_in hl_a0) (mp_ne hl_a0 h_122 (by decide))).trans hl_a0
  have hfr : ∀ b, S b ≠ none → b ≠ o → S123 b = S b := fun b h9 k0 => (fl1 b (by rw [hfr b h9 k0]; exact h9) (nb_a121 b h9 k0)).trans (hfr b h9 k0)
  have hzE := oS_kept hzE (S1 := S123) (fun b t9 e9 hb9 h1 h2 => fl1 b (mp_in hb9) (mp_ne hb9 h_122 (by omega)))
  have hR5 := rS_kept hR5 (S1 := S123) (fun b t9 e9 hb9 h1 h2 => fl1 b (mp_in hb9) (mp_ne hb9 h_122 (by omega)))
  have hR6 := rS_kept hR6 (S1 := S123) (fun b t9 e9 hb9 h1 h2 => fl1 b (mp_in hb9) (mp_ne hb9 h_122 (by omega)))
  have hR7 := rS_kept hR7 (S1 := S123) (fun b t9 e9 hb9 h1 h2 => fl1 b (mp_in hb9) (mp_ne hb9 h_122 (by omega)))
  have hR1 := rS_kept hR1 (S1 := S123) (fun b t9 e9 hb9 h1 h2 => fl1 b (mp_in hb9) (mp_ne hb9 h_122 (by omega)))
  have hR2 := rS_kept hR2 (S1 := S123) (fun b t9 e9 hb9 h1 h2 => fl1 b (mp_in hb9) (mp_ne hb9 h_122 (by omega)))
  have hR3 := rS_kept hR3 (S1 := S123) (fun b t9 e9 hb9 h1 h2 => fl1 b (mp_in hb9) (mp_ne hb9 h_122 (by omega)))
  have hR4 := rS_kept hR4 (S1 := S123) (fun b t9 e9 hb9 h1 h2 => fl1 b (mp_in hb9) (mp_ne hb9 h_122 (by omega)))
  refine mp_astq (r := (R_O, F_O, 2)) hx hb hK.va hI 3 1 h_19 rfl hl_o1 rfl (vp_in_nI (by decide) (by decide)) d_V_init_119 (fun S127 H128 locs e_129 hI => ?_)
  have e_129 : S127 = va_up S123 a18 (some (32, .inl ((g 3), 3, .inr (.inr (.inr (.inr (va_up (va_up (fun _ => none) (nI 0).toNatClampNeg (some a105)) (nI (0 + 1)).toNatClampNeg (some a121)))))))) := e_129
  have h_19_o := h_19
  have h_o : S127 o = some (10, .inr (7, [.int (nI n), .ref a79, .ref a92, .ref a5, .ref a18, .ref a23, .ref a36, .ref a41, .ref a54, .int 0, .ref a63])) := by rw [e_129]; exact mp_keep h_o h_19 (by decide)
  have hz_o : S127 a5 = some (30, .inr (6, [.ref fs, .int 0, .ref on, .ref ot])) := by rw [e_129]; exact mp_keep hz_o h_19 (by decide)
  have hz_fs : S127 fs = some (31, .inl ((g 3), 16, .inr (.inr (.inr (.inr (rfs eo 16)))))) := by rw [e_129]; exact mp_keep hz_fs h_19 (by decide)
  have hz_on : S127 on = some (560, .inr (1, [.ref oa1, .int (-1)])) := by rw [e_129]; exact mp_keep hz_on h_19 (by decide)
  have hz_a1 : S127 oa1 = some (561, .inl ((g 0), 33, .inl (fun _ => 0))) := by rw [e_129]; exact mp_keep hz_a1 h_19 (by decide)
  have hz_ot : S127 ot = some (562, .inr (1, [.ref oa2, .int (-1)])) := by rw [e_129]; exact mp_keep hz_ot h_19 (by decide)
  have hz_a2 : S127 oa2 = some (563, .inl ((g 0), 33, .inl (fun _ => 0))) := by rw [e_129]; exact mp_keep hz_a2 h_19 (by decide)
  have h_27 : S127 a23 = some (33, .inl ((g 1), 3, .inr (.inr (.inr (.inr (rfs (fun i => a23 + 1 + i) 3)))))) := by rw [e_129]; exact mp_keep h_27 h_19 (by decide)
  have h_37 : S127 a36 = some (34, .inl ((g 0), 3, .inl (upd (fun _ => 0) (nI 0).toNatClampNeg (nI 1)))) := by rw [e_129]; exact mp_keep h_37 h_19 (by decide)
  have h_45 : S127 a41 = some (35, .inl ((g 1), 16, .inr (.inr (.inr (.inr (rfs (fun i => a41 + 1 + i) 16)))))) := by rw [e_129]; exact mp_keep h_45 h_19 (by decide)
  have h_55 : S127 a54 = some (36, .inl ((g 0), 16, .inl (fun _ => 0))) := by rw [e_129]; exact mp_keep h_55 h_19 (by decide)
  have hp_o : S127 a63 = some (37, .inr (2, [.ref pnu, .ref ppw])) := by rw [e_129]; exact mp_keep hp_o h_19 (by decide)
  have hp_n : S127 pnu = some (38, .inl ((g 0), 3, .inl (fun _ => 0))) := by rw [e_129]; exact mp_keep hp_n h_19 (by decide)
  have hp_p : S127 ppw = some (39, .inl ((g 1), 3, .inr (.inr (.inr (.inr (rfs (fun i => ppw + 1 + i) 3)))))) := by rw [e_129]; exact mp_keep hp_p h_19 (by decide)
  have hd_o : S127 a79 = some (11, .inr (5, [.ref dra, .ref dka])) := by rw [e_129]; exact mp_keep hd_o h_19 (by decide)
  have hd_r : S127 dra = some (12, .inl ((g 0), (tr3 (9 * n + 1)), .inl (fun _ => 0))) := by rw [e_129]; exact mp_keep hd_r h_19 (by decide)
  have hd_k : S127 dka = some (13, .inl ((g 0), (tr3 (9 * n + 1)), .inl kp)) := by rw [e_129]; exact mp_keep hd_k h_19 (by decide)
  have hq_o : S127 a92 = some (14, .inr (4, [.int (nI n), .ref ky, .int 0, .ref pr, .ref lw, .ref ll, .ref mu, .ref qfa, .ref nx, .ref re, .ref rl, .ref il])) := by rw [e_129]; exact mp_keep hq_o h_19 (by decide)
  have hq_ky : S127 ky = some (15, .inl ((g 0), 16, .inl (fun _ => 0))) := by rw [e_129]; exact mp_keep hq_ky h_19 (by decide)
  have hq_pr : S127 pr = some (16, .inl ((g 1), 48, .inr (.inr (.inr (.inr (rfs (fun i => pr + 1 + i) 48)))))) := by rw [e_129]; exact mp_keep hq_pr h_19 (by decide)
  have hq_lw : S127 lw = some (17, .inl ((g 0), 16, .inl (fun _ => 0))) := by rw [e_129]; exact mp_keep hq_lw h_19 (by decide)
  have hq_ll : S127 ll = some (18, .inl ((g 0), 16, .inl (fun _ => 0))) := by rw [e_129]; exact mp_keep hq_ll h_19 (by decide)
  have hq_mu : S127 mu = some (19, .inl ((g 1), 16, .inr (.inr (.inr (.inr (rfs (fun i => mu + 1 + i) 16)))))) := by rw [e_129]; exact mp_keep hq_mu h_19 (by decide)
  have hq_qfa : S127 qfa = some (20, .inl ((g 0), 16, .inl (fun _ => 0))) := by rw [e_129]; exact mp_keep hq_qfa h_19 (by decide)
  have hq_nx : S127 nx = some (21, .inl ((g 0), 16, .inl (fun _ => 0))) := by rw [e_129]; exact mp_keep hq_nx h_19 (by decide)
  have hq_re : S127 re = some (22, .inl ((g 0), 33, .inl (fun _ => 0))) := by rw [e_129]; exact mp_keep hq_re h_19 (by decide)
  have hq_rl : S127 rl = some (23, .inr (8, [.ref rq, .ref rp, .int 0])) := by rw [e_129]; exact mp_keep hq_rl h_19 (by decide)
  have hq_rq : S127 rq = some (24, .inl ((g 1), 16, .inr (.inr (.inr (.inr (rfs (fun i => rq + 1 + i) 16)))))) := by rw [e_129]; exact mp_keep hq_rq h_19 (by decide)
  have hq_rp : S127 rp = some (25, .inl ((g 0), 16, .inl (fun _ => 0))) := by rw [e_129]; exact mp_keep hq_rp h_19 (by decide)
  have hq_il : S127 il = some (26, .inr (8, [.ref iq, .ref ip, .int 0])) := by rw [e_129]; exact mp_keep hq_il h_19 (by decide)
  have hq_iq : S127 iq = some (27, .inl ((g 1), 16, .inr (.inr (.inr (.inr (rfs (fun i => iq + 1 + i) 16)))))) := by rw [e_129]; exact mp_keep hq_iq h_19 (by decide)
  have hq_ip : S127 ip = some (28, .inl ((g 0), 16, .inl (fun _ => 0))) := by rw [e_129]; exact mp_keep hq_ip h_19 (by decide)
  have hl_o0 : S127 a105 = some (570, .inr (1, [.ref la0, .int (-1)])) := by rw [e_129]; exact mp_keep hl_o0 h_19 (by decide)
  have hl_a0 : S127 la0 = some (571, .inl ((g 0), 33, .inl (fun _ => 0))) := by rw [e_129]; exact mp_keep hl_a0 h_19 (by decide)
  have hl_o1 : S127 a121 = some (572, .inr (1, [.ref la1, .int (-1)])) := by rw [e_129]; exact mp_keep hl_o1 h_19 (by decide)
  have hl_a1 : S127 la1 = some (573, .inl ((g 0), 33, .inl (fun _ => 0))) := by rw [e_129]; exact mp_keep hl_a1 h_19 (by decide)
  have h_19 : S127 a18 = some (32, .inl ((g 3), 3, .inr (.inr (.inr (.inr (va_up (va_up (fun _ => none) (nI 0).toNatClampNeg (some a105)) (nI (0 + 1)).toNatClampNeg (some a121))))))) := by rw [e_129]; exact mp_us _ _ _
  have hzE := oS_kept hzE (S1 := S127) (fun b t9 e9 hb9 h1 h2 => by rw [e_129]; exact mp_un (mp_ne hb9 h_19_o (by omega)))
  have hR5 := rS_kept hR5 (S1 := S127) (fun b t9 e9 hb9 h1 h2 => by rw [e_129]; exact mp_un (mp_ne hb9 h_19_o (by omega)))
  have hR6 := rS_kept hR6 (S1 := S127) (fun b t9 e9 hb9 h1 h2 => by rw [e_129]; exact mp_un (mp_ne hb9 h_19_o (by omega)))
  have hR7 := rS_kept hR7 (S1 := S127) (fun b t9 e9 hb9 h1 h2 => by rw [e_129]; exact mp_un (mp_ne hb9 h_19_o (by omega)))
  have hR1 := rS_kept hR1 (S1 := S127) (fun b t9 e9 hb9 h1 h2 => by rw [e_129]; exact mp_un (mp_ne hb9 h_19_o (by omega)))
  have hR2 := rS_kept hR2 (S1 := S127) (fun b t9 e9 hb9 h1 h2 => by rw [e_129]; exact mp_un (mp_ne hb9 h_19_o (by omega)))
  have hR3 := rS_kept hR3 (S1 := S127) (fun b t9 e9 hb9 h1 h2 => by rw [e_129]; exact mp_un (mp_ne hb9 h_19_o (by omega)))
  have hR4 := rS_kept hR4 (S1 := S127) (fun b t9 e9 hb9 h1 h2 => by rw [e_129]; exact mp_un (mp_ne hb9 h_19_o (by omega)))
  have hfr : ∀ b, S b ≠ none → b ≠ o → S127 b = S b := fun b h9 k0 => by rw [e_129]; exact (mp_un (nb_a18 b h9 k0)).trans (hfr b h9 k0)
  refine lv_aload_n hx hb d_V_init_120 rfl (lv_at hl 1 rfl) ?_
  refine mp_get (C := R_V) (T := F_V) (N := 11) (v := .ref a36) hx hb hg i_V hown hK.va hI h_o rfl 6 (by decide) (hg _ q_267) (fun _ h9 => h9) rfl d_V_init_121 ?_
  refine lv_iload_n hx hb d_V_init_124 rfl (lv_at hl 0 rfl) ?_
  refine lv_iconst (v := nI 1) hx hb d_V_init_125 (by decide) ?_
  refine mp_iast hx hb hK.va hI 0 h_37 rfl (vp_in_nI (by decide) (by decide)) d_V_init_126 (fun S130 H131 locs e_132 hI => ?_)
  have e_132 : S130 = va_up S127 a36 (some (34, .inl ((g 0), 3, .inl (upd (upd (fun _ => 0) (nI 0).toNatClampNeg (nI 1)) (nI (0 + 1)).toNatClampNeg (nI 1))))) := e_132
  have h_37_o := h_37
  have h_o : S130 o = some (10, .inr (7, [.int (nI n), .ref a79, .ref a92, .ref a5, .ref a18, .ref a23, .ref a36, .ref a41, .ref a54, .int 0, .ref a63])) := by rw [e_132]; exact mp_keep h_o h_37 (by decide)
  have hz_o : S130 a5 = some (30, .inr (6, [.ref fs, .int 0, .ref on, .ref ot])) := by rw [e_132]; exact mp_keep hz_o h_37 (by decide)
  have hz_fs : S130 fs = some (31, .inl ((g 3), 16, .inr (.inr (.inr (.inr (rfs eo 16)))))) := by rw [e_132]; exact mp_keep hz_fs h_37 (by decide)
  have hz_on : S130 on = some (560, .inr (1, [.ref oa1, .int (-1)])) := by rw [e_132]; exact mp_keep hz_on h_37 (by decide)
  have hz_a1 : S130 oa1 = some (561, .inl ((g 0), 33, .inl (fun _ => 0))) := by rw [e_132]; exact mp_keep hz_a1 h_37 (by decide)
  have hz_ot : S130 ot = some (562, .inr (1, [.ref oa2, .int (-1)])) := by rw [e_132]; exact mp_keep hz_ot h_37 (by decide)
  have hz_a2 : S130 oa2 = some (563, .inl ((g 0), 33, .inl (fun _ => 0))) := by rw [e_132]; exact mp_keep hz_a2 h_37 (by decide)
  have h_19 : S130 a18 = some (32, .inl ((g 3), 3, .inr (.inr (.inr (.inr (va_up (va_up (fun _ => none) (nI 0).toNatClampNeg (some a105)) (nI (0 + 1)).toNatClampNeg (some a121))))))) := by rw [e_132]; exact mp_keep h_19 h_37 (by decide)
  have h_27 : S130 a23 = some (33, .inl ((g 1), 3, .inr (.inr (.inr (.inr (rfs (fun i => a23 + 1 + i) 3)))))) := by rw [e_132]; exact mp_keep h_27 h_37 (by decide)
  have h_45 : S130 a41 = some (35, .inl ((g 1), 16, .inr (.inr (.inr (.inr (rfs (fun i => a41 + 1 + i) 16)))))) := by rw [e_132]; exact mp_keep h_45 h_37 (by decide)
  have h_55 : S130 a54 = some (36, .inl ((g 0), 16, .inl (fun _ => 0))) := by rw [e_132]; exact mp_keep h_55 h_37 (by decide)
  have hp_o : S130 a63 = some (37, .inr (2, [.ref pnu, .ref ppw])) := by rw [e_132]; exact mp_keep hp_o h_37 (by decide)
  have hp_n : S130 pnu = some (38, .inl ((g 0), 3, .inl (fun _ => 0))) := by rw [e_132]; exact mp_keep hp_n h_37 (by decide)
  have hp_p : S130 ppw = some (39, .inl ((g 1), 3, .inr (.inr (.inr (.inr (rfs (fun i => ppw + 1 + i) 3)))))) := by rw [e_132]; exact mp_keep hp_p h_37 (by decide)
  have hd_o : S130 a79 = some (11, .inr (5, [.ref dra, .ref dka])) := by rw [e_132]; exact mp_keep hd_o h_37 (by decide)
  have hd_r : S130 dra = some (12, .inl ((g 0), (tr3 (9 * n + 1)), .inl (fun _ => 0))) := by rw [e_132]; exact mp_keep hd_r h_37 (by decide)
  have hd_k : S130 dka = some (13, .inl ((g 0), (tr3 (9 * n + 1)), .inl kp)) := by rw [e_132]; exact mp_keep hd_k h_37 (by decide)
  have hq_o : S130 a92 = some (14, .inr (4, [.int (nI n), .ref ky, .int 0, .ref pr, .ref lw, .ref ll, .ref mu, .ref qfa, .ref nx, .ref re, .ref rl, .ref il])) := by rw [e_132]; exact mp_keep hq_o h_37 (by decide)
  have hq_ky : S130 ky = some (15, .inl ((g 0), 16, .inl (fun _ => 0))) := by rw [e_132]; exact mp_keep hq_ky h_37 (by decide)
  have hq_pr : S130 pr = some (16, .inl ((g 1), 48, .inr (.inr (.inr (.inr (rfs (fun i => pr + 1 + i) 48)))))) := by rw [e_132]; exact mp_keep hq_pr h_37 (by decide)
  have hq_lw : S130 lw = some (17, .inl ((g 0), 16, .inl (fun _ => 0))) := by rw [e_132]; exact mp_keep hq_lw h_37 (by decide)
  have hq_ll : S130 ll = some (18, .inl ((g 0), 16, .inl (fun _ => 0))) := by rw [e_132]; exact mp_keep hq_ll h_37 (by decide)
  have hq_mu : S130 mu = some (19, .inl ((g 1), 16, .inr (.inr (.inr (.inr (rfs (fun i => mu + 1 + i) 16)))))) := by rw [e_132]; exact mp_keep hq_mu h_37 (by decide)
  have hq_qfa : S130 qfa = some (20, .inl ((g 0), 16, .inl (fun _ => 0))) := by rw [e_132]; exact mp_keep hq_qfa h_37 (by decide)
  have hq_nx : S130 nx = some (21, .inl ((g 0), 16, .inl (fun _ => 0))) := by rw [e_132]; exact mp_keep hq_nx h_37 (by decide)
  have hq_re : S130 re = some (22, .inl ((g 0), 33, .inl (fun _ => 0))) := by rw [e_132]; exact mp_keep hq_re h_37 (by decide)
  have hq_rl : S130 rl = some (23, .inr (8, [.ref rq, .ref rp, .int 0])) := by rw [e_132]; exact mp_keep hq_rl h_37 (by decide)
  have hq_rq : S130 rq = some (24, .inl ((g 1), 16, .inr (.inr (.inr (.inr (rfs (fun i => rq + 1 + i) 16)))))) := by rw [e_132]; exact mp_keep hq_rq h_37 (by decide)
  have hq_rp : S130 rp = some (25, .inl ((g 0), 16, .inl (fun _ => 0))) := by rw [e_132]; exact mp_keep hq_rp h_37 (by decide)
  have hq_il : S130 il = some (26, .inr (8, [.ref iq, .ref ip, .int 0])) := by rw [e_132]; exact mp_keep hq_il h_37 (by decide)
  have hq_iq : S130 iq = some (27, .inl ((g 1), 16, .inr (.inr (.inr (.inr (rfs (fun i => iq + 1 + i) 16)))))) := by rw [e_132]; exact mp_keep hq_iq h_37 (by decide)
  have hq_ip : S130 ip = some (28, .inl ((g 0), 16, .inl (fun _ => 0))) := by rw [e_132]; exact mp_keep hq_ip h_37 (by decide)
  have hl_o0 : S130 a105 = some (570, .inr (1, [.ref la0, .int (-1)])) := by rw [e_132]; exact mp_keep hl_o0 h_37 (by decide)
  have hl_a0 : S130 la0 = some (571, .inl ((g 0), 33, .inl (fun _ => 0))) := by rw [e_132]; exact mp_keep hl_a0 h_37 (by decide)
  have hl_o1 : S130 a121 = some (572, .inr (1, [.ref la1, .int (-1)])) := by rw [e_132]; exact mp_keep hl_o1 h_37 (by decide)
  have hl_a1 : S130 la1 = some (573, .inl ((g 0), 33, .inl (fun _ => 0))) := by rw [e_132]; exact mp_keep hl_a1 h_37 (by decide)
  have h_37 : S130 a36 = some (34, .inl ((g 0), 3, .inl (upd (upd (fun _ => 0) (nI 0).toNatClampNeg (nI 1)) (nI (0 + 1)).toNatClampNeg (nI 1)))) := by rw [e_132]; exact mp_us _ _ _
  have hzE := oS_kept hzE (S1 := S130) (fun b t9 e9 hb9 h1 h2 => by rw [e_132]; exact mp_un (mp_ne hb9 h_37_o (by omega)))
  have hR5 := rS_kept hR5 (S1 := S130) (fun b t9 e9 hb9 h1 h2 => by rw [e_132]; exact mp_un (mp_ne hb9 h_37_o (by omega)))
  have hR6 := rS_kept hR6 (S1 := S130) (fun b t9 e9 hb9 h1 h2 => by rw [e_132]; exact mp_un (mp_ne hb9 h_37_o (by omega)))
  have hR7 := rS_kept hR7 (S1 := S130) (fun b t9 e9 hb9 h1 h2 => by rw [e_132]; exact mp_un (mp_ne hb9 h_37_o (by omega)))
  have hR1 := rS_kept hR1 (S1 := S130) (fun b t9 e9 hb9 h1 h2 => by rw [e_132]; exact mp_un (mp_ne hb9 h_37_o (by omega)))
  have hR2 := rS_kept hR2 (S1 := S130) (fun b t9 e9 hb9 h1 h2 => by rw [e_132]; exact mp_un (mp_ne hb9 h_37_o (by omega)))
  have hR3 := rS_kept hR3 (S1 := S130) (fun b t9 e9 hb9 h1 h2 => by rw [e_132]; exact mp_un (mp_ne hb9 h_37_o (by omega)))
  have hR4 := rS_kept hR4 (S1 := S130) (fun b t9 e9 hb9 h1 h2 => by rw [e_132]; exact mp_un (mp_ne hb9 h_37_o (by omega)))
  have hfr : ∀ b, S b ≠ none → b ≠ o → S130 b = S b := fun b h9 k0 => by rw [e_132]; exact (mp_un (nb_a36 b h9 k0)).trans (hfr b h9 k0)
  refine lv_iinc (v := nI ((0 + 1) + 1)) (lv' := [(2, .int (nI ((0 + 1) + 1))), (0, .ref o), (1, .int (nI n))]) hx hb d_V_init_127 hl (k := 0) rfl (nI_1 _) (by decide) rfl (fun ls hl => ?_)
  refine lv_goto (tgt := 102) hx hb d_V_init_130 (by decide) ?_
  refine lv_iload_n hx hb d_V_init_102 rfl (lv_at hl 0 rfl) ?_
  refine lv_iconst (v := nI 3) hx hb d_V_init_103 (by decide) ?_
  refine lv_icmp_ge (tgt := 133) hx hb d_V_init_104 (by decide) (fun h9 => absurd h9 (by decide)) (fun _ => ?_)
  refine lv_aload_n hx hb d_V_init_107 rfl (lv_at hl 1 rfl) ?_
  refine mp_get (C := R_V) (T := F_V) (N := 11) (v := .ref a18) hx hb hg i_V hown hK.va hI h_o rfl 4 (by decide) (hg _ q_264) (fun _ h9 => h9) rfl d_V_init_108 ?_
  refine lv_iload_n hx hb d_V_init_111 rfl (lv_at hl 0 rfl) ?_
  have hI0 := hI
  refine mp_new (C := R_O) (T := F_O) (N := 2) (ci := 1) (fs := [.null, .int 0]) hx hb hg i_O t_O t_O_ok hown (hg _ q_158) (hg _ q_131) (hg _ q_18) hK.va hI 574 rfl (fun j hj => by rcases (show j = 0 ∨ j = 1 by omega) with rfl | rfl <;> rfl) (Nat.le_of_ble_eq_true rfl) (Nat.le_of_ble_eq_true rfl) d_V_init_112 (fun S133 H134 z_136 e_135 hI => ?_)
  obtain ⟨a137, ea137⟩ : ∃ z, z = H131.size := ⟨_, rfl⟩
  have g_a137 : s.heap.size ≤ a137 := by rw [ea137]; exact hI0.2.2.1.1
  rw [← ea137] at z_136 e_135
  refine W.eq (g2 := F0 m 115 ls [.ref a137, .int (nI ((0 + 1) + 1)), .ref a18]) (by rw [ea137]) ?_
  have h_o : S133 o = some (10, .inr (7, [.int (nI n), .ref a79, .ref a92, .ref a5, .ref a18, .ref a23, .ref a36, .ref a41, .ref a54, .int 0, .ref a63])) := by rw [e_135]; exact mp_keepN h_o z_136
  have hz_o : S133 a5 = some (30, .inr (6, [.ref fs, .int 0, .ref on, .ref ot])) := by rw [e_135]; exact mp_keepN hz_o z_136
  have hz_fs : S133 fs = some (31, .inl ((g 3), 16, .inr (.inr (.inr (.inr (rfs eo 16)))))) := by rw [e_135]; exact mp_keepN hz_fs z_136
  have hz_on : S133 on = some (560, .inr (1, [.ref oa1, .int (-1)])) := by rw [e_135]; exact mp_keepN hz_on z_136
  have hz_a1 : S133 oa1 = some (561, .inl ((g 0), 33, .inl (fun _ => 0))) := by rw [e_135]; exact mp_keepN hz_a1 z_136
  have hz_ot : S133 ot = some (562, .inr (1, [.ref oa2, .int (-1)])) := by rw [e_135]; exact mp_keepN hz_ot z_136
  have hz_a2 : S133 oa2 = some (563, .inl ((g 0), 33, .inl (fun _ => 0))) := by rw [e_135]; exact mp_keepN hz_a2 z_136
  have h_19 : S133 a18 = some (32, .inl ((g 3), 3, .inr (.inr (.inr (.inr (va_up (va_up (fun _ => none) (nI 0).toNatClampNeg (some a105)) (nI (0 + 1)).toNatClampNeg (some a121))))))) := by rw [e_135]; exact mp_keepN h_19 z_136
  have h_27 : S133 a23 = some (33, .inl ((g 1), 3, .inr (.inr (.inr (.inr (rfs (fun i => a23 + 1 + i) 3)))))) := by rw [e_135]; exact mp_keepN h_27 z_136
  have h_37 : S133 a36 = some (34, .inl ((g 0), 3, .inl (upd (upd (fun _ => 0) (nI 0).toNatClampNeg (nI 1)) (nI (0 + 1)).toNatClampNeg (nI 1)))) := by rw [e_135]; exact mp_keepN h_37 z_136
  have h_45 : S133 a41 = some (35, .inl ((g 1), 16, .inr (.inr (.inr (.inr (rfs (fun i => a41 + 1 + i) 16)))))) := by rw [e_135]; exact mp_keepN h_45 z_136
  have h_55 : S133 a54 = some (36, .inl ((g 0), 16, .inl (fun _ => 0))) := by rw [e_135]; exact mp_keepN h_55 z_136
  have hp_o : S133 a63 = some (37, .inr (2, [.ref pnu, .ref ppw])) := by rw [e_135]; exact mp_keepN hp_o z_136
  have hp_n : S133 pnu = some (38, .inl ((g 0), 3, .inl (fun _ => 0))) := by rw [e_135]; exact mp_keepN hp_n z_136
  have hp_p : S133 ppw = some (39, .inl ((g 1), 3, .inr (.inr (.inr (.inr (rfs (fun i => ppw + 1 + i) 3)))))) := by rw [e_135]; exact mp_keepN hp_p z_136
  have hd_o : S133 a79 = some (11, .inr (5, [.ref dra, .ref dka])) := by rw [e_135]; exact mp_keepN hd_o z_136
  have hd_r : S133 dra = some (12, .inl ((g 0), (tr3 (9 * n + 1)), .inl (fun _ => 0))) := by rw [e_135]; exact mp_keepN hd_r z_136
  have hd_k : S133 dka = some (13, .inl ((g 0), (tr3 (9 * n + 1)), .inl kp)) := by rw [e_135]; exact mp_keepN hd_k z_136
  have hq_o : S133 a92 = some (14, .inr (4, [.int (nI n), .ref ky, .int 0, .ref pr, .ref lw, .ref ll, .ref mu, .ref qfa, .ref nx, .ref re, .ref rl, .ref il])) := by rw [e_135]; exact mp_keepN hq_o z_136
  have hq_ky : S133 ky = some (15, .inl ((g 0), 16, .inl (fun _ => 0))) := by rw [e_135]; exact mp_keepN hq_ky z_136
  have hq_pr : S133 pr = some (16, .inl ((g 1), 48, .inr (.inr (.inr (.inr (rfs (fun i => pr + 1 + i) 48)))))) := by rw [e_135]; exact mp_keepN hq_pr z_136
  have hq_lw : S133 lw = some (17, .inl ((g 0), 16, .inl (fun _ => 0))) := by rw [e_135]; exact mp_keepN hq_lw z_136
  have hq_ll : S133 ll = some (18, .inl ((g 0), 16, .inl (fun _ => 0))) := by rw [e_135]; exact mp_keepN hq_ll z_136
  have hq_mu : S133 mu = some (19, .inl ((g 1), 16, .inr (.inr (.inr (.inr (rfs (fun i => mu + 1 + i) 16)))))) := by rw [e_135]; exact mp_keepN hq_mu z_136
  have hq_qfa : S133 qfa = some (20, .inl ((g 0), 16, .inl (fun _ => 0))) := by rw [e_135]; exact mp_keepN hq_qfa z_136
  have hq_nx : S133 nx = some (21, .inl ((g 0), 16, .inl (fun _ => 0))) := by rw [e_135]; exact mp_keepN hq_nx z_136
  have hq_re : S133 re = some (22, .inl ((g 0), 33, .inl (fun _ => 0))) := by rw [e_135]; exact mp_keepN hq_re z_136
  have hq_rl : S133 rl = some (23, .inr (8, [.ref rq, .ref rp, .int 0])) := by rw [e_135]; exact mp_keepN hq_rl z_136
  have hq_rq : S133 rq = some (24, .inl ((g 1), 16, .inr (.inr (.inr (.inr (rfs (fun i => rq + 1 + i) 16)))))) := by rw [e_135]; exact mp_keepN hq_rq z_136
  have hq_rp : S133 rp = some (25, .inl ((g 0), 16, .inl (fun _ => 0))) := by rw [e_135]; exact mp_keepN hq_rp z_136
  have hq_il : S133 il = some (26, .inr (8, [.ref iq, .ref ip, .int 0])) := by rw [e_135]; exact mp_keepN hq_il z_136
  have hq_iq : S133 iq = some (27, .inl ((g 1), 16, .inr (.inr (.inr (.inr (rfs (fun i => iq + 1 + i) 16)))))) := by rw [e_135]; exact mp_keepN hq_iq z_136
  have hq_ip : S133 ip = some (28, .inl ((g 0), 16, .inl (fun _ => 0))) := by rw [e_135]; exact mp_keepN hq_ip z_136
  have hl_o0 : S133 a105 = some (570, .inr (1, [.ref la0, .int (-1)])) := by rw [e_135]; exact mp_keepN hl_o0 z_136
  have hl_a0 : S133 la0 = some (571, .inl ((g 0), 33, .inl (fun _ => 0))) := by rw [e_135]; exact mp_keepN hl_a0 z_136
  have hl_o1 : S133 a121 = some (572, .inr (1, [.ref la1, .int (-1)])) := by rw [e_135]; exact mp_keepN hl_o1 z_136
  have hl_a1 : S133 la1 = some (573, .inl ((g 0), 33, .inl (fun _ => 0))) := by rw [e_135]; exact mp_keepN hl_a1 z_136
  have h_138 : S133 a137 = some (574, .inr (1, [.null, .int 0])) := by rw [e_135]; exact mp_us _ _ _
  have hzE := oS_kept hzE (S1 := S133) (fun b t9 e9 hb9 h1 h2 => by rw [e_135]; exact mp_un (fun z9 => by rw [z9, z_136] at hb9; cases hb9))
  have hR5 := rS_kept hR5 (S1 := S133) (fun b t9 e9 hb9 h1 h2 => by rw [e_135]; exact mp_un (fun z9 => by rw [z9, z_136] at hb9; cases hb9))
  have hR6 := rS_kept hR6 (S1 := S133) (fun b t9 e9 hb9 h1 h2 => by rw [e_135]; exact mp_un (fun z9 => by rw [z9, z_136] at hb9; cases hb9))
  have hR7 := rS_kept hR7 (S1 := S133) (fun b t9 e9 hb9 h1 h2 => by rw [e_135]; exact mp_un (fun z9 => by rw [z9, z_136] at hb9; cases hb9))
  have hR1 := rS_kept hR1 (S1 := S133) (fun b t9 e9 hb9 h1 h2 => by rw [e_135]; exact mp_un (fun z9 => by rw [z9, z_136] at hb9; cases hb9))
  have hR2 := rS_kept hR2 (S1 := S133) (fun b t9 e9 hb9 h1 h2 => by rw [e_135]; exact mp_un (fun z9 => by rw [z9, z_136] at hb9; cases hb9))
  have hR3 := rS_kept hR3 (S1 := S133) (fun b t9 e9 hb9 h1 h2 => by rw [e_135]; exact mp_un (fun z9 => by rw [z9, z_136] at hb9; cases hb9))
  have hR4 := rS_kept hR4 (S1 := S133) (fun b t9 e9 hb9 h1 h2 => by rw [e_135]; exact mp_un (fun z9 => by rw [z9, z_136] at hb9; cases hb9))
  have nb_a137 : ∀ b, S b ≠ none → b ≠ o → b ≠ a137 := fun b h9 k0 z9 => h9 ((hfr b h9 k0).symm.trans (by rw [z9]; exact z_136))
  have hfr : ∀ b, S b ≠ none → b ≠ o → S133 b = S b := fun b h9 k0 => by rw [e_135]; exact (mp_un (nb_a137 b h9 k0)).trans (hfr b h9 k0)
  refine lv_dup hx hb d_V_init_115 rfl ?_
  refine mp_callv hI (va_runIN (As := []) (rest := [.ref a137, .int (nI ((0 + 1) + 1)), .ref a18]) ⟨hx, hb, hml, hown, hg⟩ (c_O_init l D g S133 _ a137 574 575 h_138 (by decide)) ⟨(va_cnB 0 hg (wd_goodG q_134) rfl rfl rfl (hK.nw q_258 rfl) (hg _ q_18) (by decide +kernel) ⟨Nat.le_of_ble_eq_true rfl, Nat.le_of_ble_eq_true rfl⟩), rfl, hg _ q_133⟩ (mp_pre hI hK ([.ref a137])) rfl rfl hl.1 rfl (lv_room (Nat.le_of_ble_eq_true rfl)) d_V_init_116 ⟨Nat.le_of_ble_eq_true rfl, Nat.le_of_ble_eq_true rfl⟩) (fun S139 H140 locs p_141 hI => ?_)
  obtain ⟨la2, gla2, hl_o2, hl_a2, fl2⟩ := p_141
  have h_o : S139 o = some (10, .inr (7, [.int (nI n), .ref a79, .ref a92, .ref a5, .ref a18, .ref a23, .ref a36, .ref a41, .ref a54, .int 0, .ref a63])) := (fl2 o (mp_in h_o) (mp_ne h_o h_138 (by decide))).trans h_o
  have hz_o : S139 a5 = some (30, .inr (6, [.ref fs, .int 0, .ref on, .ref ot])) := (fl2 a5 (mp_in hz_o) (mp_ne hz_o h_138 (by decide))).trans hz_o
  have hz_fs : S139 fs = some (31, .inl ((g 3), 16, .inr (.inr (.inr (.inr (rfs eo 16)))))) := (fl2 fs (mp_in hz_fs) (mp_ne hz_fs h_138 (by decide))).trans hz_fs
  have hz_on : S139 on = some (560, .inr (1, [.ref oa1, .int (-1)])) := (fl2 on (mp_in hz_on) (mp_ne hz_on h_138 (by decide))).trans hz_on
  have hz_a1 : S139 oa1 = some (561, .inl ((g 0), 33, .inl (fun _ => 0))) := (fl2 oa1 (mp_in hz_a1) (mp_ne hz_a1 h_138 (by decide))).trans hz_a1
  have hz_ot : S139 ot = some (562, .inr (1, [.ref oa2, .int (-1)])) := (fl2 ot (mp_in hz_ot) (mp_ne hz_ot h_138 (by decide))).trans hz_ot
  have hz_a2 : S139 oa2 = some (563, .inl ((g 0), 33, .inl (fun _ => 0))) := (fl2 oa2 (mp_in hz_a2) (mp_ne hz_a2 h_138 (by decide))).trans hz_a2
  have h_19 : S139 a18 = some (32, .inl ((g 3), 3, .inr (.inr (.inr (.inr (va_up (va_up (fun _ => none) (nI 0).toNatClampNeg (some a105)) (nI (0 + 1)).toNatClampNeg (some a121))))))) := (fl2 a18 (mp_in h_19) (mp_ne h_19 h_138 (by decide))).trans h_19
  have h_27 : S139 a23 = some (33, .inl ((g 1), 3, .inr (.inr (.inr (.inr (rfs (fun i => a23 + 1 + i) 3)))))) := (fl2 a23 (mp_in h_27) (mp_ne h_27 h_138 (by decide))).trans h_27
  have h_37 : S139 a36 = some (34, .inl ((g 0), 3, .inl (upd (upd (fun _ => 0) (nI 0).toNatClampNeg (nI 1)) (nI (0 + 1)).toNatClampNeg (nI 1)))) := (fl2 a36 (mp_in h_37) (mp_ne h_37 h_138 (by decide))).trans h_37
  have h_45 : S139 a41 = some (35, .inl ((g 1), 16, .inr (.inr (.inr (.inr (rfs (fun i => a41 + 1 + i) 16)))))) := (fl2 a41 (mp_in h_45) (mp_ne h_45 h_138 (by decide))).trans h_45
  have h_55 : S139 a54 = some (36, .inl ((g 0), 16, .inl (fun _ => 0))) := (fl2 a54 (mp_in h_55) (mp_ne h_55 h_138 (by decide))).trans h_55
  have hp_o : S139 a63 = some (37, .inr (2, [.ref pnu, .ref ppw])) := (fl2 a63 (mp_in hp_o) (mp_ne hp_o h_138 (by decide))).trans hp_o
  have hp_n : S139 pnu = some (38, .inl ((g 0), 3, .inl (fun _ => 0))) := (fl2 pnu (mp_in hp_n) (mp_ne hp_n h_138 (by decide))).trans hp_n
  have hp_p : S139 ppw = some (39, .inl ((g 1), 3, .inr (.inr (.inr (.inr (rfs (fun i => ppw + 1 + i) 3)))))) := (fl2 ppw (mp_in hp_p) (mp_ne hp_p h_138 (by decide))).trans hp_p
  have hd_o : S139 a79 = some (11, .inr (5, [.ref dra, .ref dka])) := (fl2 a79 (mp_in hd_o) (mp_ne hd_o h_138 (by decide))).trans hd_o
  have hd_r : S139 dra = some (12, .inl ((g 0), (tr3 (9 * n + 1)), .inl (fun _ => 0))) := (fl2 dra (mp_in hd_r) (mp_ne hd_r h_138 (by decide))).trans hd_r
  have hd_k : S139 dka = some (13, .inl ((g 0), (tr3 (9 * n + 1)), .inl kp)) := (fl2 dka (mp_in hd_k) (mp_ne hd_k h_138 (by decide))).trans hd_k
  have hq_o : S139 a92 = some (14, .inr (4, [.int (nI n), .ref ky, .int 0, .ref pr, .ref lw, .ref ll, .ref mu, .ref qfa, .ref nx, .ref re, .ref rl, .ref il])) := (fl2 a92 (mp_in hq_o) (mp_ne hq_o h_138 (by decide))).trans hq_o
  have hq_ky : S139 ky = some (15, .inl ((g 0), 16, .inl (fun _ => 0))) := (fl2 ky (mp_in hq_ky) (mp_ne hq_ky h_138 (by decide))).trans hq_ky
  have hq_pr : S139 pr = some (16, .inl ((g 1), 48, .inr (.inr (.inr (.inr (rfs (fun i => pr + 1 + i) 48)))))) := (fl2 pr (mp_in hq_pr) (mp_ne hq_pr h_138 (by decide))).trans hq_pr
  have hq_lw : S139 lw = some (17, .inl ((g 0), 16, .inl (fun _ => 0))) := (fl2 lw (mp_in hq_lw) (mp_ne hq_lw h_138 (by decide))).trans hq_lw
  have hq_ll : S139 ll = some (18, .inl ((g 0), 16, .inl (fun _ => 0))) := (fl2 ll (mp_in hq_ll) (mp_ne hq_ll h_138 (by decide))).trans hq_ll
  have hq_mu : S139 mu = some (19, .inl ((g 1), 16, .inr (.inr (.inr (.inr (rfs (fun i => mu + 1 + i) 16)))))) := (fl2 mu (mp_in hq_mu) (mp_ne hq_mu h_138 (by decide))).trans hq_mu
  have hq_qfa : S139 qfa = some (20, .inl ((g 0), 16, .inl (fun _ => 0))) := (fl2 qfa (mp_in hq_qfa) (mp_ne hq_qfa h_138 (by decide))).trans hq_qfa
  have hq_nx : S139 nx = some (21, .inl ((g 0), 16, .inl (fun _ => 0))) := (fl2 nx (mp_in hq_nx) (mp_ne hq_nx h_138 (by decide))).trans hq_nx
  have hq_re : S139 re = some (22, .inl ((g 0), 33, .inl (fun _ => 0))) := (fl2 re (mp_in hq_re) (mp_ne hq_re h_138 (by decide))).trans hq_re
  have hq_rl : S139 rl = some (23, .inr (8, [.ref rq, .ref rp, .int 0])) := (fl2 rl (mp_in hq_rl) (mp_ne hq_rl h_138 (by decide))).trans hq_rl
  have hq_rq : S139 rq = some (24, .inl ((g 1), 16, .inr (.inr (.inr (.inr (rfs (fun i => rq + 1 + i) 16)))))) := (fl2 rq (mp_in hq_rq) (mp_ne hq_rq h_138 (by decide))).trans hq_rq
  have hq_rp : S139 rp = some (25, .inl ((g 0), 16, .inl (fun _ => 0))) := (fl2 rp (mp_in hq_rp) (mp_ne hq_rp h_138 (by decide))).trans hq_rp
  have hq_il : S139 il = some (26, .inr (8, [.ref iq, .ref ip, .int 0])) := (fl2 il (mp_in hq_il) (mp_ne hq_il h_138 (by decide))).trans hq_il
  have hq_iq : S139 iq = some (27, .inl ((g 1), 16, .inr (.inr (.inr (.inr (rfs (fun i => iq + 1 + i) 16)))))) := (fl2 iq (mp_in hq_iq) (mp_ne hq_iq h_138 (by decide))).trans hq_iq
  have hq_ip : S139 ip = some (28, .inl ((g 0), 16, .inl (fun _ => 0))) := (fl2 ip (mp_in hq_ip) (mp_ne hq_ip h_138 (by decide))).trans hq_ip
  have hl_o0 : S139 a105 = some (570, .inr (1, [.ref la0, .int (-1)])) := (fl2 a105 (mp_in hl_o0) (mp_ne hl_o0 h_138 (by decide))).trans hl_o0
  have hl_a0 : S139 la0 = some (571, .inl ((g 0), 33, .inl (fun _ => 0))) := (fl2 la0 (mp_in hl_a0) (mp_ne hl_a0 h_138 (by decide))).trans hl_a0
  have hl_o1 : S139 a121 = some (572, .inr (1, [.ref la1, .int (-1)])) := (fl2 a121 (mp_in hl_o1) (mp_ne hl_o1 h_138 (by decide))).trans hl_o1
  have hl_a1 : S139 la1 = some (573, .inl ((g 0), 33, .inl (fun _ => 0))) := (fl2 la1 (mp_in hl_a1) (mp_ne hl_a1 h_138 (by decide))).trans hl_a1
  have hfr : ∀ b, S b ≠ none → b ≠ o → S139 b = S b := fun b h9 k0 => (fl2 b (by rw [hfr b h9 k0]; exact h9) (nb_a137 b h9 k0)).trans (hfr b h9 k0)
  have hzE := oS_kept hzE (S1 := S139) (fun b t9 e9 hb9 h1 h2 => fl2 b (mp_in hb9) (mp_ne hb9 h_138 (by omega)))
  have hR5 := rS_kept hR5 (S1 := S139) (fun b t9 e9 hb9 h1 h2 => fl2 b (mp_in hb9) (mp_ne hb9 h_138 (by omega)))
  have hR6 := rS_kept hR6 (S1 := S139) (fun b t9 e9 hb9 h1 h2 => fl2 b (mp_in hb9) (mp_ne hb9 h_138 (by omega)))
  have hR7 := rS_kept hR7 (S1 := S139) (fun b t9 e9 hb9 h1 h2 => fl2 b (mp_in hb9) (mp_ne hb9 h_138 (by omega)))
  have hR1 := rS_kept hR1 (S1 := S139) (fun b t9 e9 hb9 h1 h2 => fl2 b (mp_in hb9) (mp_ne hb9 h_138 (by omega)))
  have hR2 := rS_kept hR2 (S1 := S139) (fun b t9 e9 hb9 h1 h2 => fl2 b (mp_in hb9) (mp_ne hb9 h_138 (by omega)))
  have hR3 := rS_kept hR3 (S1 := S139) (fun b t9 e9 hb9 h1 h2 => fl2 b (mp_in hb9) (mp_ne hb9 h_138 (by omega)))
  have hR4 := rS_kept hR4 (S1 := S139) (fun b t9 e9 hb9 h1 h2 => fl2 b (mp_in hb9) (mp_ne hb9 h_138 (by omega)))
  refine mp_astq (r := (R_O, F_O, 2)) hx hb hK.va hI 3 1 h_19 rfl hl_o2 rfl (vp_in_nI (by decide) (by decide)) d_V_init_119 (fun S143 H144 locs e_145 hI => ?_)
  have e_145 : S143 = va_up S139 a18 (some (32, .inl ((g 3), 3, .inr (.inr (.inr (.inr (va_up (va_up (va_up (fun _ => none) (nI 0).toNatClampNeg (some a105)) (nI (0 + 1)).toNatClampNeg (some a121)) (nI ((0 + 1) + 1)).toNatClampNeg (some a137)))))))) := e_145
  have h_19_o := h_19
  have h_o : S143 o = some (10, .inr (7, [.int (nI n), .ref a79, .ref a92, .ref a5, .ref a18, .ref a23, .ref a36, .ref a41, .ref a54, .int 0, .ref a63])) := by rw [e_145]; exact mp_keep h_o h_19 (by decide)
  have hz_o : S143 a5 = some (30, .inr (6, [.ref fs, .int 0, .ref on, .ref ot])) := by rw [e_145]; exact mp_keep hz_o h_19 (by decide)
  have hz_fs : S143 fs = some (31, .inl ((g 3), 16, .inr (.inr (.inr (.inr (rfs eo 16)))))) := by rw [e_145]; exact mp_keep hz_fs h_19 (by decide)
  have hz_on : S143 on = some (560, .inr (1, [.ref oa1, .int (-1)])) := by rw [e_145]; exact mp_keep hz_on h_19 (by decide)
  have hz_a1 : S143 oa1 = some (561, .inl ((g 0), 33, .inl (fun _ => 0))) := by rw [e_145]; exact mp_keep hz_a1 h_19 (by decide)
  have hz_ot : S143 ot = some (562, .inr (1, [.ref oa2, .int (-1)])) := by rw [e_145]; exact mp_keep hz_ot h_19 (by decide)
  have hz_a2 : S143 oa2 = some (563, .inl ((g 0), 33, .inl (fun _ => 0))) := by rw [e_145]; exact mp_keep hz_a2 h_19 (by decide)
  have h_27 : S143 a23 = some (33, .inl ((g 1), 3, .inr (.inr (.inr (.inr (rfs (fun i => a23 + 1 + i) 3)))))) := by rw [e_145]; exact mp_keep h_27 h_19 (by decide)
  have h_37 : S143 a36 = some (34, .inl ((g 0), 3, .inl (upd (upd (fun _ => 0) (nI 0).toNatClampNeg (nI 1)) (nI (0 + 1)).toNatClampNeg (nI 1)))) := by rw [e_145]; exact mp_keep h_37 h_19 (by decide)
  have h_45 : S143 a41 = some (35, .inl ((g 1), 16, .inr (.inr (.inr (.inr (rfs (fun i => a41 + 1 + i) 16)))))) := by rw [e_145]; exact mp_keep h_45 h_19 (by decide)
  have h_55 : S143 a54 = some (36, .inl ((g 0), 16, .inl (fun _ => 0))) := by rw [e_145]; exact mp_keep h_55 h_19 (by decide)
  have hp_o : S143 a63 = some (37, .inr (2, [.ref pnu, .ref ppw])) := by rw [e_145]; exact mp_keep hp_o h_19 (by decide)
  have hp_n : S143 pnu = some (38, .inl ((g 0), 3, .inl (fun _ => 0))) := by rw [e_145]; exact mp_keep hp_n h_19 (by decide)
  have hp_p : S143 ppw = some (39, .inl ((g 1), 3, .inr (.inr (.inr (.inr (rfs (fun i => ppw + 1 + i) 3)))))) := by rw [e_145]; exact mp_keep hp_p h_19 (by decide)
  have hd_o : S143 a79 = some (11, .inr (5, [.ref dra, .ref dka])) := by rw [e_145]; exact mp_keep hd_o h_19 (by decide)
  have hd_r : S143 dra = some (12, .inl ((g 0), (tr3 (9 * n + 1)), .inl (fun _ => 0))) := by rw [e_145]; exact mp_keep hd_r h_19 (by decide)
  have hd_k : S143 dka = some (13, .inl ((g 0), (tr3 (9 * n + 1)), .inl kp)) := by rw [e_145]; exact mp_keep hd_k h_19 (by decide)
  have hq_o : S143 a92 = some (14, .inr (4, [.int (nI n), .ref ky, .int 0, .ref pr, .ref lw, .ref ll, .ref mu, .ref qfa, .ref nx, .ref re, .ref rl, .ref il])) := by rw [e_145]; exact mp_keep hq_o h_19 (by decide)
  have hq_ky : S143 ky = some (15, .inl ((g 0), 16, .inl (fun _ => 0))) := by rw [e_145]; exact mp_keep hq_ky h_19 (by decide)
  have hq_pr : S143 pr = some (16, .inl ((g 1), 48, .inr (.inr (.inr (.inr (rfs (fun i => pr + 1 + i) 48)))))) := by rw [e_145]; exact mp_keep hq_pr h_19 (by decide)
  have hq_lw : S143 lw = some (17, .inl ((g 0), 16, .inl (fun _ => 0))) := by rw [e_145]; exact mp_keep hq_lw h_19 (by decide)
  have hq_ll : S143 ll = some (18, .inl ((g 0), 16, .inl (fun _ => 0))) := by rw [e_145]; exact mp_keep hq_ll h_19 (by decide)
  have hq_mu : S143 mu = some (19, .inl ((g 1), 16, .inr (.inr (.inr (.inr (rfs (fun i => mu + 1 + i) 16)))))) := by rw [e_145]; exact mp_keep hq_mu h_19 (by decide)
  have hq_qfa : S143 qfa = some (20, .inl ((g 0), 16, .inl (fun _ => 0))) := by rw [e_145]; exact mp_keep hq_qfa h_19 (by decide)
  have hq_nx : S143 nx = some (21, .inl ((g 0), 16, .inl (fun _ => 0))) := by rw [e_145]; exact mp_keep hq_nx h_19 (by decide)
  have hq_re : S143 re = some (22, .inl ((g 0), 33, .inl (fun _ => 0))) := by rw [e_145]; exact mp_keep hq_re h_19 (by decide)
  have hq_rl : S143 rl = some (23, .inr (8, [.ref rq, .ref rp, .int 0])) := by rw [e_145]; exact mp_keep hq_rl h_19 (by decide)
  have hq_rq : S143 rq = some (24, .inl ((g 1), 16, .inr (.inr (.inr (.inr (rfs (fun i => rq + 1 + i) 16)))))) := by rw [e_145]; exact mp_keep hq_rq h_19 (by decide)
  have hq_rp : S143 rp = some (25, .inl ((g 0), 16, .inl (fun _ => 0))) := by rw [e_145]; exact mp_keep hq_rp h_19 (by decide)
  have hq_il : S143 il = some (26, .inr (8, [.ref iq, .ref ip, .int 0])) := by rw [e_145]; exact mp_keep hq_il h_19 (by decide)
  have hq_iq : S143 iq = some (27, .inl ((g 1), 16, .inr (.inr (.inr (.inr (rfs (fun i => iq + 1 + i) 16)))))) := by rw [e_145]; exact mp_keep hq_iq h_19 (by decide)
  have hq_ip : S143 ip = some (28, .inl ((g 0), 16, .inl (fun _ => 0))) := by rw [e_145]; exact mp_keep hq_ip h_19 (by decide)
  have hl_o0 : S143 a105 = some (570, .inr (1, [.ref la0, .int (-1)])) := by rw [e_145]; exact mp_keep hl_o0 h_19 (by decide)
  have hl_a0 : S143 la0 = some (571, .inl ((g 0), 33, .inl (fun _ => 0))) := by rw [e_145]; exact mp_keep hl_a0 h_19 (by decide)
  have hl_o1 : S143 a121 = some (572, .inr (1, [.ref la1, .int (-1)])) := by rw [e_145]; exact mp_keep hl_o1 h_19 (by decide)
  have hl_a1 : S143 la1 = some (573, .inl ((g 0), 33, .inl (fun _ => 0))) := by rw [e_145]; exact mp_keep hl_a1 h_19 (by decide)
  have hl_o2 : S143 a137 = some (574, .inr (1, [.ref la2, .int (-1)])) := by rw [e_145]; exact mp_keep hl_o2 h_19 (by decide)
  have hl_a2 : S143 la2 = some (575, .inl ((g 0), 33, .inl (fun _ => 0))) := by rw [e_145]; exact mp_keep hl_a2 h_19 (by decide)
  have h_19 : S143 a18 = some (32, .inl ((g 3), 3, .inr (.inr (.inr (.inr (va_up (va_up (va_up (fun _ => none) (nI 0).toNatClampNeg (some a105)) (nI (0 + 1)).toNatClampNeg (some a121)) (nI ((0 + 1) + 1)).toNatClampNeg (some a137))))))) := by rw [e_145]; exact mp_us _ _ _
  have hzE := oS_kept hzE (S1 := S143) (fun b t9 e9 hb9 h1 h2 => by rw [e_145]; exact mp_un (mp_ne hb9 h_19_o (by omega)))
  have hR5 := rS_kept hR5 (S1 := S143) (fun b t9 e9 hb9 h1 h2 => by rw [e_145]; exact mp_un (mp_ne hb9 h_19_o (by omega)))
  have hR6 := rS_kept hR6 (S1 := S143) (fun b t9 e9 hb9 h1 h2 => by rw [e_145]; exact mp_un (mp_ne hb9 h_19_o (by omega)))
  have hR7 := rS_kept hR7 (S1 := S143) (fun b t9 e9 hb9 h1 h2 => by rw [e_145]; exact mp_un (mp_ne hb9 h_19_o (by omega)))
  have hR1 := rS_kept hR1 (S1 := S143) (fun b t9 e9 hb9 h1 h2 => by rw [e_145]; exact mp_un (mp_ne hb9 h_19_o (by omega)))
  have hR2 := rS_kept hR2 (S1 := S143) (fun b t9 e9 hb9 h1 h2 => by rw [e_145]; exact mp_un (mp_ne hb9 h_19_o (by omega)))
  have hR3 := rS_kept hR3 (S1 := S143) (fun b t9 e9 hb9 h1 h2 => by rw [e_145]; exact mp_un (mp_ne hb9 h_19_o (by omega)))
  have hR4 := rS_kept hR4 (S1 := S143) (fun b t9 e9 hb9 h1 h2 => by rw [e_145]; exact mp_un (mp_ne hb9 h_19_o (by omega)))
  have hfr : ∀ b, S b ≠ none → b ≠ o → S143 b = S b := fun b h9 k0 => by rw [e_145]; exact (mp_un (nb_a18 b h9 k0)).trans (hfr b h9 k0)
  refine lv_aload_n hx hb d_V_init_120 rfl (lv_at hl 1 rfl) ?_
  refine mp_get (C := R_V) (T := F_V) (N := 11) (v := .ref a36) hx hb hg i_V hown hK.va hI h_o rfl 6 (by decide) (hg _ q_267) (fun _ h9 => h9) rfl d_V_init_121 ?_
  refine lv_iload_n hx hb d_V_init_124 rfl (lv_at hl 0 rfl) ?_
  refine lv_iconst (v := nI 1) hx hb d_V_init_125 (by decide) ?_
  refine mp_iast hx hb hK.va hI 0 h_37 rfl (vp_in_nI (by decide) (by decide)) d_V_init_126 (fun S146 H147 locs e_148 hI => ?_)
  have e_148 : S146 = va_up S143 a36 (some (34, .inl ((g 0), 3, .inl (upd (upd (upd (fun _ => 0) (nI 0).toNatClampNeg (nI 1)) (nI (0 + 1)).toNatClampNeg (nI 1)) (nI ((0 + 1) + 1)).toNatClampNeg (nI 1))))) := e_148
  have h_37_o := h_37
  have h_o : S146 o = some (10, .inr (7, [.int (nI n), .ref a79, .ref a92, .ref a5, .ref a18, .ref a23, .ref a36, .ref a41, .ref a54, .int 0, .ref a63])) := by rw [e_148]; exact mp_keep h_o h_37 (by decide)
  have hz_o : S146 a5 = some (30, .inr (6, [.ref fs, .int 0, .ref on, .ref ot])) := by rw [e_148]; exact mp_keep hz_o h_37 (by decide)
  have hz_fs : S146 fs = some (31, .inl ((g 3), 16, .inr (.inr (.inr (.inr (rfs eo 16)))))) := by rw [e_148]; exact mp_keep hz_fs h_37 (by decide)
  have hz_on : S146 on = some (560, .inr (1, [.ref oa1, .int (-1)])) := by rw [e_148]; exact mp_keep hz_on h_37 (by decide)
  have hz_a1 : S146 oa1 = some (561, .inl ((g 0), 33, .inl (fun _ => 0))) := by rw [e_148]; exact mp_keep hz_a1 h_37 (by decide)
  have hz_ot : S146 ot = some (562, .inr (1, [.ref oa2, .int (-1)])) := by rw [e_148]; exact mp_keep hz_ot h_37 (by decide)
  have hz_a2 : S146 oa2 = some (563, .inl ((g 0), 33, .inl (fun _ => 0))) := by rw [e_148]; exact mp_keep hz_a2 h_37 (by decide)
  have h_19 : S146 a18 = some (32, .inl ((g 3), 3, .inr (.inr (.inr (.inr (va_up (va_up (va_up (fun _ => none) (nI 0).toNatClampNeg (some a105)) (nI (0 + 1)).toNatClampNeg (some a121)) (nI ((0 + 1) + 1)).toNatClampNeg (some a137))))))) := by rw [e_148]; exact mp_keep h_19 h_37 (by decide)
  have h_27 : S146 a23 = some (33, .inl ((g 1), 3, .inr (.inr (.inr (.inr (rfs (fun i => a23 + 1 + i) 3)))))) := by rw [e_148]; exact mp_keep h_27 h_37 (by decide)
  have h_45 : S146 a41 = some (35, .inl ((g 1), 16, .inr (.inr (.inr (.inr (rfs (fun i => a41 + 1 + i) 16)))))) := by rw [e_148]; exact mp_keep h_45 h_37 (by decide)
  have h_55 : S146 a54 = some (36, .inl ((g 0), 16, .inl (fun _ => 0))) := by rw [e_148]; exact mp_keep h_55 h_37 (by decide)
  have hp_o : S146 a63 = some (37, .inr (2, [.ref pnu, .ref ppw])) := by rw [e_148]; exact mp_keep hp_o h_37 (by decide)
  have hp_n : S146 pnu = some (38, .inl ((g 0), 3, .inl (fun _ => 0))) := by rw [e_148]; exact mp_keep hp_n h_37 (by decide)
  have hp_p : S146 ppw = some (39, .inl ((g 1), 3, .inr (.inr (.inr (.inr (rfs (fun i => ppw + 1 + i) 3)))))) := by rw [e_148]; exact mp_keep hp_p h_37 (by decide)
  have hd_o : S146 a79 = some (11, .inr (5, [.ref dra, .ref dka])) := by rw [e_148]; exact mp_keep hd_o h_37 (by decide)
  have hd_r : S146 dra = some (12, .inl ((g 0), (tr3 (9 * n + 1)), .inl (fun _ => 0))) := by rw [e_148]; exact mp_keep hd_r h_37 (by decide)
  have hd_k : S146 dka = some (13, .inl ((g 0), (tr3 (9 * n + 1)), .inl kp)) := by rw [e_148]; exact mp_keep hd_k h_37 (by decide)
  have hq_o : S146 a92 = some (14, .inr (4, [.int (nI n), .ref ky, .int 0, .ref pr, .ref lw, .ref ll, .ref mu, .ref qfa, .ref nx, .ref re, .ref rl, .ref il])) := by rw [e_148]; exact mp_keep hq_o h_37 (by decide)
  have hq_ky : S146 ky = some (15, .inl ((g 0), 16, .inl (fun _ => 0))) := by rw [e_148]; exact mp_keep hq_ky h_37 (by decide)
  have hq_pr : S146 pr = some (16, .inl ((g 1), 48, .inr (.inr (.inr (.inr (rfs (fun i => pr + 1 + i) 48)))))) := by rw [e_148]; exact mp_keep hq_pr h_37 (by decide)
  have hq_lw : S146 lw = some (17, .inl ((g 0), 16, .inl (fun _ => 0))) := by rw [e_148]; exact mp_keep hq_lw h_37 (by decide)
  have hq_ll : S146 ll = some (18, .inl ((g 0), 16, .inl (fun _ => 0))) := by rw [e_148]; exact mp_keep hq_ll h_37 (by decide)
  have hq_mu : S146 mu = some (19, .inl ((g 1), 16, .inr (.inr (.inr (.inr (rfs (fun i => mu + 1 + i) 16)))))) := by rw [e_148]; exact mp_keep hq_mu h_37 (by decide)
  have hq_qfa : S146 qfa = some (20, .inl ((g 0), 16, .inl (fun _ => 0))) := by rw [e_148]; exact mp_keep hq_qfa h_37 (by decide)
  have hq_nx : S146 nx = some (21, .inl ((g 0), 16, .inl (fun _ => 0))) := by rw [e_148]; exact mp_keep hq_nx h_37 (by decide)
  have hq_re : S146 re = some (22, .inl ((g 0), 33, .inl (fun _ => 0))) := by rw [e_148]; exact mp_keep hq_re h_37 (by decide)
  have hq_rl : S146 rl = some (23, .inr (8, [.ref rq, .ref rp, .int 0])) := by rw [e_148]; exact mp_keep hq_rl h_37 (by decide)
  have hq_rq : S146 rq = some (24, .inl ((g 1), 16, .inr (.inr (.inr (.inr (rfs (fun i => rq + 1 + i) 16)))))) := by rw [e_148]; exact mp_keep hq_rq h_37 (by decide)
  have hq_rp : S146 rp = some (25, .inl ((g 0), 16, .inl (fun _ => 0))) := by rw [e_148]; exact mp_keep hq_rp h_37 (by decide)
  have hq_il : S146 il = some (26, .inr (8, [.ref iq, .ref ip, .int 0])) := by rw [e_148]; exact mp_keep hq_il h_37 (by decide)
  have hq_iq : S146 iq = some (27, .inl ((g 1), 16, .inr (.inr (.inr (.inr (rfs (fun i => iq + 1 + i) 16)))))) := by rw [e_148]; exact mp_keep hq_iq h_37 (by decide)
  have hq_ip : S146 ip = some (28, .inl ((g 0), 16, .inl (fun _ => 0))) := by rw [e_148]; exact mp_keep hq_ip h_37 (by decide)
  have hl_o0 : S146 a105 = some (570, .inr (1, [.ref la0, .int (-1)])) := by rw [e_148]; exact mp_keep hl_o0 h_37 (by decide)
  have hl_a0 : S146 la0 = some (571, .inl ((g 0), 33, .inl (fun _ => 0))) := by rw [e_148]; exact mp_keep hl_a0 h_37 (by decide)
  have hl_o1 : S146 a121 = some (572, .inr (1, [.ref la1, .int (-1)])) := by rw [e_148]; exact mp_keep hl_o1 h_37 (by decide)
  have hl_a1 : S146 la1 = some (573, .inl ((g 0), 33, .inl (fun _ => 0))) := by rw [e_148]; exact mp_keep hl_a1 h_37 (by decide)
  have hl_o2 : S146 a137 = some (574, .inr (1, [.ref la2, .int (-1)])) := by rw [e_148]; exact mp_keep hl_o2 h_37 (by decide)
  have hl_a2 : S146 la2 = some (575, .inl ((g 0), 33, .inl (fun _ => 0))) := by rw [e_148]; exact mp_keep hl_a2 h_37 (by decide)
  have h_37 : S146 a36 = some (34, .inl ((g 0), 3, .inl (upd (upd (upd (fun _ => 0) (nI 0).toNatClampNeg (nI 1)) (nI (0 + 1)).toNatClampNeg (nI 1)) (nI ((0 + 1) + 1)).toNatClampNeg (nI 1)))) := by rw [e_148]; exact mp_us _ _ _
  have hzE := oS_kept hzE (S1 := S146) (fun b t9 e9 hb9 h1 h2 => by rw [e_148]; exact mp_un (mp_ne hb9 h_37_o (by omega)))
  have hR5 := rS_kept hR5 (S1 := S146) (fun b t9 e9 hb9 h1 h2 => by rw [e_148]; exact mp_un (mp_ne hb9 h_37_o (by omega)))
  have hR6 := rS_kept hR6 (S1 := S146) (fun b t9 e9 hb9 h1 h2 => by rw [e_148]; exact mp_un (mp_ne hb9 h_37_o (by omega)))
  have hR7 := rS_kept hR7 (S1 := S146) (fun b t9 e9 hb9 h1 h2 => by rw [e_148]; exact mp_un (mp_ne hb9 h_37_o (by omega)))
  have hR1 := rS_kept hR1 (S1 := S146) (fun b t9 e9 hb9 h1 h2 => by rw [e_148]; exact mp_un (mp_ne hb9 h_37_o (by omega)))
  have hR2 := rS_kept hR2 (S1 := S146) (fun b t9 e9 hb9 h1 h2 => by rw [e_148]; exact mp_un (mp_ne hb9 h_37_o (by omega)))
  have hR3 := rS_kept hR3 (S1 := S146) (fun b t9 e9 hb9 h1 h2 => by rw [e_148]; exact mp_un (mp_ne hb9 h_37_o (by omega)))
  have hR4 := rS_kept hR4 (S1 := S146) (fun b t9 e9 hb9 h1 h2 => by rw [e_148]; exact mp_un (mp_ne hb9 h_37_o (by omega)))
  have hfr : ∀ b, S b ≠ none → b ≠ o → S146 b = S b := fun b h9 k0 => by rw [e_148]; exact (mp_un (nb_a36 b h9 k0)).trans (hfr b h9 k0)
  refine lv_iinc (v := nI (((0 + 1) + 1) + 1)) (lv' := [(2, .int (nI (((0 + 1) + 1) + 1))), (0, .ref o), (1, .int (nI n))]) hx hb d_V_init_127 hl (k := 0) rfl (nI_1 _) (by decide) rfl (fun ls hl => ?_)
  refine lv_goto (tgt := 102) hx hb d_V_init_130 (by decide) ?_
  refine lv_iload_n hx hb d_V_init_102 rfl (lv_at hl 0 rfl) ?_
  refine lv_iconst (v := nI 3) hx hb d_V_init_103 (by decide) ?_
  refine lv_icmp_ge (tgt := 133) hx hb d_V_init_104 (by decide) (fun _ => ?_) (fun h9 => absurd (by decide) h9)
  have hL3 : oS g 570 3 (va_up (va_up (va_up (fun _ => 0) 0 a105) 1 a121) 2 a137) (va_up (va_up (va_up (fun _ => 0) 0 la0) 1 la1) 2 la2) (fun _ => -1) (fun _ _ => 0) S146 := by
    intro j hj
    rcases (show j = 0 ∨ j = 1 ∨ j = 2 by omega) with rfl | rfl | rfl
    · exact ⟨hl_o0, hl_a0⟩
    · exact ⟨hl_o1, hl_a1⟩
    · exact ⟨hl_o2, hl_a2⟩
  have h_19 : S146 a18 = some (32, .inl ((g 3), 3, .inr (.inr (.inr (.inr (va_up (va_up (va_up (fun _ => none) 0 (some a105)) 1 (some a121)) 2 (some a137))))))) := h_19
  have h_37 : S146 a36 = some (34, .inl ((g 0), 3, .inl (upd (upd (upd (fun _ => 0) 0 (nI 1)) 1 (nI 1)) 2 (nI 1)))) := h_37
  rw [rfs_0 (fun _ => 0), rfs_push, rfs_push, rfs_push] at h_19
  rw [upd3] at h_37
  refine mp_vret hx hb hr hlocks hI (by decide) (by decide) ?_ d_V_init_133
  exact ⟨fun t => if t = 11 then a79 else if t = 12 then dra else if t = 13 then dka else if t = 14 then a92 else if t = 15 then ky else if t = 16 then pr else if t = 17 then lw else if t = 18 then ll else if t = 19 then mu else if t = 20 then qfa else if t = 21 then nx else if t = 22 then re else if t = 23 then rl else if t = 24 then rq else if t = 25 then rp else if t = 26 then il else if t = 27 then iq else if t = 28 then ip else if t = 30 then a5 else if t = 31 then fs else if t = 32 then a18 else if t = 33 then a23 else if t = 34 then a36 else if t = 35 then a41 else if t = 36 then a54 else if t = 37 then a63 else if t = 38 then pnu else if t = 39 then ppw else if t = 560 then on else if t = 561 then oa1 else if t = 562 then ot else if t = 563 then oa2 else 0, eo, ea, _, _, kp, ⟨h_o, hd_o, hd_r, hd_k, hq_o, hq_ky, hq_pr, hq_lw, hq_ll, hq_mu, hq_qfa, hq_nx, hq_re, hq_rl, hq_rq, hq_rp, hq_il, hq_iq, hq_ip, hz_o, hz_fs, h_19, h_27, h_37, h_45, h_55, hp_o, hp_n, hp_p, hz_on, hz_a1, hz_ot, hz_a2, hzE, hL3, hR5, hR6, hR7, hR1, hR2, hR3, hR4, hFL⟩, hfr⟩
