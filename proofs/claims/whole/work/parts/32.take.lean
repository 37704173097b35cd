theorem d_B_take_15 : decode b_B_take 15 = .ok (.iconst 0, 1) := by decide +kernel
theorem d_B_take_16 : decode b_B_take 16 = .ok (.ireturn, 1) := by decide +kernel
set_option maxHeartbeats 4000000 in
set_option maxRecDepth 100000 in
/-- take: 12 were taken -/
theorem c_B_takeF (l : Launch) (D : mp_G) (g : Nat → ClassId) (S : mp_M) (sz : Nat) (o pa lo nl : Nat) (eo : Nat → Nat) (v3 v4 v6 v8 v9 : Value) (an : Int32) (k : Nat) (h_o : S o = some (0, .inr (0, [.int (nI nl), .ref pa, .ref lo, v3, v4, .int (nI 12), v6, .int an, v8, v9]))) (h_pa : S pa = some (1, .inl ((g 2), 40, .inr (.inr (.inr (.inr (rfs eo 40))))))) (hk : k < 40) : Met l y_B_take w_B_take ({ frames := 1, cells := 0, slots := 0, locals := 21 }) (va_Pc [.ref o, .int (nI k)] (mp_B0 D classes (tys g) S sz)) (va_Qi (fun (r : Int32) (S1 : mp_M) => r = 0 ∧ S1 = S) (mp_B1 D classes S sz) (mp_A S sz)) 0 0 (mp_A S sz) := by
  refine Met.ofW (cc := b_B_take) (maxL := 3) (ret := (some .boolean)) (by decide) rfl ?_
  intro p e s m args below meth c s₁ B hml hv
  obtain ⟨rfl, hsz, hH, hK⟩ := hv
  have hx := B.exec
  have hb := B.bytes
  have hr := B.returns
  have hts := atoms_spec (ws := w_B_take) B.pre
  have hg : ∀ w ∈ gw, w.before _ s = true := fun w h => hts w (List.mem_cons_of_mem _ h)
  have hown : s.vm.findClass R_B = some m.cls := findClass_of_methodNamed B.named
  have hlocks := B.notSynchronized
  subst hsz
  have hI := mp_I.start hH
  have hl := lv_entry ([.ref o, .int (nI k)]) (n := 3) (Nat.le_of_ble_eq_true rfl)
  rw [lg_entry_eq]
  generalize (lg_sl ([.ref o, .int (nI k)]) ++ List.replicate (3 - (lg_sl ([.ref o, .int (nI k)])).length) Slot.unset).toArray = ls at hl ⊢
  have hl : lv_has ls 3 [(0, .ref o), (1, .int (nI k))] := hl
  refine lv_aload_n hx hb d_B_take_0 rfl (lv_at hl 0 rfl) ?_
  refine lv_iload_n hx hb d_B_take_1 rfl (lv_at hl 1 rfl) ?_
  refine pp_callr (va_runV (As := [.int (nI k)]) (rest := []) ⟨hx, hb, hml, hown, hg⟩ (p_B_polynomialOf l D g S _ o pa eo (.int (nI nl)) (.ref lo) v3 v4 (.int (nI 12)) v6 (.int an) v8 v9 k h_o h_pa hk) ⟨(callB_of 1 hg (wd_goodG q_632) rfl rfl rfl (hg _ q_1) (hg _ q_629) (by decide +kernel) ⟨Nat.le_of_ble_eq_true rfl, Nat.le_of_ble_eq_true rfl⟩), hg _ q_631, hg _ qs_20⟩ (mp_preV (C := R_B) (T := F_B) hI hK h_o rfl [.int (nI k)]) rfl rfl hl.1 rfl (lv_room (Nat.le_of_ble_eq_true rfl)) d_B_take_2 ⟨Nat.le_of_ble_eq_true rfl, Nat.le_of_ble_eq_true rfl⟩) (fun r1 er1 => ?_)
  have er1 : r1 = eo k := er1
  subst er1
  refine lv_astore_n (lv' := [(2, .ref (eo k)), (0, .ref o), (1, .int (nI k))]) hx hb d_B_take_5 rfl hl (by decide) rfl (fun ls hl => ?_)
  refine lv_aload_n hx hb d_B_take_6 rfl (lv_at hl 1 rfl) ?_
  refine mp_get (C := R_B) (T := F_B) (N := 10) (v := .int (nI 12)) hx hb hg i_B hown hK.va hI h_o rfl 5 (by decide) (hg _ q_87) (fun _ h9 => h9) rfl d_B_take_7 ?_
  refine lv_bipush (v := nI 12) hx hb d_B_take_10 (by decide) ?_
  refine lv_icmp_lt (tgt := 17) hx hb d_B_take_12 (by decide) (fun h9 => absurd h9 (by decide)) (fun _ => ?_)
  refine lv_iconst (v := nI 0) hx hb d_B_take_15 (by decide) ?_
  refine mp_zret hx hb hr hlocks hI (Nat.le_of_ble_eq_true rfl) (Nat.le_of_ble_eq_true rfl) ?_ (by decide) d_B_take_16
  exact ⟨rfl, rfl⟩
set_option maxHeartbeats 4000000 in
set_option maxRecDepth 100000 in
/-- take -/
theorem c_B_takeA (l : Launch) (D : mp_G) (g : Nat → ClassId) (S : mp_M) (sz : Nat) (o pa lo ma hd nl tk n : Nat) (eo ek en cap pz : Nat → Nat) (kf nf : Nat → Nat → Int32) (mo mk mn mcap mz : Nat → Nat) (mkf mnf : Nat → Nat → Int32) (hf : Nat → Int32) (X : Nat → Nat) (v3 v4 v6 v8 v9 : Value) (an : Int32) (k : Nat) (h_o : S o = some (0, .inr (0, [.int (nI nl), .ref pa, .ref lo, v3, v4, .int (nI tk), v6, .int an, v8, v9]))) (h_pa : S pa = some (1, .inl ((g 2), 40, .inr (.inr (.inr (.inr (rfs eo 40))))))) (h_lo : S lo = some (2, .inr (9, [.ref ma, .ref hd, .int (nI n)]))) (h_ma : S ma = some (4, .inl ((g 2), 12, .inr (.inr (.inr (.inr (rfs mo 12))))))) (h_hd : S hd = some (5, .inl ((g 0), 12, .inl hf))) (hE : yS g 100 40 eo ek en cap pz kf nf S) (hM : yS g 300 12 mo mk mn mcap mz mkf mnf S) (hX : ∀ i, i < pz k → nf k i = nI (X i) ∧ X i < 32003) (hz0 : 0 < pz k) (hz2 : pz k ≤ cap k) (hz3 : pz k ≤ 1000) (hcp : cap k ≤ 2048) (hmc : ∀ i, i < 12 → mcap i ≤ 2048) (hn : n < 12) (hk : k < 40) (htk : tk < 12) : Met l y_B_take w_B_take ({ frames := 3, cells := 2, slots := 4096, locals := 67 }) (va_Pc [.ref o, .int (nI k)] (mp_B0 D classes (tys g) S sz)) (va_Qi (fun (r : Int32) (S1 : mp_M) => r = 1 ∧ S1 o = some (0, .inr (0, [.int (nI nl), .ref pa, .ref lo, v3, v4, .int (nI (tk + 1)), v6, .int 0, v8, v9])) ∧ ∃ (mk1 mn1 mcap1 mz1 : Nat → Nat) (mkf1 mnf1 : Nat → Nat → Int32), S1 lo = some (2, .inr (9, [.ref ma, .ref hd, .int (nI (n + 1))])) ∧ S1 hd = some (5, .inl ((g 0), 12, .inl (upd hf n (kf k 0)))) ∧ yS g 300 12 mo mk1 mn1 mcap1 mz1 mkf1 mnf1 S1 ∧ yS g 100 40 eo ek en cap pz kf nf S1 ∧ (∀ i, i < 12 → mcap1 i ≤ 2048) ∧ mz1 n = pz k ∧ pz k ≤ mcap1 n ∧ (∀ j, j < pz k → mkf1 n j = kf k j) ∧ (∀ j, j < pz k → mnf1 n j = nI (X j * (X 0 ^ 32001 % 32003) % 32003)) ∧ (∀ i, i ≠ n → mz1 i = mz i ∧ mcap1 i = mcap i ∧ mkf1 i = mkf i ∧ mnf1 i = mnf i) ∧ (∀ b t e9, S b = some (t, e9) → t ≠ 0 → t ≠ 2 → t ≠ 5 → (t < 300 ∨ 336 ≤ t) → S1 b = S b)) (mp_B1 D classes S sz) (mp_A S sz)) 2 4096 (mp_A S sz) := by
  refine Met.ofW (cc := b_B_take) (maxL := 3) (ret := (some .boolean)) (by decide) rfl ?_
  intro p e s m args below meth c s₁ B hml hv
  obtain ⟨rfl, hsz, hH, hK⟩ := hv
  have hx := B.exec
  have hb := B.bytes
  have hr := B.returns
  have hts := atoms_spec (ws := w_B_take) B.pre
  have hg : ∀ w ∈ gw, w.before _ s = true := fun w h => hts w (List.mem_cons_of_mem _ h)
  have hown : s.vm.findClass R_B = some m.cls := findClass_of_methodNamed B.named
  have hlocks := B.notSynchronized
  subst hsz
  have hI := mp_I.start hH
  have hl := lv_entry ([.ref o, .int (nI k)]) (n := 3) (Nat.le_of_ble_eq_true rfl)
  rw [lg_entry_eq]
  generalize (lg_sl ([.ref o, .int (nI k)]) ++ List.replicate (3 - (lg_sl ([.ref o, .int (nI k)])).length) Slot.unset).toArray = ls at hl ⊢
  have hl : lv_has ls 3 [(0, .ref o), (1, .int (nI k))] := hl
  obtain ⟨y1, y2, y3⟩ := hE k hk
  refine lv_aload_n hx hb d_B_take_0 rfl (lv_at hl 0 rfl) ?_
  refine lv_iload_n hx hb d_B_take_1 rfl (lv_at hl 1 rfl) ?_
  refine pp_callr (va_runV (As := [.int (nI k)]) (rest := []) ⟨hx, hb, hml, hown, hg⟩ (p_B_polynomialOf l D g S _ o pa eo (.int (nI nl)) (.ref lo) v3 v4 (.int (nI tk)) v6 (.int an) v8 v9 k h_o h_pa hk) ⟨(callB_of 1 hg (wd_goodG q_632) rfl rfl rfl (hg _ q_1) (hg _ q_629) (by decide +kernel) ⟨Nat.le_of_ble_eq_true rfl, Nat.le_of_ble_eq_true rfl⟩), hg _ q_631, hg _ qs_20⟩ (mp_preV (C := R_B) (T := F_B) hI hK h_o rfl [.int (nI k)]) rfl rfl hl.1 rfl (lv_room (Nat.le_of_ble_eq_true rfl)) d_B_take_2 ⟨Nat.le_of_ble_eq_true rfl, Nat.le_of_ble_eq_true rfl⟩) (fun r1 er1 => ?_)
  have er1 : r1 = eo k := er1
  subst er1
  refine lv_astore_n (lv' := [(2, .ref (eo k)), (0, .ref o), (1, .int (nI k))]) hx hb d_B_take_5 rfl hl (by decide) rfl (fun ls hl => ?_)
  refine lv_aload_n hx hb d_B_take_6 rfl (lv_at hl 1 rfl) ?_
  refine mp_get (C := R_B) (T := F_B) (N := 10) (v := .int (nI tk)) hx hb hg i_B hown hK.va hI h_o rfl 5 (by decide) (hg _ q_87) (fun _ h9 => h9) rfl d_B_take_7 ?_
  refine lv_bipush (v := nI 12) hx hb d_B_take_10 (by decide) ?_
  refine lv_icmp_lt (tgt := 17) hx hb d_B_take_12 (by decide) (fun _ => ?_) (fun h9 => absurd ((nI_ltI (by omega) (by omega)).mpr htk) h9)
  have hfr : ∀ b t e9, S b = some (t, e9) → t ≠ 0 → t ≠ 2 → t ≠ 5 → (t < 300 ∨ 336 ≤ t) → S b = S b := fun _ _ _ _ _ _ _ _ => rfl
  refine lv_aload_n hx hb d_B_take_17 rfl (lv_at hl 1 rfl) ?_
  refine lv_dup hx hb d_B_take_18 rfl ?_
  refine mp_get (C := R_B) (T := F_B) (N := 10) (v := .int (nI tk)) hx hb hg i_B hown hK.va hI h_o rfl 5 (by decide) (hg _ q_87) (fun _ h9 => h9) rfl d_B_take_19 ?_
  refine lv_iconst (v := nI 1) hx hb d_B_take_22 (by decide) ?_
  refine lv_iadd hx hb d_B_take_23 ?_
  refine lv_topi (fun v2 ev2 => ?_)
  obtain rfl : v2 = nI (tk + 1) := ev2.trans (nI_add _ _)
  refine mp_put (C := R_B) (T := F_B) (N := 10) (v := .int (nI (tk + 1))) (ty := .int) hx hb hg i_B t_B t_B_ok n_B hown hK.va hI h_o rfl 5 (by decide) (hg _ q_87) (fun _ h9 => h9) rfl (by decide +kernel) (rfl) rfl (Nat.le_of_ble_eq_true rfl) d_B_take_24 (fun S3 H4 locs e_5 hI => ?_)
  have e_5 : S3 = va_up S o (some (0, .inr (0, [.int (nI nl), .ref pa, .ref lo, v3, v4, .int (nI (tk + 1)), v6, .int an, v8, v9]))) := e_5
  have h_o_o := h_o
  have h_pa : S3 pa = some (1, .inl ((g 2), 40, .inr (.inr (.inr (.inr (rfs eo 40)))))) := by rw [e_5]; exact mp_keep h_pa h_o (by decide)
  have h_lo : S3 lo = some (2, .inr (9, [.ref ma, .ref hd, .int (nI n)])) := by rw [e_5]; exact mp_keep h_lo h_o (by decide)
  have h_ma : S3 ma = some (4, .inl ((g 2), 12, .inr (.inr (.inr (.inr (rfs mo 12)))))) := by rw [e_5]; exact mp_keep h_ma h_o (by decide)
  have h_hd : S3 hd = some (5, .inl ((g 0), 12, .inl hf)) := by rw [e_5]; exact mp_keep h_hd h_o (by decide)
  have y1 : S3 (eo k) = some ((100 + 3 * k), .inr (3, [.ref (ek k), .ref (en k), .int (nI (pz k))])) := by rw [e_5]; exact mp_keep y1 h_o (by omega)
  have y2 : S3 (ek k) = some ((100 + 3 * k + 1), .inl ((g 0), (cap k), .inl (kf k))) := by rw [e_5]; exact mp_keep y2 h_o (by omega)
  have y3 : S3 (en k) = some ((100 + 3 * k + 2), .inl ((g 0), (cap k), .inl (nf k))) := by rw [e_5]; exact mp_keep y3 h_o (by omega)
  have h_o : S3 o = some (0, .inr (0, [.int (nI nl), .ref pa, .ref lo, v3, v4, .int (nI (tk + 1)), v6, .int an, v8, v9])) := by rw [e_5]; exact mp_us _ _ _
  have hE := yS_kept hE (S1 := S3) (fun b t9 e9 hb9 h1 h2 => by rw [e_5]; exact mp_un (mp_ne hb9 h_o_o (by omega)))
  have hM := yS_kept hM (S1 := S3) (fun b t9 e9 hb9 h1 h2 => by rw [e_5]; exact mp_un (mp_ne hb9 h_o_o (by omega)))
  have hfr : ∀ b t e9, S b = some (t, e9) → t ≠ 0 → t ≠ 2 → t ≠ 5 → (t < 300 ∨ 336 ≤ t) → S3 b = S b := fun b t e9 h9 k0 k2 k5 h8 => by rw [e_5]; exact (mp_un (mp_ne ((hfr b t e9 h9 k0 k2 k5 h8).trans h9) h_o_o k0)).trans (hfr b t e9 h9 k0 k2 k5 h8)
  refine lv_aload_n hx hb d_B_take_27 rfl (lv_at hl 1 rfl) ?_
  refine mp_get (C := R_B) (T := F_B) (N := 10) (v := .ref lo) hx hb hg i_B hown hK.va hI h_o rfl 2 (by decide) (hg _ q_84) (fun _ h9 => h9) rfl d_B_take_28 ?_
  refine lv_aload_n hx hb d_B_take_31 rfl (lv_at hl 0 rfl) ?_
  refine mp_callv hI (va_runV (As := [.ref (eo k)]) (rest := []) ⟨hx, hb, hml, hown, hg⟩ (c_K_add l D g S3 _ lo ma hd (eo k) (ek k) (en k) (100 + 3 * k) (cap k) (pz k) n mo mk mn mcap mz mkf mnf hf (kf k) (nf k) X h_lo h_ma h_hd y1 y2 y3 hM (by omega) hX hz0 hz2 hz3 hmc hcp hn) ⟨(callB_of 1 hg (wd_goodG q_726) rfl rfl rfl (hg _ q_2) (hg _ q_723) (by decide +kernel) ⟨Nat.le_of_ble_eq_true rfl, Nat.le_of_ble_eq_true rfl⟩), hg _ q_724, hg _ q_725⟩ (mp_preV (C := R_K) (T := F_K) hI hK h_lo rfl [.ref (eo k)]) rfl rfl hl.1 rfl (lv_room (Nat.le_of_ble_eq_true rfl)) d_B_take_32 ⟨Nat.le_of_ble_eq_true rfl, Nat.le_of_ble_eq_true rfl⟩) (fun S6 H7 locs p_8 hI => ?_)
  obtain ⟨mk1, mn1, mcap1, mz1, mkf1, mnf1, q_lo, q_hd, qM, q1, q2, q3, q4, q5, q6, fq⟩ := p_8
  have hfr : ∀ b t e9, S b = some (t, e9) → t ≠ 0 → t ≠ 2 → t ≠ 5 → (t < 300 ∨ 336 ≤ t) → S6 b = S b := fun b t e9 h9 k0 k2 k5 h8 => (fq b t e9 ((hfr b t e9 h9 k0 k2 k5 h8).trans h9) k2 k5 h8).trans (hfr b t e9 h9 k0 k2 k5 h8)
  have h_o : S6 o = some (0, .inr (0, [.int (nI nl), .ref pa, .ref lo, v3, v4, .int (nI (tk + 1)), v6, .int an, v8, v9])) := (fq o _ _ h_o (by decide) (by decide) (by omega)).trans h_o
  have hE := yS_kept hE (S1 := S6) (fun b t9 e9 hb9 h1 h2 => fq b t9 e9 hb9 (by omega) (by omega) (by omega))
  refine lv_aload_n hx hb d_B_take_35 rfl (lv_at hl 1 rfl) ?_
  refine lv_iconst (v := nI 0) hx hb d_B_take_36 (by decide) ?_
  refine mp_put (C := R_B) (T := F_B) (N := 10) (v := .int (nI 0)) (ty := .boolean) hx hb hg i_B t_B t_B_ok n_B hown hK.va hI h_o rfl 7 (by decide) (hg _ q_89) (fun _ h9 => h9) rfl (by decide +kernel) (rfl) rfl (Nat.le_of_ble_eq_true rfl) d_B_take_37 (fun S10 H11 locs e_12 hI => ?_)
  have e_12 : S10 = va_up S6 o (some (0, .inr (0, [.int (nI nl), .ref pa, .ref lo, v3, v4, .int (nI (tk + 1)), v6, .int (nI 0), v8, v9]))) := e_12
  have h_o_o := h_o
  have q_lo : S10 lo = some (2, .inr (9, [.ref ma, .ref hd, .int (nI (n + 1))])) := by rw [e_12]; exact mp_keep q_lo h_o (by decide)
  have q_hd : S10 hd = some (5, .inl ((g 0), 12, .inl (upd hf n (kf k 0)))) := by rw [e_12]; exact mp_keep q_hd h_o (by decide)
  have h_o : S10 o = some (0, .inr (0, [.int (nI nl), .ref pa, .ref lo, v3, v4, .int (nI (tk + 1)), v6, .int (nI 0), v8, v9])) := by rw [e_12]; exact mp_us _ _ _
  have hE := yS_kept hE (S1 := S10) (fun b t9 e9 hb9 h1 h2 => by rw [e_12]; exact mp_un (mp_ne hb9 h_o_o (by omega)))
  have qM := yS_kept qM (S1 := S10) (fun b t9 e9 hb9 h1 h2 => by rw [e_12]; exact mp_un (mp_ne hb9 h_o_o (by omega)))
  have hfr : ∀ b t e9, S b = some (t, e9) → t ≠ 0 → t ≠ 2 → t ≠ 5 → (t < 300 ∨ 336 ≤ t) → S10 b = S b := fun b t e9 h9 k0 k2 k5 h8 => by rw [e_12]; exact (mp_un (mp_ne ((hfr b t e9 h9 k0 k2 k5 h8).trans h9) h_o_o k0)).trans (hfr b t e9 h9 k0 k2 k5 h8)
  refine lv_iconst (v := nI 1) hx hb d_B_take_40 (by decide) ?_
  refine mp_zret hx hb hr hlocks hI (Nat.le_of_ble_eq_true rfl) (Nat.le_of_ble_eq_true rfl) ?_ (by decide) d_B_take_41
  exact ⟨rfl, h_o, mk1, mn1, mcap1, mz1, mkf1, mnf1, q_lo, q_hd, qM, hE, q1, q2, q3, q4, q5, q6, hfr⟩
