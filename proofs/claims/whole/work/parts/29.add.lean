/-- one polynomial of a group is changed, its rows perhaps new -/
theorem yS_put {g : Nat → ClassId} {T0 m : Nat} {eo ek en cap pz : Nat → Nat} {kf nf : Nat → Nat → Int32} {S S1 : mp_M} {i ka na c9 z : Nat} {kf1 nf1 : Nat → Int32} (h : yS g T0 m eo ek en cap pz kf nf S) (hi : i < m)
    (h1 : S1 (eo i) = some ((T0 + 3 * i), .inr (3, [.ref ka, .ref na, .int (nI z)]))) (h2 : S1 ka = some ((T0 + 3 * i + 1), .inl (g 0, c9, .inl kf1))) (h3 : S1 na = some ((T0 + 3 * i + 2), .inl (g 0, c9, .inl nf1)))
    (fr : ∀ b, S b ≠ none → b ≠ eo i → b ≠ ek i → b ≠ en i → S1 b = S b) : yS g T0 m eo (va_up ek i ka) (va_up en i na) (va_up cap i c9) (va_up pz i z) (va_up kf i kf1) (va_up nf i nf1) S1 := by
  intro j hj
  obtain ⟨y1, y2, y3⟩ := h i hi
  by_cases e : j = i
  · subst e
    rw [mp_us, mp_us, mp_us, mp_us, mp_us, mp_us]
    exact ⟨h1, h2, h3⟩
  · obtain ⟨x1, x2, x3⟩ := h j hj
    rw [mp_un e, mp_un e, mp_un e, mp_un e, mp_un e, mp_un e]
    exact ⟨(fr _ (mp_in x1) (mp_ne x1 y1 (by omega)) (mp_ne x1 y2 (by omega)) (mp_ne x1 y3 (by omega))).trans x1, (fr _ (mp_in x2) (mp_ne x2 y1 (by omega)) (mp_ne x2 y2 (by omega)) (mp_ne x2 y3 (by omega))).trans x2, (fr _ (mp_in x3) (mp_ne x3 y1 (by omega)) (mp_ne x3 y2 (by omega)) (mp_ne x3 y3 (by omega))).trans x3⟩
theorem d_K_add_7 : decode b_K_add 7 = .ok (.aload_n 0, 1) := by decide +kernel
theorem d_K_add_8 : decode b_K_add 8 = .ok (.getfield 26, 3) := by decide +kernel
theorem d_K_add_11 : decode b_K_add 11 = .ok (.bipush 12, 2) := by decide +kernel
theorem d_K_add_13 : decode b_K_add 13 = .ok (.if_icmp .ge 41, 3) := by decide +kernel
theorem d_K_add_16 : decode b_K_add 16 = .ok (.aload_n 0, 1) := by decide +kernel
theorem d_K_add_17 : decode b_K_add 17 = .ok (.getfield 11, 3) := by decide +kernel
theorem d_K_add_20 : decode b_K_add 20 = .ok (.aload_n 0, 1) := by decide +kernel
theorem d_K_add_21 : decode b_K_add 21 = .ok (.getfield 26, 3) := by decide +kernel
theorem d_K_add_24 : decode b_K_add 24 = .ok (.aaload, 1) := by decide +kernel
theorem d_K_add_25 : decode b_K_add 25 = .ok (.aload_n 1, 1) := by decide +kernel
theorem d_K_add_26 : decode b_K_add 26 = .ok (.invokevirtual 27, 3) := by decide +kernel
theorem d_K_add_29 : decode b_K_add 29 = .ok (.aload_n 0, 1) := by decide +kernel
theorem d_K_add_30 : decode b_K_add 30 = .ok (.getfield 17, 3) := by decide +kernel
theorem d_K_add_33 : decode b_K_add 33 = .ok (.aload_n 0, 1) := by decide +kernel
theorem d_K_add_34 : decode b_K_add 34 = .ok (.getfield 26, 3) := by decide +kernel
theorem d_K_add_37 : decode b_K_add 37 = .ok (.aload_n 1, 1) := by decide +kernel
theorem d_K_add_38 : decode b_K_add 38 = .ok (.getfield 31, 3) := by decide +kernel
theorem d_K_add_41 : decode b_K_add 41 = .ok (.iconst 0, 1) := by decide +kernel
theorem d_K_add_42 : decode b_K_add 42 = .ok (.iaload, 1) := by decide +kernel
theorem d_K_add_43 : decode b_K_add 43 = .ok (.iastore, 1) := by decide +kernel
theorem d_K_add_44 : decode b_K_add 44 = .ok (.aload_n 0, 1) := by decide +kernel
theorem d_K_add_45 : decode b_K_add 45 = .ok (.dup, 1) := by decide +kernel
theorem d_K_add_46 : decode b_K_add 46 = .ok (.getfield 26, 3) := by decide +kernel
theorem d_K_add_49 : decode b_K_add 49 = .ok (.iconst 1, 1) := by decide +kernel
theorem d_K_add_50 : decode b_K_add 50 = .ok (.iadd, 1) := by decide +kernel
theorem d_K_add_51 : decode b_K_add 51 = .ok (.putfield 26, 3) := by decide +kernel
set_option maxHeartbeats 4000000 in
set_option maxRecDepth 100000 in
/-- a polynomial is added to the list -/
theorem c_K_add (l : Launch) (D : mp_G) (g : Nat → ClassId) (S : mp_M) (sz : Nat) (lo ma hd y kb nb U cp2 z n : Nat) (mo mk mn mcap mz : Nat → Nat) (mkf mnf : Nat → Nat → Int32) (hf kf nf : Nat → Int32) (X : Nat → Nat) (h_lo : S lo = some (2, .inr (9, [.ref ma, .ref hd, .int (nI n)]))) (h_ma : S ma = some (4, .inl ((g 2), 12, .inr (.inr (.inr (.inr (rfs mo 12))))))) (h_hd : S hd = some (5, .inl ((g 0), 12, .inl hf))) (h_y : S y = some (U, .inr (3, [.ref kb, .ref nb, .int (nI z)]))) (h_kb : S kb = some ((U + 1), .inl ((g 0), cp2, .inl kf))) (h_nb : S nb = some ((U + 2), .inl ((g 0), cp2, .inl nf))) (hM : yS g 300 12 mo mk mn mcap mz mkf mnf S) (hU : 5 < U ∧ U + 2 < 300) (hX : ∀ i, i < z → nf i = nI (X i) ∧ X i < 32003) (hz0 : 0 < z) (hz2 : z ≤ cp2) (hz3 : z ≤ 1000) (hmc : ∀ i, i < 12 → mcap i ≤ 2048) (hcp2 : cp2 ≤ 2048) (hn : n < 12) : Met l y_K_add w_K_add ({ frames := 2, cells := 2, slots := 4096, locals := 46 }) (va_Pc [.ref lo, .ref y] (mp_B0 D classes (tys g) S sz)) (va_Qv (fun (S1 : mp_M) => ∃ (mk1 mn1 mcap1 mz1 : Nat → Nat) (mkf1 mnf1 : Nat → Nat → Int32), S1 lo = some (2, .inr (9, [.ref ma, .ref hd, .int (nI (n + 1))])) ∧ S1 hd = some (5, .inl ((g 0), 12, .inl (upd hf n (kf 0)))) ∧ yS g 300 12 mo mk1 mn1 mcap1 mz1 mkf1 mnf1 S1 ∧ (∀ i, i < 12 → mcap1 i ≤ 2048) ∧ mz1 n = z ∧ z ≤ mcap1 n ∧ (∀ j, j < z → mkf1 n j = kf j) ∧ (∀ j, j < z → mnf1 n j = nI (X j * (X 0 ^ 32001 % 32003) % 32003)) ∧ (∀ i, i ≠ n → mz1 i = mz i ∧ mcap1 i = mcap i ∧ mkf1 i = mkf i ∧ mnf1 i = mnf i) ∧ (∀ b t e9, S b = some (t, e9) → t ≠ 2 → t ≠ 5 → (t < 300 ∨ 336 ≤ t) → S1 b = S b)) (mp_B1 D classes S sz) (mp_A S sz)) 2 4096 (mp_A S sz) := by
  refine Met.ofW (cc := b_K_add) (maxL := 2) (ret := none) (by decide) rfl ?_
  intro p e s m args below meth c s₁ B hml hv
  obtain ⟨rfl, hsz, hH, hK⟩ := hv
  have hx := B.exec
  have hb := B.bytes
  have hr := B.returns
  have hts := atoms_spec (ws := w_K_add) B.pre
  have hg : ∀ w ∈ gw, w.before _ s = true := fun w h => hts w (List.mem_cons_of_mem _ h)
  have hown : s.vm.findClass R_K = some m.cls := findClass_of_methodNamed B.named
  have hlocks := B.notSynchronized
  subst hsz
  have hI := mp_I.start hH
  have hl := lv_entry ([.ref lo, .ref y]) (n := 2) (Nat.le_of_ble_eq_true rfl)
  rw [lg_entry_eq]
  generalize (lg_sl ([.ref lo, .ref y]) ++ List.replicate (2 - (lg_sl ([.ref lo, .ref y])).length) Slot.unset).toArray = ls at hl ⊢
  have hl : lv_has ls 2 [(0, .ref lo), (1, .ref y)] := hl
  obtain ⟨y1, y2, y3⟩ := hM n hn
  refine lv_aload_n hx hb d_K_add_0 rfl (lv_at hl 1 rfl) ?_
  refine mp_getN (C := R_Y) (T := F_Y) (N := 3) (v := .int (nI z)) hx hb hg i_Y hown hK.va hI h_y rfl 2 (by decide) (hK.use q_50 rfl) (fun _ h9 => h9) rfl d_K_add_1 ?_
  refine lv_if_le (tgt := 54) hx hb d_K_add_4 (by decide) (fun h9 => absurd h9 (by rw [zI_le (by omega)]; omega)) (fun _ => ?_)
  refine lv_aload_n hx hb d_K_add_7 rfl (lv_at hl 0 rfl) ?_
  refine mp_get (C := R_K) (T := F_K) (N := 3) (v := .int (nI n)) hx hb hg i_K hown hK.va hI h_lo rfl 2 (by decide) (hg _ q_66) (fun _ h9 => h9) rfl d_K_add_8 ?_
  refine lv_bipush (v := nI 12) hx hb d_K_add_11 (by decide) ?_
  refine lv_icmp_ge (tgt := 54) hx hb d_K_add_13 (by decide) (fun h9 => absurd h9 (by rw [nI_leI (by omega) (by omega)]; omega)) (fun _ => ?_)
  refine lv_aload_n hx hb d_K_add_16 rfl (lv_at hl 0 rfl) ?_
  refine mp_get (C := R_K) (T := F_K) (N := 3) (v := .ref ma) hx hb hg i_K hown hK.va hI h_lo rfl 0 (by decide) (hg _ q_61) (fun _ h9 => h9) rfl d_K_add_17 ?_
  refine lv_aload_n hx hb d_K_add_20 rfl (lv_at hl 0 rfl) ?_
  refine mp_get (C := R_K) (T := F_K) (N := 3) (v := .int (nI n)) hx hb hg i_K hown hK.va hI h_lo rfl 2 (by decide) (hg _ q_66) (fun _ h9 => h9) rfl d_K_add_21 ?_
  refine mp_aldq (b := mo n) hx hb hK.va hI 2 h_ma rfl (vp_in_nI hn (by decide)) (by rw [nI_clamp (by omega)]; exact rfs_at hn) d_K_add_24 ?_
  refine lv_aload_n hx hb d_K_add_25 rfl (lv_at hl 1 rfl) ?_
  refine mp_callv hI (va_runV (As := [.ref y]) (rest := []) ⟨hx, hb, hml, hown, hg⟩ (c_Y_becomeMonic l D g S _ (mo n) (mk n) (mn n) y kb nb (300 + 3 * n) U (mcap n) cp2 z (nI (mz n)) kf nf (mkf n) (mnf n) X y1 y2 y3 h_y h_kb h_nb (by omega) hX hz2 hz3 (hmc n hn) hcp2) ⟨(callB_of 1 hg (wd_goodG q_730) rfl rfl rfl (hg _ q_3) (hg _ q_727) (by decide +kernel) ⟨Nat.le_of_ble_eq_true rfl, Nat.le_of_ble_eq_true rfl⟩), hg _ q_728, hg _ q_729⟩ (mp_preV (C := R_Y) (T := F_Y) hI hK y1 rfl [.ref y]) rfl rfl hl.1 rfl (lv_room (Nat.le_of_ble_eq_true rfl)) d_K_add_26 ⟨Nat.le_of_ble_eq_true rfl, Nat.le_of_ble_eq_true rfl⟩) (fun S1 H2 locs p_3 hI => ?_)
  obtain ⟨ka1, na1, cap1, kf1, nf1, q_o, q_ka, q_na, hz1, hc1, m1, m2, fq⟩ := p_3
  have hM := yS_put hM hn q_o q_ka q_na fq
  have hfr : ∀ b t e9, S b = some (t, e9) → (t < 300 ∨ 336 ≤ t) → S1 b = S b := fun b t e9 h9 h8 => fq b (mp_in h9) (mp_ne h9 y1 (by omega)) (mp_ne h9 y2 (by omega)) (mp_ne h9 y3 (by omega))
  have h_lo : S1 lo = some (2, .inr (9, [.ref ma, .ref hd, .int (nI n)])) := (hfr lo _ _ h_lo (by omega)).trans h_lo
  have h_ma : S1 ma = some (4, .inl ((g 2), 12, .inr (.inr (.inr (.inr (rfs mo 12)))))) := (hfr ma _ _ h_ma (by omega)).trans h_ma
  have h_hd : S1 hd = some (5, .inl ((g 0), 12, .inl hf)) := (hfr hd _ _ h_hd (by omega)).trans h_hd
  have h_y : S1 y = some (U, .inr (3, [.ref kb, .ref nb, .int (nI z)])) := (hfr y _ _ h_y (by omega)).trans h_y
  have h_kb : S1 kb = some ((U + 1), .inl ((g 0), cp2, .inl kf)) := (hfr kb _ _ h_kb (by omega)).trans h_kb
  have h_nb : S1 nb = some ((U + 2), .inl ((g 0), cp2, .inl nf)) := (hfr nb _ _ h_nb (by omega)).trans h_nb
  have hfr2 : ∀ b t e9, S b = some (t, e9) → t ≠ 2 → t ≠ 5 → (t < 300 ∨ 336 ≤ t) → S1 b = S b := fun b t e9 h9 _ _ h8 => hfr b t e9 h9 h8
  refine lv_aload_n hx hb d_K_add_29 rfl (lv_at hl 0 rfl) ?_
  refine mp_get (C := R_K) (T := F_K) (N := 3) (v := .ref hd) hx hb hg i_K hown hK.va hI h_lo rfl 1 (by decide) (hg _ q_63) (fun _ h9 => h9) rfl d_K_add_30 ?_
  refine lv_aload_n hx hb d_K_add_33 rfl (lv_at hl 0 rfl) ?_
  refine mp_get (C := R_K) (T := F_K) (N := 3) (v := .int (nI n)) hx hb hg i_K hown hK.va hI h_lo rfl 2 (by decide) (hg _ q_66) (fun _ h9 => h9) rfl d_K_add_34 ?_
  refine lv_aload_n hx hb d_K_add_37 rfl (lv_at hl 1 rfl) ?_
  refine mp_getN (C := R_Y) (T := F_Y) (N := 3) (v := .ref kb) hx hb hg i_Y hown hK.va hI h_y rfl 0 (by decide) (hK.use q_46 rfl) (fun _ h9 => h9) rfl d_K_add_38 ?_
  refine lv_iconst (v := nI 0) hx hb d_K_add_41 (by decide) ?_
  refine mp_iald hx hb hK.va hI 0 h_kb rfl (vp_in_nI (show 0 < cp2 by omega) (by omega)) d_K_add_42 ?_
  refine lv_topi (fun v5 ev5 => ?_)
  obtain rfl : v5 = kf 0 := ev5.trans (by rw [nI_clamp (by decide)])
  refine mp_iast hx hb hK.va hI 0 h_hd rfl (vp_in_nI hn (by decide)) d_K_add_43 (fun S6 H7 locs e_8 hI => ?_)
  have e_8 : S6 = va_up S1 hd (some (5, .inl ((g 0), 12, .inl (upd hf (nI n).toNatClampNeg (kf 0))))) := e_8
  have h_hd_o := h_hd
  have h_lo : S6 lo = some (2, .inr (9, [.ref ma, .ref hd, .int (nI n)])) := by rw [e_8]; exact mp_keep h_lo h_hd (by decide)
  have h_ma : S6 ma = some (4, .inl ((g 2), 12, .inr (.inr (.inr (.inr (rfs mo 12)))))) := by rw [e_8]; exact mp_keep h_ma h_hd (by decide)
  have h_y : S6 y = some (U, .inr (3, [.ref kb, .ref nb, .int (nI z)])) := by rw [e_8]; exact mp_keep h_y h_hd (by omega)
  have h_kb : S6 kb = some ((U + 1), .inl ((g 0), cp2, .inl kf)) := by rw [e_8]; exact mp_keep h_kb h_hd (by omega)
  have h_nb : S6 nb = some ((U + 2), .inl ((g 0), cp2, .inl nf)) := by rw [e_8]; exact mp_keep h_nb h_hd (by omega)
  have h_hd : S6 hd = some (5, .inl ((g 0), 12, .inl (upd hf (nI n).toNatClampNeg (kf 0)))) := by rw [e_8]; exact mp_us _ _ _
  have hM := yS_kept hM (S1 := S6) (fun b t9 e9 hb9 h1 h2 => by rw [e_8]; exact mp_un (mp_ne hb9 h_hd_o (by omega)))
  have hfr2 : ∀ b t e9, S b = some (t, e9) → t ≠ 2 → t ≠ 5 → (t < 300 ∨ 336 ≤ t) → S6 b = S b := fun b t e9 h9 k2 k5 h8 => by rw [e_8]; exact (mp_un (mp_ne ((hfr2 b t e9 h9 k2 k5 h8).trans h9) h_hd_o k5)).trans (hfr2 b t e9 h9 k2 k5 h8)
  rw [nI_clamp (by omega)] at h_hd
  refine lv_aload_n hx hb d_K_add_44 rfl (lv_at hl 0 rfl) ?_
  refine lv_dup hx hb d_K_add_45 rfl ?_
  refine mp_get (C := R_K) (T := F_K) (N := 3) (v := .int (nI n)) hx hb hg i_K hown hK.va hI h_lo rfl 2 (by decide) (hg _ q_66) (fun _ h9 => h9) rfl d_K_add_46 ?_
  refine lv_iconst (v := nI 1) hx hb d_K_add_49 (by decide) ?_
  refine lv_iadd hx hb d_K_add_50 ?_
  refine lv_topi (fun v9 ev9 => ?_)
  obtain rfl : v9 = nI (n + 1) := ev9.trans (nI_add _ _)
  refine mp_put (C := R_K) (T := F_K) (N := 3) (v := .int (nI (n + 1))) (ty := .int) hx hb hg i_K t_K t_K_ok n_K hown hK.va hI h_lo rfl 2 (by decide) (hg _ q_66) (fun _ h9 => h9) rfl (by decide +kernel) (rfl) rfl (Nat.le_of_ble_eq_true rfl) d_K_add_51 (fun S10 H11 locs e_12 hI => ?_)
  have e_12 : S10 = va_up S6 lo (some (2, .inr (9, [.ref ma, .ref hd, .int (nI (n + 1))]))) := e_12
  have h_lo_o := h_lo
  have h_ma : S10 ma = some (4, .inl ((g 2), 12, .inr (.inr (.inr (.inr (rfs mo 12)))))) := by rw [e_12]; exact mp_keep h_ma h_lo (by decide)
  have h_hd : S10 hd = some (5, .inl ((g 0), 12, .inl (upd hf n (kf 0)))) := by rw [e_12]; exact mp_keep h_hd h_lo (by decide)
  have h_y : S10 y = some (U, .inr (3, [.ref kb, .ref nb, .int (nI z)])) := by rw [e_12]; exact mp_keep h_y h_lo (by omega)
  have h_kb : S10 kb = some ((U + 1), .inl ((g 0), cp2, .inl kf)) := by rw [e_12]; exact mp_keep h_kb h_lo (by omega)
  have h_nb : S10 nb = some ((U + 2), .inl ((g 0), cp2, .inl nf)) := by rw [e_12]; exact mp_keep h_nb h_lo (by omega)
  have h_lo : S10 lo = some (2, .inr (9, [.ref ma, .ref hd, .int (nI (n + 1))])) := by rw [e_12]; exact mp_us _ _ _
  have hM := yS_kept hM (S1 := S10) (fun b t9 e9 hb9 h1 h2 => by rw [e_12]; exact mp_un (mp_ne hb9 h_lo_o (by omega)))
  have hfr2 : ∀ b t e9, S b = some (t, e9) → t ≠ 2 → t ≠ 5 → (t < 300 ∨ 336 ≤ t) → S10 b = S b := fun b t e9 h9 k2 k5 h8 => by rw [e_12]; exact (mp_un (mp_ne ((hfr2 b t e9 h9 k2 k5 h8).trans h9) h_lo_o k2)).trans (hfr2 b t e9 h9 k2 k5 h8)
  refine mp_vret hx hb hr hlocks hI (Nat.le_of_ble_eq_true rfl) (Nat.le_of_ble_eq_true rfl) ?_ d_K_add_54
  have hz9 : ¬ z = 0 := by omega
  refine ⟨_, _, _, _, _, _, h_lo, h_hd, hM, fun i hi => ?_, mp_us _ _ _, by rw [mp_us]; exact hz1, fun j hj => by rw [mp_us]; exact m1 j hj, fun j hj => by rw [mp_us, m2 j hj, if_neg hz9], fun i hi => ⟨mp_un hi, mp_un hi, mp_un hi, mp_un hi⟩, hfr2⟩
  by_cases e9 : i = n
  · rw [e9, mp_us]; exact hc1
  · rw [mp_un e9]; exact hmc i hi
