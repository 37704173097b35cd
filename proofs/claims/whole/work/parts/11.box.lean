theorem yS_set {g : Nat → ClassId} {T0 n i z : Nat} {eo ek en cap sz : Nat → Nat} {kf nf : Nat → Nat → Int32} {S S1 : mp_M} (h : yS g T0 n eo ek en cap sz kf nf S) (hi : i < n) (e : S1 = va_up S (eo i) (some (T0 + 3 * i, .inr (3, [.ref (ek i), .ref (en i), .int (nI z)])))) : yS g T0 n eo ek en cap (va_up sz i z) kf nf S1 := by
  obtain ⟨y1, y2, y3⟩ := h i hi
  intro j hj
  obtain ⟨g1, g2, g3⟩ := h j hj
  subst e
  by_cases hji : j = i
  · subst hji
    rw [mp_us, mp_us]
    exact ⟨rfl, mp_keep g2 y1 (by omega), mp_keep g3 y1 (by omega)⟩
  · rw [mp_un hji]
    exact ⟨mp_keep g1 y1 (by omega), mp_keep g2 y1 (by omega), mp_keep g3 y1 (by omega)⟩
theorem yS_sz {g : Nat → ClassId} {T0 n : Nat} {eo ek en cap sz sz' : Nat → Nat} {kf nf : Nat → Nat → Int32} {S : mp_M} (h : yS g T0 n eo ek en cap sz kf nf S) (e : ∀ j, j < n → sz j = sz' j) : yS g T0 n eo ek en cap sz' kf nf S := by
  intro j hj
  rw [← e j hj]
  exact h j hj
/-- the first i are 0 -/
def zTo (sz : Nat → Nat) (i : Nat) : Nat → Nat := fun j => if j < i then 0 else sz j
theorem zTo_up (sz : Nat → Nat) (i : Nat) : va_up (zTo sz i) i 0 = zTo sz (i + 1) := by
  funext j
  unfold zTo va_up
  by_cases h : j = i
  · subst h; simp
  · by_cases h2 : j < i
    · simp [h, h2, Nat.lt_succ_of_lt h2]
    · simp [h, h2, show ¬ j < i + 1 by omega]
theorem zTo_0 (sz : Nat → Nat) : zTo sz 0 = sz := by funext j; simp [zTo]
theorem d_B_clear_0 : decode b_B_clear 0 = .ok (.iconst 0, 1) := by decide +kernel
theorem d_B_clear_1 : decode b_B_clear 1 = .ok (.istore_n 1, 1) := by decide +kernel
theorem d_B_clear_2 : decode b_B_clear 2 = .ok (.iload_n 1, 1) := by decide +kernel
theorem d_B_clear_3 : decode b_B_clear 3 = .ok (.bipush 40, 2) := by decide +kernel
theorem d_B_clear_5 : decode b_B_clear 5 = .ok (.if_icmp .ge 18, 3) := by decide +kernel
theorem d_B_clear_8 : decode b_B_clear 8 = .ok (.aload_n 0, 1) := by decide +kernel
theorem d_B_clear_9 : decode b_B_clear 9 = .ok (.getfield 11, 3) := by decide +kernel
theorem d_B_clear_12 : decode b_B_clear 12 = .ok (.iload_n 1, 1) := by decide +kernel
theorem d_B_clear_13 : decode b_B_clear 13 = .ok (.aaload, 1) := by decide +kernel
theorem d_B_clear_14 : decode b_B_clear 14 = .ok (.invokevirtual 50, 3) := by decide +kernel
theorem d_B_clear_17 : decode b_B_clear 17 = .ok (.iinc 1 1, 3) := by decide +kernel
theorem d_B_clear_20 : decode b_B_clear 20 = .ok (.goto (-18), 3) := by decide +kernel
theorem d_B_clear_23 : decode b_B_clear 23 = .ok (.aload_n 0, 1) := by decide +kernel
theorem d_B_clear_24 : decode b_B_clear 24 = .ok (.getfield 18, 3) := by decide +kernel
theorem d_B_clear_27 : decode b_B_clear 27 = .ok (.iconst 0, 1) := by decide +kernel
theorem d_B_clear_28 : decode b_B_clear 28 = .ok (.putfield 169, 3) := by decide +kernel
theorem d_B_clear_31 : decode b_B_clear 31 = .ok (.aload_n 0, 1) := by decide +kernel
theorem d_B_clear_32 : decode b_B_clear 32 = .ok (.iconst 0, 1) := by decide +kernel
theorem d_B_clear_33 : decode b_B_clear 33 = .ok (.putfield 40, 3) := by decide +kernel
theorem d_B_clear_36 : decode b_B_clear 36 = .ok (.aload_n 0, 1) := by decide +kernel
theorem d_B_clear_37 : decode b_B_clear 37 = .ok (.iconst 0, 1) := by decide +kernel
theorem d_B_clear_38 : decode b_B_clear 38 = .ok (.putfield 84, 3) := by decide +kernel
theorem d_B_clear_41 : decode b_B_clear 41 = .ok (.aload_n 0, 1) := by decide +kernel
theorem d_B_clear_42 : decode b_B_clear 42 = .ok (.iconst 0, 1) := by decide +kernel
theorem d_B_clear_43 : decode b_B_clear 43 = .ok (.putfield 166, 3) := by decide +kernel
theorem d_B_clear_46 : decode b_B_clear 46 = .ok (.aload_n 0, 1) := by decide +kernel
theorem d_B_clear_47 : decode b_B_clear 47 = .ok (.iconst 0, 1) := by decide +kernel
theorem d_B_clear_48 : decode b_B_clear 48 = .ok (.putfield 91, 3) := by decide +kernel
theorem d_B_clear_51 : decode b_B_clear 51 = .ok (.return_, 1) := by decide +kernel
theorem d_B_count_0 : decode b_B_count 0 = .ok (.iload_n 1, 1) := by decide +kernel
theorem d_B_count_1 : decode b_B_count 1 = .ok (.tableswitch 42 0 2 #[27, 32, 37], 27) := by decide +kernel
theorem d_B_count_28 : decode b_B_count 28 = .ok (.aload_n 0, 1) := by decide +kernel
theorem d_B_count_29 : decode b_B_count 29 = .ok (.getfield 40, 3) := by decide +kernel
theorem d_B_count_32 : decode b_B_count 32 = .ok (.ireturn, 1) := by decide +kernel
theorem d_B_count_33 : decode b_B_count 33 = .ok (.aload_n 0, 1) := by decide +kernel
theorem d_B_count_34 : decode b_B_count 34 = .ok (.getfield 84, 3) := by decide +kernel
theorem d_B_count_37 : decode b_B_count 37 = .ok (.ireturn, 1) := by decide +kernel
theorem d_B_count_38 : decode b_B_count 38 = .ok (.aload_n 0, 1) := by decide +kernel
theorem d_B_count_39 : decode b_B_count 39 = .ok (.getfield 35, 3) := by decide +kernel
theorem d_B_count_42 : decode b_B_count 42 = .ok (.ireturn, 1) := by decide +kernel
theorem d_B_count_43 : decode b_B_count 43 = .ok (.iconst (-1), 1) := by decide +kernel
theorem d_B_count_44 : decode b_B_count 44 = .ok (.ireturn, 1) := by decide +kernel
theorem d_B_free_0 : decode b_B_free 0 = .ok (.iload_n 1, 1) := by decide +kernel
theorem d_B_free_1 : decode b_B_free 1 = .ok (.ifCond .lt 11, 3) := by decide +kernel
theorem d_B_free_4 : decode b_B_free 4 = .ok (.iload_n 1, 1) := by decide +kernel
theorem d_B_free_5 : decode b_B_free 5 = .ok (.aload_n 0, 1) := by decide +kernel
theorem d_B_free_6 : decode b_B_free 6 = .ok (.getfield 166, 3) := by decide +kernel
theorem d_B_free_9 : decode b_B_free 9 = .ok (.if_icmp .lt 7, 3) := by decide +kernel
theorem d_B_free_12 : decode b_B_free 12 = .ok (.iconst (-1), 1) := by decide +kernel
theorem d_B_free_13 : decode b_B_free 13 = .ok (.goto 9, 3) := by decide +kernel
theorem d_B_free_16 : decode b_B_free 16 = .ok (.aload_n 0, 1) := by decide +kernel
theorem d_B_free_17 : decode b_B_free 17 = .ok (.getfield 22, 3) := by decide +kernel
theorem d_B_free_20 : decode b_B_free 20 = .ok (.iload_n 1, 1) := by decide +kernel
theorem d_B_free_21 : decode b_B_free 21 = .ok (.iaload, 1) := by decide +kernel
theorem d_B_free_22 : decode b_B_free 22 = .ok (.ireturn, 1) := by decide +kernel
theorem d_B_poly_26 : decode b_B_poly 26 = .ok (.aload_n 0, 1) := by decide +kernel
theorem d_B_poly_27 : decode b_B_poly 27 = .ok (.getfield 11, 3) := by decide +kernel
theorem d_B_poly_30 : decode b_B_poly 30 = .ok (.aload_n 0, 1) := by decide +kernel
theorem d_B_poly_31 : decode b_B_poly 31 = .ok (.getfield 40, 3) := by decide +kernel
theorem d_B_poly_34 : decode b_B_poly 34 = .ok (.aaload, 1) := by decide +kernel
theorem d_B_poly_35 : decode b_B_poly 35 = .ok (.invokevirtual 50, 3) := by decide +kernel
theorem d_B_poly_38 : decode b_B_poly 38 = .ok (.aload_n 0, 1) := by decide +kernel
theorem d_B_poly_39 : decode b_B_poly 39 = .ok (.dup, 1) := by decide +kernel
theorem d_B_poly_40 : decode b_B_poly 40 = .ok (.getfield 40, 3) := by decide +kernel
theorem d_B_poly_43 : decode b_B_poly 43 = .ok (.iconst 1, 1) := by decide +kernel
theorem d_B_poly_44 : decode b_B_poly 44 = .ok (.iadd, 1) := by decide +kernel
theorem d_B_poly_45 : decode b_B_poly 45 = .ok (.putfield 40, 3) := by decide +kernel
theorem d_B_poly_48 : decode b_B_poly 48 = .ok (.aload_n 0, 1) := by decide +kernel
theorem d_B_poly_49 : decode b_B_poly 49 = .ok (.getfield 40, 3) := by decide +kernel
theorem d_B_poly_52 : decode b_B_poly 52 = .ok (.iconst 1, 1) := by decide +kernel
theorem d_B_poly_53 : decode b_B_poly 53 = .ok (.isub, 1) := by decide +kernel
theorem d_B_poly_54 : decode b_B_poly 54 = .ok (.ireturn, 1) := by decide +kernel
set_option maxHeartbeats 4000000 in
set_option maxRecDepth 100000 in
/-- count -/
theorem c_B_count (l : Launch) (D : mp_G) (g : Nat → ClassId) (S : mp_M) (sz : Nat) (o pa : Nat) (v2 v3 v6 v7 v8 v9 : Value) (n gv tk x : Int32) (h_o : S o = some (0, .inr (0, [.int n, .ref pa, v2, v3, .int gv, .int tk, v6, v7, v8, v9])))  : Met l y_B_count w_B_count ({ frames := 0, cells := 0, slots := 0, locals := 0 }) (va_Pc [.ref o, .int x] (mp_B0 D classes (tys g) S sz)) (va_Qi (fun (r : Int32) (S1 : mp_M) => r = (if x = 0 then gv else if x = 1 then tk else if x = 2 then n else -1) ∧ S1 = S) (mp_B1 D classes S sz) (mp_A S sz)) 0 0 (mp_A S sz) := by
  refine Met.ofW (cc := b_B_count) (maxL := 2) (ret := (some .int)) (by decide) rfl ?_
  intro p e s m args below meth c s₁ B hml hv
  obtain ⟨rfl, hsz, hH, hK⟩ := hv
  have hx := B.exec
  have hb := B.bytes
  have hr := B.returns
  have hts := atoms_spec (ws := w_B_count) B.pre
  have hg : ∀ w ∈ gw, w.before _ s = true := fun w h => hts w (List.mem_cons_of_mem _ h)
  have hown : s.vm.findClass R_B = some m.cls := findClass_of_methodNamed B.named
  have hlocks := B.notSynchronized
  subst hsz
  have hI := mp_I.start hH
  have hl := lv_entry ([.ref o, .int x]) (n := 2) (Nat.le_of_ble_eq_true rfl)
  rw [lg_entry_eq]
  generalize (lg_sl ([.ref o, .int x]) ++ List.replicate (2 - (lg_sl ([.ref o, .int x])).length) Slot.unset).toArray = ls at hl ⊢
  have hl : lv_has ls 2 [(0, .ref o), (1, .int x)] := hl
  refine lv_iload_n hx hb d_B_count_0 rfl (lv_at hl 1 rfl) ?_
  by_cases c0 : x = 0
  · subst c0
    refine lv_tableIn (off := 27) (tgt := 28) hx hb d_B_count_1 (by decide) (by decide) (by decide) (by decide) ?_
    refine lv_aload_n hx hb d_B_count_28 rfl (lv_at hl 0 rfl) ?_
    refine mp_get (C := R_B) (T := F_B) (N := 10) (v := .int gv) hx hb hg i_B hown hK.va hI h_o rfl 4 (by decide) (hg _ q_86) (fun _ h9 => h9) rfl d_B_count_29 ?_
    refine mp_iret hx hb hr hlocks hI (by decide) (by decide) ?_ d_B_count_32
    exact ⟨by rw [if_pos rfl], rfl⟩
  by_cases c1 : x = 1
  · subst c1
    refine lv_tableIn (off := 32) (tgt := 33) hx hb d_B_count_1 (by decide) (by decide) (by decide) (by decide) ?_
    refine lv_aload_n hx hb d_B_count_33 rfl (lv_at hl 0 rfl) ?_
    refine mp_get (C := R_B) (T := F_B) (N := 10) (v := .int tk) hx hb hg i_B hown hK.va hI h_o rfl 5 (by decide) (hg _ q_87) (fun _ h9 => h9) rfl d_B_count_34 ?_
    refine mp_iret hx hb hr hlocks hI (by decide) (by decide) ?_ d_B_count_37
    exact ⟨by rw [if_neg (by decide), if_pos rfl], rfl⟩
  by_cases c2 : x = 2
  · subst c2
    refine lv_tableIn (off := 37) (tgt := 38) hx hb d_B_count_1 (by decide) (by decide) (by decide) (by decide) ?_
    refine lv_aload_n hx hb d_B_count_38 rfl (lv_at hl 0 rfl) ?_
    refine mp_get (C := R_B) (T := F_B) (N := 10) (v := .int n) hx hb hg i_B hown hK.va hI h_o rfl 0 (by decide) (hg _ q_82) (fun _ h9 => h9) rfl d_B_count_39 ?_
    refine mp_iret hx hb hr hlocks hI (by decide) (by decide) ?_ d_B_count_42
    exact ⟨by rw [if_neg (by decide), if_neg (by decide), if_pos rfl], rfl⟩
  · have hr9 : x.toInt < 0 ∨ 2 < x.toInt := by
      have k0 := lv_neT c0 (a := 0) rfl
      have k1 := lv_neT c1 (a := 1) rfl
      have k2 := lv_neT c2 (a := 2) rfl
      omega
    refine lv_tableOut (tgt := 43) hx hb d_B_count_1 hr9 (by decide) ?_
    refine lv_iconst (v := (-1)) hx hb d_B_count_43 (by decide) ?_
    refine mp_iret hx hb hr hlocks hI (by decide) (by decide) ?_ d_B_count_44
    exact ⟨by rw [if_neg c0, if_neg c1, if_neg c2], rfl⟩
set_option maxHeartbeats 4000000 in
set_option maxRecDepth 100000 in
/-- no such letter -/
theorem c_B_freeN (l : Launch) (D : mp_G) (g : Nat → ClassId) (S : mp_M) (sz : Nat) (o pa fa fc : Nat) (v0 v2 v4 v5 v7 v8 v9 : Value) (ff : Nat → Int32) (x : Int32) (h_o : S o = some (0, .inr (0, [v0, .ref pa, v2, .ref fa, v4, v5, .int (nI fc), v7, v8, v9]))) (h_fa : S fa = some (3, .inl ((g 0), 3, .inl ff))) (hx9 : x < 0 ∨ nI fc ≤ x) : Met l y_B_free w_B_free ({ frames := 0, cells := 0, slots := 0, locals := 0 }) (va_Pc [.ref o, .int x] (mp_B0 D classes (tys g) S sz)) (va_Qi (fun (r : Int32) (S1 : mp_M) => r = -1 ∧ S1 = S) (mp_B1 D classes S sz) (mp_A S sz)) 0 0 (mp_A S sz) := by
  refine Met.ofW (cc := b_B_free) (maxL := 2) (ret := (some .int)) (by decide) rfl ?_
  intro p e s m args below meth c s₁ B hml hv
  obtain ⟨rfl, hsz, hH, hK⟩ := hv
  have hx := B.exec
  have hb := B.bytes
  have hr := B.returns
  have hts := atoms_spec (ws := w_B_free) B.pre
  have hg : ∀ w ∈ gw, w.before _ s = true := fun w h => hts w (List.mem_cons_of_mem _ h)
  have hown : s.vm.findClass R_B = some m.cls := findClass_of_methodNamed B.named
  have hlocks := B.notSynchronized
  subst hsz
  have hI := mp_I.start hH
  have hl := lv_entry ([.ref o, .int x]) (n := 2) (Nat.le_of_ble_eq_true rfl)
  rw [lg_entry_eq]
  generalize (lg_sl ([.ref o, .int x]) ++ List.replicate (2 - (lg_sl ([.ref o, .int x])).length) Slot.unset).toArray = ls at hl ⊢
  have hl : lv_has ls 2 [(0, .ref o), (1, .int x)] := hl
  refine lv_iload_n hx hb d_B_free_0 rfl (lv_at hl 1 rfl) ?_
  refine lv_if_lt (tgt := 12) hx hb d_B_free_1 (by decide) (fun c1 => ?_) (fun c1 => ?_)
  · refine lv_iconst (v := (-1)) hx hb d_B_free_12 (by decide) ?_
    refine lv_goto (tgt := 22) hx hb d_B_free_13 (by decide) ?_
    refine mp_iret hx hb hr hlocks hI (by decide) (by decide) ?_ d_B_free_22
    exact ⟨rfl, rfl⟩
  · refine lv_iload_n hx hb d_B_free_4 rfl (lv_at hl 1 rfl) ?_
    refine lv_aload_n hx hb d_B_free_5 rfl (lv_at hl 0 rfl) ?_
    refine mp_get (C := R_B) (T := F_B) (N := 10) (v := .int (nI fc)) hx hb hg i_B hown hK.va hI h_o rfl 6 (by decide) (hg _ q_88) (fun _ h9 => h9) rfl d_B_free_6 ?_
    refine lv_icmp_lt (tgt := 16) hx hb d_B_free_9 (by decide) (fun c2 => ?_) (fun c2 => ?_)
    · exact absurd c2 (Int32.not_lt.mpr (hx9.resolve_left c1))
    · refine lv_iconst (v := (-1)) hx hb d_B_free_12 (by decide) ?_
      refine lv_goto (tgt := 22) hx hb d_B_free_13 (by decide) ?_
      refine mp_iret hx hb hr hlocks hI (by decide) (by decide) ?_ d_B_free_22
      exact ⟨rfl, rfl⟩
set_option maxHeartbeats 4000000 in
set_option maxRecDepth 100000 in
/-- a free letter -/
theorem c_B_free (l : Launch) (D : mp_G) (g : Nat → ClassId) (S : mp_M) (sz : Nat) (o pa fa fc : Nat) (v0 v2 v4 v5 v7 v8 v9 : Value) (ff : Nat → Int32) (k : Nat) (h_o : S o = some (0, .inr (0, [v0, .ref pa, v2, .ref fa, v4, v5, .int (nI fc), v7, v8, v9]))) (h_fa : S fa = some (3, .inl ((g 0), 3, .inl ff))) (hk : k < fc) (hfc : fc ≤ 3) : Met l y_B_free w_B_free ({ frames := 0, cells := 0, slots := 0, locals := 0 }) (va_Pc [.ref o, .int (nI k)] (mp_B0 D classes (tys g) S sz)) (va_Qi (fun (r : Int32) (S1 : mp_M) => r = ff k ∧ S1 = S) (mp_B1 D classes S sz) (mp_A S sz)) 0 0 (mp_A S sz) := by
  refine Met.ofW (cc := b_B_free) (maxL := 2) (ret := (some .int)) (by decide) rfl ?_
  intro p e s m args below meth c s₁ B hml hv
  obtain ⟨rfl, hsz, hH, hK⟩ := hv
  have hx := B.exec
  have hb := B.bytes
  have hr := B.returns
  have hts := atoms_spec (ws := w_B_free) B.pre
  have hg : ∀ w ∈ gw, w.before _ s = true := fun w h => hts w (List.mem_cons_of_mem _ h)
  have hown : s.vm.findClass R_B = some m.cls := findClass_of_methodNamed B.named
  have hlocks := B.notSynchronized
  subst hsz
  have hI := mp_I.start hH
  have hl := lv_entry ([.ref o, .int (nI k)]) (n := 2) (Nat.le_of_ble_eq_true rfl)
  rw [lg_entry_eq]
  generalize (lg_sl ([.ref o, .int (nI k)]) ++ List.replicate (2 - (lg_sl ([.ref o, .int (nI k)])).length) Slot.unset).toArray = ls at hl ⊢
  have hl : lv_has ls 2 [(0, .ref o), (1, .int (nI k))] := hl
  refine lv_iload_n hx hb d_B_free_0 rfl (lv_at hl 1 rfl) ?_
  refine lv_if_lt (tgt := 12) hx hb d_B_free_1 (by decide) (fun h9 => absurd h9 (nI_pos (by omega))) (fun _ => ?_)
  refine lv_iload_n hx hb d_B_free_4 rfl (lv_at hl 1 rfl) ?_
  refine lv_aload_n hx hb d_B_free_5 rfl (lv_at hl 0 rfl) ?_
  refine mp_get (C := R_B) (T := F_B) (N := 10) (v := .int (nI fc)) hx hb hg i_B hown hK.va hI h_o rfl 6 (by decide) (hg _ q_88) (fun _ h9 => h9) rfl d_B_free_6 ?_
  refine lv_icmp_lt (tgt := 16) hx hb d_B_free_9 (by decide) (fun _ => ?_) (fun h9 => absurd ((nI_ltI (by omega) (by omega)).mpr hk) h9)
  refine lv_aload_n hx hb d_B_free_16 rfl (lv_at hl 0 rfl) ?_
  refine mp_get (C := R_B) (T := F_B) (N := 10) (v := .ref fa) hx hb hg i_B hown hK.va hI h_o rfl 3 (by decide) (hg _ q_85) (fun _ h9 => h9) rfl d_B_free_17 ?_
  refine lv_iload_n hx hb d_B_free_20 rfl (lv_at hl 1 rfl) ?_
  refine mp_iald hx hb hK.va hI 0 h_fa rfl (vp_in_nI (by omega) (by decide)) d_B_free_21 ?_
  refine mp_iret hx hb hr hlocks hI (by decide) (by decide) ?_ d_B_free_22
  exact ⟨by rw [nI_clamp (by omega)], rfl⟩
set_option maxHeartbeats 4000000 in
set_option maxRecDepth 100000 in
/-- the next number of a polynomial -/
theorem c_B_poly (l : Launch) (D : mp_G) (g : Nat → ClassId) (S : mp_M) (sz : Nat) (o pa gv : Nat) (v0 v2 v3 v5 v6 v7 v8 v9 : Value) (eo ek en cap pz : Nat → Nat) (kf nf : Nat → Nat → Int32) (h_o : S o = some (0, .inr (0, [v0, .ref pa, v2, v3, .int (nI gv), v5, v6, v7, v8, v9]))) (h_pa : S pa = some (1, .inl ((g 2), 40, .inr (.inr (.inr (.inr (rfs eo 40))))))) (hE : yS g 100 40 eo ek en cap pz kf nf S) (hgv : gv < 40) : Met l y_B_poly w_B_poly ({ frames := 1, cells := 0, slots := 0, locals := 20 }) (va_Pc [.ref o] (mp_B0 D classes (tys g) S sz)) (va_Qi (fun (r : Int32) (S1 : mp_M) => r = nI gv ∧ S1 o = some (0, .inr (0, [v0, .ref pa, v2, v3, .int (nI (gv + 1)), v5, v6, v7, v8, v9])) ∧ yS g 100 40 eo ek en cap (va_up pz gv 0) kf nf S1 ∧ (∀ b, S b ≠ none → b ≠ o → b ≠ eo gv → S1 b = S b)) (mp_B1 D classes S sz) (mp_A S sz)) 0 0 (mp_A S sz) := by
  refine Met.ofW (cc := b_B_poly) (maxL := 1) (ret := (some .int)) (by decide) rfl ?_
  intro p e s m args below meth c s₁ B hml hv
  obtain ⟨rfl, hsz, hH, hK⟩ := hv
  have hx := B.exec
  have hb := B.bytes
  have hr := B.returns
  have hts := atoms_spec (ws := w_B_poly) B.pre
  have hg : ∀ w ∈ gw, w.before _ s = true := fun w h => hts w (List.mem_cons_of_mem _ h)
  have hown : s.vm.findClass R_B = some m.cls := findClass_of_methodNamed B.named
  have hlocks := B.notSynchronized
  subst hsz
  have hI := mp_I.start hH
  have hl := lv_entry ([.ref o]) (n := 1) (Nat.le_of_ble_eq_true rfl)
  rw [lg_entry_eq]
  generalize (lg_sl ([.ref o]) ++ List.replicate (1 - (lg_sl ([.ref o])).length) Slot.unset).toArray = ls at hl ⊢
  have hl : lv_has ls 1 [(0, .ref o)] := hl
  obtain ⟨y1, y2, y3⟩ := hE gv hgv
  have hfr : ∀ b, S b ≠ none → b ≠ o → b ≠ (eo gv) → S b = S b := fun _ _ _ _ => rfl
  refine lv_aload_n hx hb d_B_poly_0 rfl (lv_at hl 0 rfl) ?_
  refine mp_get (C := R_B) (T := F_B) (N := 10) (v := .int (nI gv)) hx hb hg i_B hown hK.va hI h_o rfl 4 (by decide) (hg _ q_86) (fun _ h9 => h9) rfl d_B_poly_1 ?_
  refine lv_if_lt (tgt := 16) hx hb d_B_poly_4 (by decide) (fun h9 => absurd h9 (nI_pos (by omega))) (fun _ => ?_)
  refine lv_aload_n hx hb d_B_poly_7 rfl (lv_at hl 0 rfl) ?_
  refine mp_get (C := R_B) (T := F_B) (N := 10) (v := .int (nI gv)) hx hb hg i_B hown hK.va hI h_o rfl 4 (by decide) (hg _ q_86) (fun _ h9 => h9) rfl d_B_poly_8 ?_
  refine lv_bipush (v := nI 40) hx hb d_B_poly_11 (by decide) ?_
  refine lv_icmp_lt (tgt := 26) hx hb d_B_poly_13 (by decide) (fun _ => ?_) (fun h9 => absurd ((nI_ltI (by omega) (by omega)).mpr hgv) h9)
  refine lv_aload_n hx hb d_B_poly_26 rfl (lv_at hl 0 rfl) ?_
  refine mp_get (C := R_B) (T := F_B) (N := 10) (v := .ref pa) hx hb hg i_B hown hK.va hI h_o rfl 1 (by decide) (hg _ q_83) (fun _ h9 => h9) rfl d_B_poly_27 ?_
  refine lv_aload_n hx hb d_B_poly_30 rfl (lv_at hl 0 rfl) ?_
  refine mp_get (C := R_B) (T := F_B) (N := 10) (v := .int (nI gv)) hx hb hg i_B hown hK.va hI h_o rfl 4 (by decide) (hg _ q_86) (fun _ h9 => h9) rfl d_B_poly_31 ?_
  refine mp_aldq (b := eo gv) hx hb hK.va hI 2 h_pa rfl (vp_in_nI hgv (by decide)) (by rw [nI_clamp (by omega)]; exact rfs_at hgv) d_B_poly_34 ?_
  refine mp_callv hI (va_runV (As := []) (rest := []) ⟨hx, hb, hml, hown, hg⟩ (c_Y_setZero l D g S _ (eo gv) _ (ek gv) (en gv) _ y1) ⟨(callB_of 0 hg (wd_goodG q_534) rfl rfl rfl (hg _ q_3) (hg _ q_531) (by decide +kernel) ⟨Nat.le_of_ble_eq_true rfl, Nat.le_of_ble_eq_true rfl⟩), hg _ q_532, hg _ q_533⟩ (mp_preV (C := R_Y) (T := F_Y) hI hK y1 rfl []) rfl rfl hl.1 rfl (lv_room (Nat.le_of_ble_eq_true rfl)) d_B_poly_35 ⟨Nat.le_of_ble_eq_true rfl, Nat.le_of_ble_eq_true rfl⟩) (fun S1 H2 locs p_3 hI => ?_)
  have hE := yS_set (z := 0) hE hgv p_3
  have p_3 : S1 = va_up S (eo gv) (some ((100 + 3 * gv), .inr (3, [.ref (ek gv), .ref (en gv), .int 0]))) := p_3
  have h_o : S1 o = some (0, .inr (0, [v0, .ref pa, v2, v3, .int (nI gv), v5, v6, v7, v8, v9])) := by rw [p_3]; exact mp_keep h_o y1 (by omega)
  have h_pa : S1 pa = some (1, .inl ((g 2), 40, .inr (.inr (.inr (.inr (rfs eo 40)))))) := by rw [p_3]; exact mp_keep h_pa y1 (by omega)
  have y1 : S1 (eo gv) = some ((100 + 3 * gv), .inr (3, [.ref (ek gv), .ref (en gv), .int 0])) := by rw [p_3]; exact mp_us _ _ _
  have hfr : ∀ b, S b ≠ none → b ≠ o → b ≠ eo gv → S1 b = S b := fun b h9 k0 k1 => by rw [p_3]; exact (mp_un k1).trans (hfr b h9 k0 k1)
  refine lv_aload_n hx hb d_B_poly_38 rfl (lv_at hl 0 rfl) ?_
  refine lv_dup hx hb d_B_poly_39 rfl ?_
  refine mp_get (C := R_B) (T := F_B) (N := 10) (v := .int (nI gv)) hx hb hg i_B hown hK.va hI h_o rfl 4 (by decide) (hg _ q_86) (fun _ h9 => h9) rfl d_B_poly_40 ?_
  refine lv_iconst (v := nI 1) hx hb d_B_poly_43 (by decide) ?_
  refine lv_iadd hx hb d_B_poly_44 ?_
  refine lv_topi (fun v5 ev5 => ?_)
  obtain rfl : v5 = nI (gv + 1) := ev5.trans (nI_add _ _)
  refine mp_put (C := R_B) (T := F_B) (N := 10) (v := .int (nI (gv + 1))) (ty := .int) hx hb hg i_B t_B t_B_ok n_B hown hK.va hI h_o rfl 4 (by decide) (hg _ q_86) (fun _ h9 => h9) rfl (by decide +kernel) (rfl) rfl (Nat.le_of_ble_eq_true rfl) d_B_poly_45 (fun S6 H7 locs e_8 hI => ?_)
  have e_8 : S6 = va_up S1 o (some (0, .inr (0, [v0, .ref pa, v2, v3, .int (nI (gv + 1)), v5, v6, v7, v8, v9]))) := e_8
  have h_o_o := h_o
  have h_pa : S6 pa = some (1, .inl ((g 2), 40, .inr (.inr (.inr (.inr (rfs eo 40)))))) := by rw [e_8]; exact mp_keep h_pa h_o (by decide)
  have y1 : S6 (eo gv) = some ((100 + 3 * gv), .inr (3, [.ref (ek gv), .ref (en gv), .int 0])) := by rw [e_8]; exact mp_keep y1 h_o (by omega)
  have h_o : S6 o = some (0, .inr (0, [v0, .ref pa, v2, v3, .int (nI (gv + 1)), v5, v6, v7, v8, v9])) := by rw [e_8]; exact mp_us _ _ _
  have hE := yS_kept hE (S1 := S6) (fun b t9 e9 hb9 h1 h2 => by rw [e_8]; exact mp_un (mp_ne hb9 h_o_o (by omega)))
  have hfr : ∀ b, S b ≠ none → b ≠ o → b ≠ eo gv → S6 b = S b := fun b h9 k0 k1 => by rw [e_8]; exact (mp_un k0).trans (hfr b h9 k0 k1)
  refine lv_aload_n hx hb d_B_poly_48 rfl (lv_at hl 0 rfl) ?_
  refine mp_get (C := R_B) (T := F_B) (N := 10) (v := .int (nI (gv + 1))) hx hb hg i_B hown hK.va hI h_o rfl 4 (by decide) (hg _ q_86) (fun _ h9 => h9) rfl d_B_poly_49 ?_
  refine lv_iconst (v := nI 1) hx hb d_B_poly_52 (by decide) ?_
  refine lv_isub hx hb d_B_poly_53 ?_
  refine lv_topi (fun v9 ev9 => ?_)
  obtain rfl : v9 = nI ((gv + 1) - 1) := ev9.trans (pk_sub (by omega))
  refine mp_iret hx hb hr hlocks hI (by decide) (by decide) ?_ d_B_poly_54
  exact ⟨congrArg nI (by omega), h_o, hE, hfr⟩
set_option maxHeartbeats 4000000 in
set_option maxRecDepth 100000 in
theorem lp_B_clear {p : Program} {l : Launch} {e : Env} {R : Room} {s : State} {m : MethodId} {args : Array Value} {below : List Frame} {meth : Method} {c : Code} {Q : State → Prop} {D : mp_G} {g : Nat → ClassId} {A : Nat → Prop} {cells slots : Nat} (hx : p.tables.exec = Jvm.exec) (hb : c.code = b_B_clear) (hml : c.maxLocals = 2) (hg : ∀ w ∈ gw, w.before args s = true) (hown : s.vm.findClass R_B = some m.cls) (hK : mp_K D classes (tys g) s) (hRf : 1 ≤ R.frames) (hRl : 20 ≤ R.locals) (hRc : cells ≤ R.cells) (hRs : slots ≤ R.slots) {B : mp_M} {o pa lo : Nat} {v0 v3 v4 v5 v6 v7 v8 v9 : Value} {eo ek en cap pz : Nat → Nat} {kf nf : Nat → Nat → Int32} : ∀ (n i : Nat) (S : mp_M) (H : Heap) (locs : List Loc) (ls : Array Slot), i + n = 40 → S o = some (0, .inr (0, [v0, .ref pa, .ref lo, v3, v4, v5, v6, v7, v8, v9])) → S pa = some (1, .inl ((g 2), 40, .inr (.inr (.inr (.inr (rfs eo 40)))))) → yS g 100 40 eo ek en cap (zTo pz i) kf nf S → (∀ b t e9, B b = some (t, e9) → (t < 100 ∨ 220 ≤ t) → S b = B b) → mp_I D classes A s.heap S H locs → lv_has ls 2 [(1, .int (nI i)), (0, .ref o)] → (∀ (S : mp_M) (H : Heap) (locs : List Loc) (ls : Array Slot), S o = some (0, .inr (0, [v0, .ref pa, .ref lo, v3, v4, v5, v6, v7, v8, v9])) → S pa = some (1, .inl ((g 2), 40, .inr (.inr (.inr (.inr (rfs eo 40)))))) → yS g 100 40 eo ek en cap (zTo pz 40) kf nf S → (∀ b t e9, B b = some (t, e9) → (t < 100 ∨ 220 ≤ t) → S b = B b) → mp_I D classes A s.heap S H locs → lv_has ls 2 [(0, .ref o)] → W p l e R s m args below meth c H locs cells slots Q (F0 m 23 ls [])) → W p l e R s m args below meth c H locs cells slots Q (F0 m 2 ls []) := by
  intro n
  induction n with
  | zero =>
    intro i S H locs ls hi h_o h_pa hE hfr0 hI hl kx
    obtain rfl : i = 40 := by omega
    refine lv_iload_n hx hb d_B_clear_2 rfl (lv_at hl 0 rfl) ?_
    refine lv_bipush (v := nI 40) hx hb d_B_clear_3 (by decide) ?_
    refine lv_icmp_ge (tgt := 23) hx hb d_B_clear_5 (by decide) (fun _ => ?_) (fun h9 => absurd (by decide) h9)
    exact kx S H locs ls h_o h_pa hE hfr0 hI (lv_sub hl [1] rfl)
  | succ n ih =>
    intro i S H locs ls hi h_o h_pa hE hfr0 hI hl kx
    have hi40 : i < 40 := by omega
    obtain ⟨y1, y2, y3⟩ := hE i hi40
    refine lv_iload_n hx hb d_B_clear_2 rfl (lv_at hl 0 rfl) ?_
    refine lv_bipush (v := nI 40) hx hb d_B_clear_3 (by decide) ?_
    refine lv_icmp_ge (tgt := 23) hx hb d_B_clear_5 (by decide) (fun h9 => absurd h9 (by rw [nI_leI (by omega) (by omega)]; omega)) (fun _ => ?_)
    refine lv_aload_n hx hb d_B_clear_8 rfl (lv_at hl 1 rfl) ?_
    refine mp_get (C := R_B) (T := F_B) (N := 10) (v := .ref pa) hx hb hg i_B hown hK.va hI h_o rfl 1 (by decide) (hg _ q_83) (fun _ h9 => h9) rfl d_B_clear_9 ?_
    refine lv_iload_n hx hb d_B_clear_12 rfl (lv_at hl 0 rfl) ?_
    refine mp_aldq (b := eo i) hx hb hK.va hI 2 h_pa rfl (vp_in_nI hi40 (by decide)) (by rw [nI_clamp (by omega)]; exact rfs_at hi40) d_B_clear_13 ?_
    refine mp_callv hI (va_runV (As := []) (rest := []) ⟨hx, hb, hml, hown, hg⟩ (c_Y_setZero l D g S _ (eo i) _ (ek i) (en i) _ y1) ⟨(callB_of 0 hg (wd_goodG q_534) rfl rfl rfl (hg _ q_3) (hg _ q_531) (by decide +kernel) ⟨Nat.le_trans (Nat.le_of_ble_eq_true rfl) hRf, Nat.le_trans (Nat.le_of_ble_eq_true rfl) hRl⟩), hg _ q_532, hg _ q_533⟩ (mp_preV (C := R_Y) (T := F_Y) hI hK y1 rfl []) rfl rfl hl.1 rfl (lv_room (Nat.le_of_ble_eq_true rfl)) d_B_clear_14 ⟨by omega, by omega⟩) (fun S1 H2 locs p_3 hI => ?_)
    have hfr1 : ∀ b t e9, B b = some (t, e9) → (t < 100 ∨ 220 ≤ t) → S1 b = B b := fun b t e9 h9 h8 => by rw [p_3]; exact (mp_un (mp_ne ((hfr0 b t e9 h9 h8).trans h9) y1 (by omega))).trans (hfr0 b t e9 h9 h8)
    have hE := yS_set (z := 0) hE hi40 p_3
    rw [zTo_up] at hE
    have p_3 : S1 = va_up S (eo i) (some ((100 + 3 * i), .inr (3, [.ref (ek i), .ref (en i), .int 0]))) := p_3
    have h_o : S1 o = some (0, .inr (0, [v0, .ref pa, .ref lo, v3, v4, v5, v6, v7, v8, v9])) := by rw [p_3]; exact mp_keep h_o y1 (by omega)
    have h_pa : S1 pa = some (1, .inl ((g 2), 40, .inr (.inr (.inr (.inr (rfs eo 40)))))) := by rw [p_3]; exact mp_keep h_pa y1 (by omega)
    have y1 : S1 (eo i) = some ((100 + 3 * i), .inr (3, [.ref (ek i), .ref (en i), .int 0])) := by rw [p_3]; exact mp_us _ _ _
    refine lv_iinc (v := nI (i + 1)) (lv' := [(1, .int (nI (i + 1))), (0, .ref o)]) hx hb d_B_clear_17 hl (k := 0) rfl (nI_1 _) (by decide) rfl (fun ls hl => ?_)
    refine lv_goto (tgt := 2) hx hb d_B_clear_20 (by decide) ?_
    exact ih (i + 1) S1 H2 locs ls (by omega) h_o h_pa hE hfr1 hI (lv_sub hl [0, 1] rfl) kx
set_option maxHeartbeats 4000000 in
set_option maxRecDepth 100000 in
/-- clear -/
theorem c_B_clear (l : Launch) (D : mp_G) (g : Nat → ClassId) (S : mp_M) (sz : Nat) (o pa lo : Nat) (v0 v3 v4 v5 v6 v7 v8 v9 u0 u1 u2 : Value) (eo ek en cap pz : Nat → Nat) (kf nf : Nat → Nat → Int32) (h_o : S o = some (0, .inr (0, [v0, .ref pa, .ref lo, v3, v4, v5, v6, v7, v8, v9]))) (h_pa : S pa = some (1, .inl ((g 2), 40, .inr (.inr (.inr (.inr (rfs eo 40))))))) (h_lo : S lo = some (2, .inr (9, [u0, u1, u2]))) (hE : yS g 100 40 eo ek en cap pz kf nf S) : Met l y_B_clear w_B_clear ({ frames := 1, cells := 0, slots := 0, locals := 20 }) (va_Pc [.ref o] (mp_B0 D classes (tys g) S sz)) (va_Qv (fun (S1 : mp_M) => S1 o = some (0, .inr (0, [v0, .ref pa, .ref lo, v3, .int 0, .int 0, .int 0, .int 0, v8, v9])) ∧ S1 lo = some (2, .inr (9, [u0, u1, .int 0])) ∧ yS g 100 40 eo ek en cap (fun _ => 0) kf nf S1 ∧ (∀ b t e9, S b = some (t, e9) → t ≠ 0 → t ≠ 2 → (t < 100 ∨ 220 ≤ t) → S1 b = S b)) (mp_B1 D classes S sz) (mp_A S sz)) 0 0 (mp_A S sz) := by
  refine Met.ofW (cc := b_B_clear) (maxL := 2) (ret := none) (by decide) rfl ?_
  intro p e s m args below meth c s₁ B hml hv
  obtain ⟨rfl, hsz, hH, hK⟩ := hv
  have hx := B.exec
  have hb := B.bytes
  have hr := B.returns
  have hts := atoms_spec (ws := w_B_clear) B.pre
  have hg : ∀ w ∈ gw, w.before _ s = true := fun w h => hts w (List.mem_cons_of_mem _ h)
  have hown : s.vm.findClass R_B = some m.cls := findClass_of_methodNamed B.named
  have hlocks := B.notSynchronized
  subst hsz
  have hI := mp_I.start hH
  have hl := lv_entry ([.ref o]) (n := 2) (Nat.le_of_ble_eq_true rfl)
  rw [lg_entry_eq]
  generalize (lg_sl ([.ref o]) ++ List.replicate (2 - (lg_sl ([.ref o])).length) Slot.unset).toArray = ls at hl ⊢
  have hl : lv_has ls 2 [(0, .ref o)] := hl
  refine lv_iconst (v := nI 0) hx hb d_B_clear_0 (by decide) ?_
  refine lv_istore_n (lv' := [(1, .int (nI 0)), (0, .ref o)]) hx hb d_B_clear_1 rfl hl (by decide) rfl (fun ls hl => ?_)
  refine lp_B_clear (B := S) (o := o) (pa := pa) (lo := lo) hx hb hml hg hown hK (Nat.le_of_ble_eq_true rfl) (Nat.le_of_ble_eq_true rfl) (Nat.le_of_ble_eq_true rfl) (Nat.le_of_ble_eq_true rfl) 40 0 S s.heap _ ls rfl h_o h_pa (by rw [zTo_0]; exact hE) (fun _ _ _ _ _ => rfl) hI (lv_sub hl [0, 1] rfl) (fun S9 H9 locs9 ls9 h_o h_pa hE hfr0 hI hl => ?_)
  have h_lo := (hfr0 lo _ _ h_lo (Or.inl (by decide))).trans h_lo
  have hfr1 : ∀ b t e9, S b = some (t, e9) → t ≠ 0 → t ≠ 2 → (t < 100 ∨ 220 ≤ t) → S9 b = S b := fun b t e9 h9 _ _ h8 => hfr0 b t e9 h9 h8
  refine lv_aload_n hx hb d_B_clear_23 rfl (lv_at hl 0 rfl) ?_
  refine mp_get (C := R_B) (T := F_B) (N := 10) (v := .ref lo) hx hb hg i_B hown hK.va hI h_o rfl 2 (by decide) (hg _ q_84) (fun _ h9 => h9) rfl d_B_clear_24 ?_
  refine lv_iconst (v := nI 0) hx hb d_B_clear_27 (by decide) ?_
  refine mp_putN (C := R_K) (T := F_K) (N := 3) (v := .int (nI 0)) (ty := .int) hx hb hg i_K t_K t_K_ok n_K hown hK.va hI h_lo rfl 2 (by decide) (hK.use q_67 rfl) (fun _ h9 => h9) rfl (by decide +kernel) (rfl) rfl (Nat.le_of_ble_eq_true rfl) d_B_clear_28 (fun S1 H2 locs e_3 hI => ?_)
  have e_3 : S1 = va_up S9 lo (some (2, .inr (9, [u0, u1, .int (nI 0)]))) := e_3
  have h_lo_o := h_lo
  have h_o : S1 o = some (0, .inr (0, [v0, .ref pa, .ref lo, v3, v4, v5, v6, v7, v8, v9])) := by rw [e_3]; exact mp_keep h_o h_lo (by decide)
  have h_pa : S1 pa = some (1, .inl ((g 2), 40, .inr (.inr (.inr (.inr (rfs eo 40)))))) := by rw [e_3]; exact mp_keep h_pa h_lo (by decide)
  have h_lo : S1 lo = some (2, .inr (9, [u0, u1, .int (nI 0)])) := by rw [e_3]; exact mp_us _ _ _
  have hE := yS_kept hE (S1 := S1) (fun b t9 e9 hb9 h1 h2 => by rw [e_3]; exact mp_un (mp_ne hb9 h_lo_o (by omega)))
  have hfr1 : ∀ b t e9, S b = some (t, e9) → t ≠ 0 → t ≠ 2 → (t < 100 ∨ 220 ≤ t) → S1 b = S b := fun b t e9 h9 k0 k2 h8 => by rw [e_3]; exact (mp_un (mp_ne ((hfr1 b t e9 h9 k0 k2 h8).trans h9) h_lo_o k2)).trans (hfr1 b t e9 h9 k0 k2 h8)
  refine lv_aload_n hx hb d_B_clear_31 rfl (lv_at hl 0 rfl) ?_
  refine lv_iconst (v := nI 0) hx hb d_B_clear_32 (by decide) ?_
  refine mp_put (C := R_B) (T := F_B) (N := 10) (v := .int (nI 0)) (ty := .int) hx hb hg i_B t_B t_B_ok n_B hown hK.va hI h_o rfl 4 (by decide) (hg _ q_86) (fun _ h9 => h9) rfl (by decide +kernel) (rfl) rfl (Nat.le_of_ble_eq_true rfl) d_B_clear_33 (fun S4 H5 locs e_6 hI => ?_)
  have e_6 : S4 = va_up S1 o (some (0, .inr (0, [v0, .ref pa, .ref lo, v3, .int (nI 0), v5, v6, v7, v8, v9]))) := e_6
  have h_o_o := h_o
  have h_pa : S4 pa = some (1, .inl ((g 2), 40, .inr (.inr (.inr (.inr (rfs eo 40)))))) := by rw [e_6]; exact mp_keep h_pa h_o (by decide)
  have h_lo : S4 lo = some (2, .inr (9, [u0, u1, .int (nI 0)])) := by rw [e_6]; exact mp_keep h_lo h_o (by decide)
  have h_o : S4 o = some (0, .inr (0, [v0, .ref pa, .ref lo, v3, .int (nI 0), v5, v6, v7, v8, v9])) := by rw [e_6]; exact mp_us _ _ _
  have hE := yS_kept hE (S1 := S4) (fun b t9 e9 hb9 h1 h2 => by rw [e_6]; exact mp_un (mp_ne hb9 h_o_o (by omega)))
  have hfr1 : ∀ b t e9, S b = some (t, e9) → t ≠ 0 → t ≠ 2 → (t < 100 ∨ 220 ≤ t) → S4 b = S b := fun b t e9 h9 k0 k2 h8 => by rw [e_6]; exact (mp_un (mp_ne ((hfr1 b t e9 h9 k0 k2 h8).trans h9) h_o_o k0)).trans (hfr1 b t e9 h9 k0 k2 h8)
  refine lv_aload_n hx hb d_B_clear_36 rfl (lv_at hl 0 rfl) ?_
  refine lv_iconst (v := nI 0) hx hb d_B_clear_37 (by decide) ?_
  refine mp_put (C := R_B) (T := F_B) (N := 10) (v := .int (nI 0)) (ty := .int) hx hb hg i_B t_B t_B_ok n_B hown hK.va hI h_o rfl 5 (by decide) (hg _ q_87) (fun _ h9 => h9) rfl (by decide +kernel) (rfl) rfl (Nat.le_of_ble_eq_true rfl) d_B_clear_38 (fun S7 H8 locs e_9 hI => ?_)
  have e_9 : S7 = va_up S4 o (some (0, .inr (0, [v0, .ref pa, .ref lo, v3, .int (nI 0), .int (nI 0), v6, v7, v8, v9]))) := e_9
  have h_o_o := h_o
  have h_pa : S7 pa = some (1, .inl ((g 2), 40, .inr (.inr (.inr (.inr (rfs eo 40)))))) := by rw [e_9]; exact mp_keep h_pa h_o (by decide)
  have h_lo : S7 lo = some (2, .inr (9, [u0, u1, .int (nI 0)])) := by rw [e_9]; exact mp_keep h_lo h_o (by decide)
  have h_o : S7 o = some (0, .inr (0, [v0, .ref pa, .ref lo, v3, .int (nI 0), .int (nI 0), v6, v7, v8, v9])) := by rw [e_9]; exact mp_us _ _ _
  have hE := yS_kept hE (S1 := S7) (fun b t9 e9 hb9 h1 h2 => by rw [e_9]; exact mp_un (mp_ne hb9 h_o_o (by omega)))
  have hfr1 : ∀ b t e9, S b = some (t, e9) → t ≠ 0 → t ≠ 2 → (t < 100 ∨ 220 ≤ t) → S7 b = S b := fun b t e9 h9 k0 k2 h8 => by rw [e_9]; exact (mp_un (mp_ne ((hfr1 b t e9 h9 k0 k2 h8).trans h9) h_o_o k0)).trans (hfr1 b t e9 h9 k0 k2 h8)
  refine lv_aload_n hx hb d_B_clear_41 rfl (lv_at hl 0 rfl) ?_
  refine lv_iconst (v := nI 0) hx hb d_B_clear_42 (by decide) ?_
  refine mp_put (C := R_B) (T := F_B) (N := 10) (v := .int (nI 0)) (ty := .int) hx hb hg i_B t_B t_B_ok n_B hown hK.va hI h_o rfl 6 (by decide) (hg _ q_88) (fun _ h9 => h9) rfl (by decide +kernel) (rfl) rfl (Nat.le_of_ble_eq_true rfl) d_B_clear_43 (fun S10 H11 locs e_12 hI => ?_)
  have e_12 : S10 = va_up S7 o (some (0, .inr (0, [v0, .ref pa, .ref lo, v3, .int (nI 0), .int (nI 0), .int (nI 0), v7, v8, v9]))) := e_12
  have h_o_o := h_o
  have h_pa : S10 pa = some (1, .inl ((g 2), 40, .inr (.inr (.inr (.inr (rfs eo 40)))))) := by rw [e_12]; exact mp_keep h_pa h_o (by decide)
  have h_lo : S10 lo = some (2, .inr (9, [u0, u1, .int (nI 0)])) := by rw [e_12]; exact mp_keep h_lo h_o (by decide)
  have h_o : S10 o = some (0, .inr (0, [v0, .ref pa, .ref lo, v3, .int (nI 0), .int (nI 0), .int (nI 0), v7, v8, v9])) := by rw [e_12]; exact mp_us _ _ _
  have hE := yS_kept hE (S1 := S10) (fun b t9 e9 hb9 h1 h2 => by rw [e_12]; exact mp_un (mp_ne hb9 h_o_o (by omega)))
  have hfr1 : ∀ b t e9, S b = some (t, e9) → t ≠ 0 → t ≠ 2 → (t < 100 ∨ 220 ≤ t) → S10 b = S b := fun b t e9 h9 k0 k2 h8 => by rw [e_12]; exact (mp_un (mp_ne ((hfr1 b t e9 h9 k0 k2 h8).trans h9) h_o_o k0)).trans (hfr1 b t e9 h9 k0 k2 h8)
  refine lv_aload_n hx hb d_B_clear_46 rfl (lv_at hl 0 rfl) ?_
  refine lv_iconst (v := nI 0) hx hb d_B_clear_47 (by decide) ?_
  refine mp_put (C := R_B) (T := F_B) (N := 10) (v := .int (nI 0)) (ty := .boolean) hx hb hg i_B t_B t_B_ok n_B hown hK.va hI h_o rfl 7 (by decide) (hg _ q_89) (fun _ h9 => h9) rfl (by decide +kernel) (rfl) rfl (Nat.le_of_ble_eq_true rfl) d_B_clear_48 (fun S13 H14 locs e_15 hI => ?_)
  have e_15 : S13 = va_up S10 o (some (0, .inr (0, [v0, .ref pa, .ref lo, v3, .int (nI 0), .int (nI 0), .int (nI 0), .int (nI 0), v8, v9]))) := e_15
  have h_o_o := h_o
  have h_pa : S13 pa = some (1, .inl ((g 2), 40, .inr (.inr (.inr (.inr (rfs eo 40)))))) := by rw [e_15]; exact mp_keep h_pa h_o (by decide)
  have h_lo : S13 lo = some (2, .inr (9, [u0, u1, .int (nI 0)])) := by rw [e_15]; exact mp_keep h_lo h_o (by decide)
  have h_o : S13 o = some (0, .inr (0, [v0, .ref pa, .ref lo, v3, .int (nI 0), .int (nI 0), .int (nI 0), .int (nI 0), v8, v9])) := by rw [e_15]; exact mp_us _ _ _
  have hE := yS_kept hE (S1 := S13) (fun b t9 e9 hb9 h1 h2 => by rw [e_15]; exact mp_un (mp_ne hb9 h_o_o (by omega)))
  have hfr1 : ∀ b t e9, S b = some (t, e9) → t ≠ 0 → t ≠ 2 → (t < 100 ∨ 220 ≤ t) → S13 b = S b := fun b t e9 h9 k0 k2 h8 => by rw [e_15]; exact (mp_un (mp_ne ((hfr1 b t e9 h9 k0 k2 h8).trans h9) h_o_o k0)).trans (hfr1 b t e9 h9 k0 k2 h8)
  refine mp_vret hx hb hr hlocks hI (by decide) (by decide) ?_ d_B_clear_51
  exact ⟨h_o, h_lo, yS_sz hE (fun j hj => if_pos hj), hfr1⟩
