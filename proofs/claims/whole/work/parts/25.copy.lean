section CP
variable {p : Program} {l : Launch} {e : Env} {R : Room} {s : State} {m : MethodId} {args : Array Value} {below : List Frame} {meth : Method} {c : Code} {H H0 : Heap} {locs : List Loc} {cells slots : Nat} {Q : State → Prop} {pc : Nat} {ls : Array Slot} {rest : List Value} {cc : ByteArray} {D : mp_G} {cl : List vw_C} {tys : List (ClassId × FieldType)} {S : mp_M} {A : Nat → Prop} {a a0 t u : Nat}
/-- numbers are copied from one array to another -/
theorem mp_copyi (hexec : p.tables.exec = Jvm.exec) (hb : c.code = cc) (hml : c.maxLocals = ls.size) {own : String} {index : Nat} (hown : s.vm.findClass own = some m.cls) (hlink : (Cond.methodLink own index arraycopyName).before args s = true) (hnat : (Cond.native arraycopyName).before args s = true) (hstat : (Cond.static arraycopyName).before args s = true) (hini : (Cond.initialized "java/lang/System").before args s = true)
    (hK : va_K D.1 cl tys s) (hI : mp_I D cl A H0 S H locs) (t0 : Nat) {c0 : ClassId} {n0 n1 : Nat} {f g : Nat → Int32} (ha0 : S a0 = some (u, .inl (c0, n0, .inl f))) (ha1 : S a = some (t, .inl (c0, n1, .inl g))) (ht0 : tys[t0]? = some (c0, .int))
    {sp dp n : Nat} (h4 : sp + n ≤ n0) (h5 : dp + n ≤ n1) (h6 : n0 < 2 ^ 31) (h7 : n1 < 2 ^ 31)
    (hframes : 1 ≤ R.frames) (hlocals : (rest.map fun v => v.category).sum + (nativeFrameWords "java/lang/System" "arraycopy" 5 + 11) ≤ R.locals) (hdg : decode cc pc = .ok (.invokestatic index, 3))
    (kk : ∀ (S1 : mp_M) (H1 : Heap) (locs1 : List Loc), S1 = va_up S a (some (t, .inl (c0, n1, .inl (va_cpy f g sp dp n)))) → mp_I D cl A H0 S1 H1 locs1 → W p l e R s m args below meth c H1 locs1 cells slots Q (F0 m (pc + 3) ls rest)) : W p l e R s m args below meth c H locs cells slots Q (F0 m pc ls (.int (nI n) :: .int (nI dp) :: .ref a :: .int (nI sp) :: .ref a0 :: rest)) := by
  have k1 : (nI sp).toNatClampNeg = sp := nI_clamp (by omega)
  have k2 : (nI dp).toNatClampNeg = dp := nI_clamp (by omega)
  have k3 : (nI n).toNatClampNeg = n := nI_clamp (by omega)
  intro T hT X
  have hc0 : H[a0]? = some (vp_cell c0 (n0, .inl f)) := hI.1.1 a0 u _ ha0
  have hc1 : H[a]? = some (vp_cell c0 (n1, .inl g)) := hI.1.1 a t _ ha1
  obtain ⟨-, k0, hk0, cm0, hkk0⟩ := (hK.2 t0 _ ht0).1 n0 (fun j => .int (f j))
  obtain ⟨-, k9, hk9, cm9, hkk9⟩ := (hK.2 t0 _ ht0).1 n1 (fun j => .int (g j))
  obtain ⟨vm', X', step⟩ := X.arraycopy hexec hown hlink hnat hstat hini (src := a0) (dst := a) (cs := vp_cell c0 (n0, .inl f)) (cd := vp_cell c0 (n1, .inl g)) (srcPos := nI sp) (destPos := nI dp) (n := nI n) (by rw [hT]; exact hc0) (by rw [hT]; exact hc1)
    (fun _ h => by cases h) (fun _ h => by cases h) (fun h => by cases h) (fun h => by cases h) hk0 hk9 hkk0 hkk9 (by simp [refKind]) (nI_pos (by omega)) (nI_pos (by omega)) (nI_pos (by omega))
    (by rw [nI_toInt (by omega), nI_toInt (by omega)]; show ¬ _ > ((arrV c0 n0 (fun j => .int (f j))).slots.size : Int); rw [arrV_size]; omega)
    (by rw [nI_toInt (by omega), nI_toInt (by omega)]; show ¬ _ > ((arrV c0 n1 (fun j => .int (g j))).slots.size : Int); rw [arrV_size]; omega)
    (fun vm₁ _ i hi => by
      have e : (vp_cell c0 (n0, .inl f)).slots.getD ((nI sp).toNatClampNeg + i) .null = .int (f ((nI sp).toNatClampNeg + i)) := by
        show (arrV c0 n0 (fun j => .int (f j))).slots.getD _ _ = _
        rw [k3] at hi
        rw [Array.getD_eq_getD_getElem?, arrV_read _ _ (by rw [k1]; omega)]
        rfl
      refine ⟨?_, ?_⟩
      · rw [e]; rfl
      · rw [e]; exact trivial)
    (g := F0 m pc ls (.int (nI n) :: .int (nI dp) :: .ref a :: .int (nI sp) :: .ref a0 :: rest)) rfl (by rw [hml]) (rest := rest) rfl (by rw [hb]; exact hdg) hframes (by show 2 * 0 + _ + _ ≤ _; omega)
  have e1 : copied (vp_cell c0 (n0, .inl f)) (vp_cell c0 (n1, .inl g)) (nI sp) (nI dp) (nI n) = vp_cell c0 (n1, .inl (va_cpy f g sp dp n)) := by
    have h9 : copied (vp_cell c0 (n0, .inl f)) (vp_cell c0 (n1, .inl g)) (nI sp) (nI dp) (nI n) = vp_cell c0 (n1, .inl (va_cpy f g (nI sp).toNatClampNeg (nI dp).toNatClampNeg (nI n).toNatClampNeg)) := va_copied (fun z => .int z) c0 c0 f g (by rw [k1, k3]; exact h4)
    rw [h9, k1, k2, k3]
  rw [e1] at X' step
  have hl : a < H.size := (Array.getElem?_eq_some_iff.mp hc1).1
  have hheap : ((T.setVm vm').setCell a (vp_cell c0 (n1, .inl (va_cpy f g sp dp n)))).heap = H.setIfInBounds a (vp_cell c0 (n1, .inl (va_cpy f g sp dp n))) := by rw [← hT]; rfl
  have oq : ∀ q : Nat, q ≠ a → (H.setIfInBounds a (vp_cell c0 (n1, .inl (va_cpy f g sp dp n))))[q]? = H[q]? := fun q hq => by simp [Array.getElem?_setIfInBounds, Ne.symm hq]
  obtain ⟨i1, i2, i3, i4⟩ := hI.put (k := 0) (e := .inl (c0, n1, .inl (va_cpy f g sp dp n))) ha1 (show (H.setIfInBounds a _)[a]? = some _ by simp [Array.getElem?_setIfInBounds, hl]) (by simp) oq
  obtain ⟨t9, a1, b1⟩ := kk _ _ _ rfl ⟨i1, i2, ⟨i3.1, i3.2.1, fun q hq => by
      rcases List.mem_append.mp hq with h | h
      · exact hI.2.2.1.2.2 q h
      · obtain ⟨z, -, hz⟩ := List.mem_map.mp h
        rw [← hz]
        exact hI.2.1 a (mp_in ha1)⟩, i4⟩ _ hheap X'
  exact ⟨t9, step t9 a1, b1⟩
end CP
theorem nat_copy {D : mp_G} {cl : List vw_C} {tys : List (ClassId × FieldType)} {s : State} {args : Array Value} (hK : mp_K D cl tys s) : (Cond.native arraycopyName).before args s = true := word_at hK.2 (Or.inl (by first | rfl | simp [Cond.onTables, Cond.keeps, Cond.steady])) (hK.1.2.1 _ q_399)
theorem d_A_copyOf_0 : decode b_A_copyOf 0 = .ok (.iload_n 1, 1) := by decide +kernel
theorem d_A_copyOf_1 : decode b_A_copyOf 1 = .ok (.aload_n 0, 1) := by decide +kernel
theorem d_A_copyOf_2 : decode b_A_copyOf 2 = .ok (.arraylength, 1) := by decide +kernel
theorem d_A_copyOf_3 : decode b_A_copyOf 3 = .ok (.if_icmp .ne 11, 3) := by decide +kernel
theorem d_A_copyOf_14 : decode b_A_copyOf 14 = .ok (.iload_n 1, 1) := by decide +kernel
theorem d_A_copyOf_15 : decode b_A_copyOf 15 = .ok (.newarray .int, 2) := by decide +kernel
theorem d_A_copyOf_17 : decode b_A_copyOf 17 = .ok (.astore_n 2, 1) := by decide +kernel
theorem d_A_copyOf_18 : decode b_A_copyOf 18 = .ok (.aload_n 0, 1) := by decide +kernel
theorem d_A_copyOf_19 : decode b_A_copyOf 19 = .ok (.iconst 0, 1) := by decide +kernel
theorem d_A_copyOf_20 : decode b_A_copyOf 20 = .ok (.aload_n 2, 1) := by decide +kernel
theorem d_A_copyOf_21 : decode b_A_copyOf 21 = .ok (.iconst 0, 1) := by decide +kernel
theorem d_A_copyOf_22 : decode b_A_copyOf 22 = .ok (.aload_n 0, 1) := by decide +kernel
theorem d_A_copyOf_23 : decode b_A_copyOf 23 = .ok (.arraylength, 1) := by decide +kernel
theorem d_A_copyOf_24 : decode b_A_copyOf 24 = .ok (.iload_n 1, 1) := by decide +kernel
theorem d_A_copyOf_25 : decode b_A_copyOf 25 = .ok (.invokestatic 304, 3) := by decide +kernel
theorem d_A_copyOf_28 : decode b_A_copyOf 28 = .ok (.invokestatic 150, 3) := by decide +kernel
theorem d_A_copyOf_31 : decode b_A_copyOf 31 = .ok (.aload_n 2, 1) := by decide +kernel
theorem d_A_copyOf_32 : decode b_A_copyOf 32 = .ok (.areturn, 1) := by decide +kernel
set_option maxHeartbeats 4000000 in
set_option maxRecDepth 100000 in
/-- an array made longer -/
theorem c_A_copyOf (l : Launch) (D : mp_G) (g : Nat → ClassId) (S : mp_M) (sz : Nat) (a u k n tg : Nat) (f : Nat → Int32) (h_a : S a = some (u, .inl ((g 0), k, .inl f))) (hk : k ≤ n) (hkn : n ≠ k) (hn : n ≤ 4096) : Met l y_A_copyOf w_A_copyOf ({ frames := 1, cells := 1, slots := n, locals := 60 }) (va_Pc [.ref a, .int (nI n)] (mp_B0 D classes (tys g) S sz)) (va_Qr (fun _ : mp_M => True) (fun S1 ra u => mp_B1 D classes S sz S1 u ∧ S ra = none ∧ S1 ra = some (tg, .inl ((g 0), n, .inl (va_cpy f (fun _ => 0) 0 0 k))) ∧ (∀ b, S b ≠ none → S1 b = S b)) (mp_A S sz)) 1 n (mp_A S sz) := by
  refine Met.ofW (cc := b_A_copyOf) (maxL := 3) (ret := (some (.array .int))) (by decide) rfl ?_
  intro p e s m args below meth c s₁ B hml hv
  obtain ⟨rfl, hsz, hH, hK⟩ := hv
  have hx := B.exec
  have hb := B.bytes
  have hr := B.returns
  have hts := atoms_spec (ws := w_A_copyOf) B.pre
  have hg : ∀ w ∈ gw, w.before _ s = true := fun w h => hts w (List.mem_cons_of_mem _ h)
  have hown : s.vm.findClass R_A = some m.cls := findClass_of_methodNamed B.named
  have hlocks := B.notSynchronized
  subst hsz
  have hI := mp_I.start hH
  have hl := lv_entry ([.ref a, .int (nI n)]) (n := 3) (Nat.le_of_ble_eq_true rfl)
  rw [lg_entry_eq]
  generalize (lg_sl ([.ref a, .int (nI n)]) ++ List.replicate (3 - (lg_sl ([.ref a, .int (nI n)])).length) Slot.unset).toArray = ls at hl ⊢
  have hl : lv_has ls 3 [(0, .ref a), (1, .int (nI n))] := hl
  refine lv_iload_n hx hb d_A_copyOf_0 rfl (lv_at hl 1 rfl) ?_
  refine lv_aload_n hx hb d_A_copyOf_1 rfl (lv_at hl 0 rfl) ?_
  refine mp_alen (v := nI k) hx hb hK.va hI 0 h_a rfl rfl d_A_copyOf_2 ?_
  refine lv_icmp_ne (tgt := 14) hx hb d_A_copyOf_3 (by decide) (fun _ => ?_) (fun h9 => absurd h9 (fun h9 => absurd ((nI_eq (by omega) (by omega)).mp h9) (by omega)))
  refine lv_iload_n hx hb d_A_copyOf_14 rfl (lv_at hl 1 rfl) ?_
  refine mp_newi (N' := n) hx hb (hg _ q_60) hK.va hI 0 tg rfl (nI_pos (by omega)) (nI_clamp (by omega)) (show n * 4 ≤ 536870912 by omega) (Nat.le_of_ble_eq_true rfl) (show 0 + n ≤ n by omega) d_A_copyOf_15 (fun S1 H2 z_4 e_3 hI => ?_)
  obtain ⟨a5, ea5⟩ : ∃ z, z = s.heap.size := ⟨_, rfl⟩
  rw [← ea5] at z_4 e_3
  refine W.eq (g2 := F0 m 17 ls [.ref a5]) (by rw [ea5]) ?_
  have h_a : S1 a = some (u, .inl ((g 0), k, .inl f)) := by rw [e_3]; exact mp_keepN h_a z_4
  have h_6 : S1 a5 = some (tg, .inl ((g 0), n, .inl (fun _ => 0))) := by rw [e_3]; exact mp_us _ _ _
  refine lv_astore_n (lv' := [(2, .ref a5), (0, .ref a), (1, .int (nI n))]) hx hb d_A_copyOf_17 rfl hl (by decide) rfl (fun ls hl => ?_)
  refine lv_aload_n hx hb d_A_copyOf_18 rfl (lv_at hl 1 rfl) ?_
  refine lv_iconst (v := nI 0) hx hb d_A_copyOf_19 (by decide) ?_
  refine lv_aload_n hx hb d_A_copyOf_20 rfl (lv_at hl 0 rfl) ?_
  refine lv_iconst (v := nI 0) hx hb d_A_copyOf_21 (by decide) ?_
  refine lv_aload_n hx hb d_A_copyOf_22 rfl (lv_at hl 1 rfl) ?_
  refine mp_alen (v := nI k) hx hb hK.va hI 0 h_a rfl rfl d_A_copyOf_23 ?_
  refine lv_iload_n hx hb d_A_copyOf_24 rfl (lv_at hl 2 rfl) ?_
  refine va_mmin hx hb (hml.trans hl.1.symm) hown (hg _ q_710) (hg _ q_76) (hg _ q_4) (hg _ q_77) (Nat.le_of_ble_eq_true rfl) (Nat.le_of_ble_eq_true rfl) (Nat.le_of_ble_eq_true rfl) (show 0 + n ≤ n by omega) d_A_copyOf_25 ?_
  refine lv_topi (fun v9 ev9 => ?_)
  obtain rfl : v9 = nI k := ev9.trans (if_neg (by rw [nI_ltI (by omega) (by omega)]; omega))
  refine mp_copyi hx hb (hml.trans hl.1.symm) hown (hg _ q_711) (nat_copy hK) (hg _ q_398) (hg _ q_15) hK.va hI 0 h_a h_6 rfl (sp := 0) (dp := 0) (n := k) (by omega) (by omega) (by omega) (by omega) (Nat.le_of_ble_eq_true rfl) (Nat.le_of_ble_eq_true rfl) d_A_copyOf_28 (fun S7 H8 locs e_9 hI => ?_)
  refine lv_aload_n hx hb d_A_copyOf_31 rfl (lv_at hl 0 rfl) ?_
  refine mp_aret hx hb hr (Or.inr ⟨_, rfl⟩) hlocks hI (Nat.le_of_ble_eq_true rfl) (show 0 + n ≤ n by omega) ?_ d_A_copyOf_32
  exact ⟨z_4, by rw [e_9]; exact mp_us _ _ _, fun b h9 => by rw [e_9, mp_un (fun z9 => h9 (by rw [z9]; exact z_4)), e_3, mp_un (fun z9 => h9 (by rw [z9]; exact z_4))]⟩
