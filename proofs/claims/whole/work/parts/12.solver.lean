/-- rows of an array of arrays of numbers -/
def rS (g : Nat → ClassId) (T0 n w : Nat) (ro : Nat → Nat) (f : Nat → Nat → Int32) (S : mp_M) : Prop := ∀ i, i < n → S (ro i) = some (T0 + i, .inl (g 0, w, .inl (f i)))
theorem rS_kept {g : Nat → ClassId} {T0 n w : Nat} {ro : Nat → Nat} {f : Nat → Nat → Int32} {S S1 : mp_M} (h : rS g T0 n w ro f S) (hk : ∀ b t e, S b = some (t, e) → T0 ≤ t → t < T0 + n → S1 b = S b) : rS g T0 n w ro f S1 := fun i hi => (hk _ _ _ (h i hi) (by omega) (by omega)).trans (h i hi)
theorem mp_outer (c : ClassId) (N h0 : Nat) : ∀ i : Nat, Jvm.Free.Multi.outerC c N h0 i = arrV c N (fun j => va_rf (rfs (fun k => h0 + 1 + k) i j))
  | 0 => by
    show ({ cls := c, slots := Array.replicate N .null, vm := .none } : Cell) = _
    rw [arrV_new]
    exact congrArg (arrV c N) (funext fun j => by simp [rfs, va_rf])
  | i + 1 => by
    show (Jvm.Free.Multi.outerC c N h0 i).setSlot i (.ref (h0 + 1 + i)) = _
    rw [mp_outer c N h0 i, arrV_store]
    refine congrArg (arrV c N) (funext fun j => ?_)
    by_cases e : j = i
    · subst e
      simp [updV, rfs, va_rf]
    · by_cases h : j < i
      · simp [updV, rfs, e, h, Nat.lt_succ_of_lt h]
      · simp [updV, rfs, e, h, show ¬ j < i + 1 by omega]
section MNA
variable {p : Program} {l : Launch} {e : Env} {R : Room} {s : State} {m : MethodId} {args : Array Value} {below : List Frame} {meth : Method} {c : Code} {H : Heap} {locs : List Loc} {cells slots : Nat} {Q : State → Prop}
variable {cc : ByteArray} {pc : Nat} {ls : Array Slot} {rest : List Value} {D : mp_G} {cl : List vw_C} {A : Nat → Prop} {g : Nat → ClassId} {S : mp_M} {H0 : Heap}
theorem mp_mna (hexec : p.tables.exec = Jvm.exec) (hb : c.code = cc) {own : String} {index : Nat} (hown : s.vm.findClass own = some m.cls) (hclink : (Cond.classLink own index "[[I").before args s = true) (hover : (Cond.arrayOver (.array .int)).before args s = true) (harr : (Cond.arrayClass .int).before args s = true)
    (hK : va_K D.1 cl (tys g) s) (hI : mp_I D cl A H0 S H locs) (tg T0 : Nat) {n k : Int32} {N' K' : Nat} (hn : ¬ n < 0) (hk : ¬ k < 0) (hN : n.toNatClampNeg = N') (hM : k.toNatClampNeg = K') (hb1 : N' ≤ 100) (hb2 : K' ≤ 100)
    (hcells : cells + (1 + N') ≤ R.cells) (hslots : slots + (N' + N' * K') ≤ R.slots) (hdg : decode cc pc = .ok (.multianewarray index 2, 4))
    (kk : ∀ (q : Nat) (S1 : mp_M) (H1 : Heap), H.size ≤ q → S q = none → S1 q = some (tg, .inl (g 1, N', .inr (.inr (.inr (.inr (rfs (fun i => q + 1 + i) N')))))) → rS g T0 N' K' (fun i => q + 1 + i) (fun _ _ => 0) S1 → (∀ b, S b ≠ none → S1 b = S b) → mp_I D cl A H0 S1 H1 locs →
      W p l e R s m args below meth c H1 locs (cells + 1 + N') (slots + N' + N' * K') Q (F0 m (pc + 4) ls (.ref q :: rest))) : W p l e R s m args below meth c H locs cells slots Q (F0 m pc ls (.int k :: .int n :: rest)) := by
  subst hN
  subst hM
  intro T hT Xs
  have hb2' : k.toNatClampNeg * componentBytes FieldType.int ≤ 536870912 := Nat.le_trans (Nat.mul_le_mul_right _ hb2) (by decide)
  obtain ⟨vm₁, cA, comp, -, fA, fC, -, -, X', step⟩ := Xs.multianewarray2F (ty := .int) hexec hown hclink hover harr (g := F0 m pc ls (.int k :: .int n :: rest)) rfl (by rw [hb]; exact hdg) rfl hn hk (by omega) hb2' (by omega) rfl rfl hcells hslots
  have ec : comp = g 0 := Option.some.inj (fC.symm.trans (hK.2 0 _ rfl).2)
  have eA : cA = g 1 := Option.some.inj (fA.symm.trans (hK.2 1 _ rfl).2)
  subst ec
  subst eA
  generalize hF : Jvm.Free.Multi.fill (T.setVm vm₁) (g 1) (g 0) n.toNatClampNeg k.toNatClampNeg (defaultValue .int) n.toNatClampNeg = F at X' step
  have hTh : (T.setVm vm₁).heap = H := hT
  obtain ⟨f1, f2, -, -⟩ := Jvm.Free.Multi.fill_facts (T.setVm vm₁) (g 1) (g 0) n.toNatClampNeg k.toNatClampNeg (defaultValue .int) n.toNatClampNeg
  rw [hF, hTh] at f1 f2
  have hold : ∀ x : Nat, x < H.size → F.heap[x]? = H[x]? := fun x hx => by
    have := Jvm.Free.Multi.fill_old (T.setVm vm₁) (g 1) (g 0) n.toNatClampNeg k.toNatClampNeg (defaultValue .int) (a := x) (by rw [hTh]; exact hx) n.toNatClampNeg
    rw [hF, hTh] at this
    exact this
  have hrow : ∀ j : Nat, j < n.toNatClampNeg → F.heap[H.size + 1 + j]? = some (vp_cell (g 0) (k.toNatClampNeg, .inl (fun _ => 0))) := fun j hj => by
    have := Jvm.Free.Multi.fill_inner (T.setVm vm₁) (g 1) (g 0) n.toNatClampNeg k.toNatClampNeg (defaultValue .int) n.toNatClampNeg j hj
    rw [hF, hTh] at this
    rw [this]
    show some ({ cls := g 0, slots := Array.replicate k.toNatClampNeg (.int 0), vm := .none } : Cell) = _
    rw [vp_cell_i, arrV_new]
  rw [mp_outer] at f2
  have hdom : ∀ a, S a ≠ none → a < H.size := fun a ha => hI.lt ha
  let S1 : mp_M := fun a => if a = H.size then some (tg, .inl (g 1, n.toNatClampNeg, .inr (.inr (.inr (.inr (rfs (fun i => H.size + 1 + i) n.toNatClampNeg)))))) else if H.size < a ∧ a < H.size + 1 + n.toNatClampNeg then some (T0 + (a - (H.size + 1)), .inl (g 0, k.toNatClampNeg, .inl (fun _ => 0))) else S a
  have hS1q : S1 H.size = some (tg, .inl (g 1, n.toNatClampNeg, .inr (.inr (.inr (.inr (rfs (fun i => H.size + 1 + i) n.toNatClampNeg)))))) := if_pos rfl
  have hS1r : ∀ i, i < n.toNatClampNeg → S1 (H.size + 1 + i) = some (T0 + i, .inl (g 0, k.toNatClampNeg, .inl (fun _ => 0))) := fun i hi => by
    show (if _ then _ else if _ then _ else _) = _
    rw [if_neg (by omega), if_pos (by omega), show H.size + 1 + i - (H.size + 1) = i by omega]
  have hS1o : ∀ b, b < H.size → S1 b = S b := fun b hb => by
    show (if _ then _ else if _ then _ else _) = _
    rw [if_neg (by omega), if_neg (by omega)]
  have hcase : ∀ a, (a = H.size) ∨ (∃ i, i < n.toNatClampNeg ∧ a = H.size + 1 + i) ∨ (a < H.size) ∨ (H.size + 1 + n.toNatClampNeg ≤ a) := fun a => by
    by_cases h1 : a < H.size
    · exact Or.inr (Or.inr (Or.inl h1))
    · by_cases h2 : a = H.size
      · exact Or.inl h2
      · by_cases h3 : a < H.size + 1 + n.toNatClampNeg
        · exact Or.inr (Or.inl ⟨a - (H.size + 1), by omega, by omega⟩)
        · exact Or.inr (Or.inr (Or.inr (by omega)))
  have hI1 : mp_I D cl A H0 S1 F.heap locs := by
    refine ⟨⟨fun a t e9 ha => ?_, fun a c9 ha => ?_⟩, fun a ha => ?_, ⟨Nat.le_trans hI.2.2.1.1 (by omega), fun x h1 h2 => (hold x (Nat.lt_of_lt_of_le h1 hI.2.2.1.1)).trans (hI.2.2.1.2.1 x h1 h2), hI.2.2.1.2.2⟩, hI.2.2.2⟩
    · rcases hcase a with rfl | ⟨i, hi, rfl⟩ | h | h
      · rw [hS1q] at ha
        cases ha
        show F.heap[H.size]? = some (vp_cell _ _)
        rw [f2, vp_cell_q]
      · rw [hS1r i hi] at ha
        cases ha
        exact hrow i hi
      · rw [hS1o a h] at ha
        exact (hI.1.1 a t e9 ha).kept (hold a h)
      · exfalso
        have : S1 a = S a := by
          show (if _ then _ else if _ then _ else _) = _
          rw [if_neg (by omega), if_neg (by omega)]
        rw [this] at ha
        have := hdom a (mp_in ha)
        omega
    · obtain ⟨g1, g2⟩ := hI.1.2 a c9 ha
      have hl := (Array.getElem?_eq_some_iff.mp g2).1
      exact ⟨(hS1o a hl).trans g1, (hold a hl).trans g2⟩
    · by_cases h : a < H.size
      · rw [hS1o a h] at ha
        exact hI.2.1 a ha
      · exact hI.2.2.2 a (Nat.le_trans hI.2.2.1.1 (by omega))
  obtain ⟨t2, a1, b1⟩ := kk H.size S1 F.heap (Nat.le_refl _) hI.fresh hS1q hS1r (fun b hb => hS1o b (hdom b hb)) hI1 F rfl X'
  exact ⟨t2, step t2 (by rw [hT]; exact a1), b1⟩
end MNA
theorem d_N_init_0 : decode b_N_init 0 = .ok (.aload_n 0, 1) := by decide +kernel
theorem d_N_init_1 : decode b_N_init 1 = .ok (.invokespecial 3, 3) := by decide +kernel
theorem d_N_init_4 : decode b_N_init 4 = .ok (.aload_n 0, 1) := by decide +kernel
theorem d_N_init_5 : decode b_N_init 5 = .ok (.iload_n 1, 1) := by decide +kernel
theorem d_N_init_6 : decode b_N_init 6 = .ok (.iload_n 2, 1) := by decide +kernel
theorem d_N_init_7 : decode b_N_init 7 = .ok (.multianewarray 9 2, 4) := by decide +kernel
theorem d_N_init_11 : decode b_N_init 11 = .ok (.putfield 11, 3) := by decide +kernel
theorem d_N_init_14 : decode b_N_init 14 = .ok (.aload_n 0, 1) := by decide +kernel
theorem d_N_init_15 : decode b_N_init 15 = .ok (.iload_n 1, 1) := by decide +kernel
theorem d_N_init_16 : decode b_N_init 16 = .ok (.newarray .int, 2) := by decide +kernel
theorem d_N_init_18 : decode b_N_init 18 = .ok (.putfield 16, 3) := by decide +kernel
theorem d_N_init_21 : decode b_N_init 21 = .ok (.return_, 1) := by decide +kernel
theorem d_P_init_0 : decode b_P_init 0 = .ok (.aload_n 0, 1) := by decide +kernel
theorem d_P_init_1 : decode b_P_init 1 = .ok (.invokespecial 3, 3) := by decide +kernel
theorem d_P_init_4 : decode b_P_init 4 = .ok (.aload_n 0, 1) := by decide +kernel
theorem d_P_init_5 : decode b_P_init 5 = .ok (.iconst 3, 1) := by decide +kernel
theorem d_P_init_6 : decode b_P_init 6 = .ok (.newarray .int, 2) := by decide +kernel
theorem d_P_init_8 : decode b_P_init 8 = .ok (.putfield 9, 3) := by decide +kernel
theorem d_P_init_11 : decode b_P_init 11 = .ok (.aload_n 0, 1) := by decide +kernel
theorem d_P_init_12 : decode b_P_init 12 = .ok (.iconst 3, 1) := by decide +kernel
theorem d_P_init_13 : decode b_P_init 13 = .ok (.bipush 10, 2) := by decide +kernel
theorem d_P_init_15 : decode b_P_init 15 = .ok (.multianewarray 15 2, 4) := by decide +kernel
theorem d_P_init_19 : decode b_P_init 19 = .ok (.putfield 17, 3) := by decide +kernel
theorem d_P_init_22 : decode b_P_init 22 = .ok (.return_, 1) := by decide +kernel
theorem d_Q_init_0 : decode b_Q_init 0 = .ok (.aload_n 0, 1) := by decide +kernel
theorem d_Q_init_1 : decode b_Q_init 1 = .ok (.invokespecial 3, 3) := by decide +kernel
theorem d_Q_init_4 : decode b_Q_init 4 = .ok (.aload_n 0, 1) := by decide +kernel
theorem d_Q_init_5 : decode b_Q_init 5 = .ok (.bipush 16, 2) := by decide +kernel
theorem d_Q_init_7 : decode b_Q_init 7 = .ok (.newarray .int, 2) := by decide +kernel
theorem d_Q_init_9 : decode b_Q_init 9 = .ok (.putfield 9, 3) := by decide +kernel
theorem d_Q_init_12 : decode b_Q_init 12 = .ok (.aload_n 0, 1) := by decide +kernel
theorem d_Q_init_13 : decode b_Q_init 13 = .ok (.bipush 48, 2) := by decide +kernel
theorem d_Q_init_15 : decode b_Q_init 15 = .ok (.bipush 16, 2) := by decide +kernel
theorem d_Q_init_17 : decode b_Q_init 17 = .ok (.multianewarray 15 2, 4) := by decide +kernel
theorem d_Q_init_21 : decode b_Q_init 21 = .ok (.putfield 17, 3) := by decide +kernel
theorem d_Q_init_24 : decode b_Q_init 24 = .ok (.aload_n 0, 1) := by decide +kernel
theorem d_Q_init_25 : decode b_Q_init 25 = .ok (.bipush 16, 2) := by decide +kernel
theorem d_Q_init_27 : decode b_Q_init 27 = .ok (.newarray .int, 2) := by decide +kernel
theorem d_Q_init_29 : decode b_Q_init 29 = .ok (.putfield 20, 3) := by decide +kernel
theorem d_Q_init_32 : decode b_Q_init 32 = .ok (.aload_n 0, 1) := by decide +kernel
theorem d_Q_init_33 : decode b_Q_init 33 = .ok (.bipush 16, 2) := by decide +kernel
theorem d_Q_init_35 : decode b_Q_init 35 = .ok (.newarray .int, 2) := by decide +kernel
theorem d_Q_init_37 : decode b_Q_init 37 = .ok (.putfield 23, 3) := by decide +kernel
theorem d_Q_init_40 : decode b_Q_init 40 = .ok (.aload_n 0, 1) := by decide +kernel
theorem d_Q_init_41 : decode b_Q_init 41 = .ok (.bipush 16, 2) := by decide +kernel
theorem d_Q_init_43 : decode b_Q_init 43 = .ok (.bipush 16, 2) := by decide +kernel
theorem d_Q_init_45 : decode b_Q_init 45 = .ok (.multianewarray 15 2, 4) := by decide +kernel
theorem d_Q_init_49 : decode b_Q_init 49 = .ok (.putfield 26, 3) := by decide +kernel
theorem d_Q_init_52 : decode b_Q_init 52 = .ok (.aload_n 0, 1) := by decide +kernel
theorem d_Q_init_53 : decode b_Q_init 53 = .ok (.bipush 16, 2) := by decide +kernel
theorem d_Q_init_55 : decode b_Q_init 55 = .ok (.newarray .int, 2) := by decide +kernel
theorem d_Q_init_57 : decode b_Q_init 57 = .ok (.putfield 29, 3) := by decide +kernel
theorem d_Q_init_60 : decode b_Q_init 60 = .ok (.aload_n 0, 1) := by decide +kernel
theorem d_Q_init_61 : decode b_Q_init 61 = .ok (.bipush 16, 2) := by decide +kernel
theorem d_Q_init_63 : decode b_Q_init 63 = .ok (.newarray .int, 2) := by decide +kernel
theorem d_Q_init_65 : decode b_Q_init 65 = .ok (.putfield 32, 3) := by decide +kernel
theorem d_Q_init_68 : decode b_Q_init 68 = .ok (.aload_n 0, 1) := by decide +kernel
theorem d_Q_init_69 : decode b_Q_init 69 = .ok (.bipush 33, 2) := by decide +kernel
theorem d_Q_init_71 : decode b_Q_init 71 = .ok (.newarray .int, 2) := by decide +kernel
theorem d_Q_init_73 : decode b_Q_init 73 = .ok (.putfield 35, 3) := by decide +kernel
theorem d_Q_init_76 : decode b_Q_init 76 = .ok (.aload_n 0, 1) := by decide +kernel
theorem d_Q_init_77 : decode b_Q_init 77 = .ok (.new 38, 3) := by decide +kernel
theorem d_Q_init_80 : decode b_Q_init 80 = .ok (.dup, 1) := by decide +kernel
theorem d_Q_init_81 : decode b_Q_init 81 = .ok (.bipush 16, 2) := by decide +kernel
theorem d_Q_init_83 : decode b_Q_init 83 = .ok (.bipush 33, 2) := by decide +kernel
theorem d_Q_init_85 : decode b_Q_init 85 = .ok (.invokespecial 40, 3) := by decide +kernel
theorem d_Q_init_88 : decode b_Q_init 88 = .ok (.putfield 43, 3) := by decide +kernel
theorem d_Q_init_91 : decode b_Q_init 91 = .ok (.aload_n 0, 1) := by decide +kernel
theorem d_Q_init_92 : decode b_Q_init 92 = .ok (.new 38, 3) := by decide +kernel
theorem d_Q_init_95 : decode b_Q_init 95 = .ok (.dup, 1) := by decide +kernel
theorem d_Q_init_96 : decode b_Q_init 96 = .ok (.bipush 16, 2) := by decide +kernel
theorem d_Q_init_98 : decode b_Q_init 98 = .ok (.bipush 16, 2) := by decide +kernel
theorem d_Q_init_100 : decode b_Q_init 100 = .ok (.invokespecial 40, 3) := by decide +kernel
theorem d_Q_init_103 : decode b_Q_init 103 = .ok (.putfield 47, 3) := by decide +kernel
theorem d_Q_init_106 : decode b_Q_init 106 = .ok (.aload_n 0, 1) := by decide +kernel
theorem d_Q_init_107 : decode b_Q_init 107 = .ok (.iload_n 1, 1) := by decide +kernel
theorem d_Q_init_108 : decode b_Q_init 108 = .ok (.putfield 50, 3) := by decide +kernel
theorem d_Q_init_111 : decode b_Q_init 111 = .ok (.return_, 1) := by decide +kernel
set_option maxHeartbeats 4000000 in
set_option maxRecDepth 100000 in
/-- a new span -/
theorem c_N_init33 (l : Launch) (D : mp_G) (g : Nat → ClassId) (S : mp_M) (sz : Nat) (o t T0 : Nat) (h_o : S o = some (t, .inr (8, [.null, .null, .int 0]))) (hT : t + 2 < T0) : Met l y_N_init w_N_init ({ frames := 1, cells := 18, slots := 560, locals := 12 }) (va_Pc [.ref o, .int (nI 16), .int (nI 33)] (mp_B0 D classes (tys g) S sz)) (va_Qv (fun (S1 : mp_M) => ∃ (q pv : Nat), S1 o = some (t, .inr (8, [.ref q, .ref pv, .int 0])) ∧ S1 q = some (t + 1, .inl (g 1, 16, .inr (.inr (.inr (.inr (rfs (fun i => q + 1 + i) 16)))))) ∧ S1 pv = some (t + 2, .inl (g 0, 16, .inl (fun _ => 0))) ∧ rS g T0 16 33 (fun i => q + 1 + i) (fun _ _ => 0) S1 ∧ (∀ b, S b ≠ none → b ≠ o → S1 b = S b)) (mp_B1 D classes S sz) (mp_A S sz)) 18 560 (mp_A S sz) := by
  refine Met.ofW (cc := b_N_init) (maxL := 3) (ret := none) (by decide) rfl ?_
  intro p e s m args below meth c s₁ B hml hv
  obtain ⟨rfl, hsz, hH, hK⟩ := hv
  have hx := B.exec
  have hb := B.bytes
  have hr := B.returns
  have hts := atoms_spec (ws := w_N_init) B.pre
  have hg : ∀ w ∈ gw, w.before _ s = true := fun w h => hts w (List.mem_cons_of_mem _ h)
  have hown : s.vm.findClass R_N = some m.cls := findClass_of_methodNamed B.named
  have hlocks := B.notSynchronized
  have hin : meth.name = "<init>" := (name_of_methodNamed B.named B.method).1
  subst hsz
  have hI := mp_I.start hH
  have hl := lv_entry ([.ref o, .int (nI 16), .int (nI 33)]) (n := 3) (Nat.le_of_ble_eq_true rfl)
  rw [lg_entry_eq]
  generalize (lg_sl ([.ref o, .int (nI 16), .int (nI 33)]) ++ List.replicate (3 - (lg_sl ([.ref o, .int (nI 16), .int (nI 33)])).length) Slot.unset).toArray = ls at hl ⊢
  have hl : lv_has ls 3 [(0, .ref o), (1, .int (nI 16)), (2, .int (nI 33))] := hl
  have hfr : ∀ b, S b ≠ none → b ≠ o → S b = S b := fun _ _ _ => rfl
  refine lv_aload_n hx hb d_N_init_0 rfl (lv_at hl 0 rfl) ?_
  refine W.objInit hx hb hown (hg _ q_204) (hg _ q_29) (hg _ q_30) rfl (by rw [hml]; exact hl.1) rfl d_N_init_1 (Nat.le_of_ble_eq_true rfl) (Nat.le_of_ble_eq_true rfl) ?_
  refine lv_aload_n hx hb d_N_init_4 rfl (lv_at hl 0 rfl) ?_
  refine lv_iload_n hx hb d_N_init_5 rfl (lv_at hl 1 rfl) ?_
  refine lv_iload_n hx hb d_N_init_6 rfl (lv_at hl 2 rfl) ?_
  have hI0 := hI
  refine mp_mna hx hb hown (hg _ q_205) (hK.use q_160 rfl) (hg _ q_60) hK.va hI (t + 1) T0 (N' := 16) (K' := 33) (by decide) (by decide) (by decide) (by decide) (by decide) (by decide) (Nat.le_of_ble_eq_true rfl) (Nat.le_of_ble_eq_true rfl) d_N_init_7 (fun a1 S2 H3 g_a10 z_4 h_5 hR f_6 hI => ?_)
  have g_a1 : s.heap.size ≤ a1 := Nat.le_trans hI0.2.2.1.1 g_a10
  have nb_a1 : ∀ b, S b ≠ none → b ≠ o → b ≠ a1 := fun b h9 k0 z9 => h9 ((hfr b h9 k0).symm.trans (by rw [z9]; exact z_4))
  have h_o : S2 o = some (t, .inr (8, [.null, .null, .int 0])) := (f_6 o (mp_in h_o)).trans h_o
  have hfr : ∀ b, S b ≠ none → b ≠ o → S2 b = S b := fun b h9 k0 => (f_6 b (by rw [hfr b h9 k0]; exact h9)).trans (hfr b h9 k0)
  refine mp_putF (C := R_N) (T := F_N) (N := 3) (v := .ref a1) (ty := .array (.array .int)) hx hb hg i_N t_N t_N_ok n_N hown hK.va hI h_o rfl 0 (by decide) (hg _ q_206) (fun _ h9 => h9) rfl hin rfl (by decide +kernel) (rfl) rfl (Nat.le_of_ble_eq_true rfl) d_N_init_11 (fun S7 H8 locs e_9 hI => ?_)
  have e_9 : S7 = va_up S2 o (some (t, .inr (8, [.ref a1, .null, .int 0]))) := e_9
  have h_o_o := h_o
  have h_5 : S7 a1 = some ((t + 1), .inl ((g 1), 16, .inr (.inr (.inr (.inr (rfs (fun i => a1 + 1 + i) 16)))))) := by rw [e_9]; exact mp_keep h_5 h_o (by omega)
  have h_o : S7 o = some (t, .inr (8, [.ref a1, .null, .int 0])) := by rw [e_9]; exact mp_us _ _ _
  have hR := rS_kept hR (S1 := S7) (fun b t9 e9 hb9 h1 h2 => by rw [e_9]; exact mp_un (mp_ne hb9 h_o_o (by omega)))
  have hfr : ∀ b, S b ≠ none → b ≠ o → S7 b = S b := fun b h9 k0 => by rw [e_9]; exact (mp_un k0).trans (hfr b h9 k0)
  refine lv_aload_n hx hb d_N_init_14 rfl (lv_at hl 0 rfl) ?_
  refine lv_iload_n hx hb d_N_init_15 rfl (lv_at hl 1 rfl) ?_
  have hI0 := hI
  refine mp_newi (N' := 16) hx hb (hg _ q_60) hK.va hI 0 (t + 2) rfl (by decide) (by decide) (Nat.le_of_ble_eq_true rfl) (Nat.le_of_ble_eq_true rfl) (Nat.le_of_ble_eq_true rfl) d_N_init_16 (fun S10 H11 z_13 e_12 hI => ?_)
  obtain ⟨a14, ea14⟩ : ∃ z, z = H8.size := ⟨_, rfl⟩
  have g_a14 : s.heap.size ≤ a14 := by rw [ea14]; exact hI0.2.2.1.1
  rw [← ea14] at z_13 e_12
  refine W.eq (g2 := F0 m 18 ls [.ref a14, .ref o]) (by rw [ea14]) ?_
  have h_o : S10 o = some (t, .inr (8, [.ref a1, .null, .int 0])) := by rw [e_12]; exact mp_keepN h_o z_13
  have h_5 : S10 a1 = some ((t + 1), .inl ((g 1), 16, .inr (.inr (.inr (.inr (rfs (fun i => a1 + 1 + i) 16)))))) := by rw [e_12]; exact mp_keepN h_5 z_13
  have h_15 : S10 a14 = some ((t + 2), .inl ((g 0), 16, .inl (fun _ => 0))) := by rw [e_12]; exact mp_us _ _ _
  have hR := rS_kept hR (S1 := S10) (fun b t9 e9 hb9 h1 h2 => by rw [e_12]; exact mp_un (fun z9 => by rw [z9, z_13] at hb9; cases hb9))
  have nb_a14 : ∀ b, S b ≠ none → b ≠ o → b ≠ a14 := fun b h9 k0 z9 => h9 ((hfr b h9 k0).symm.trans (by rw [z9]; exact z_13))
  have hfr : ∀ b, S b ≠ none → b ≠ o → S10 b = S b := fun b h9 k0 => by rw [e_12]; exact (mp_un (nb_a14 b h9 k0)).trans (hfr b h9 k0)
  refine mp_putF (C := R_N) (T := F_N) (N := 3) (v := .ref a14) (ty := .array .int) hx hb hg i_N t_N t_N_ok n_N hown hK.va hI h_o rfl 1 (by decide) (hg _ q_207) (fun _ h9 => h9) rfl hin rfl (by decide +kernel) (rfl) rfl (Nat.le_of_ble_eq_true rfl) d_N_init_18 (fun S16 H17 locs e_18 hI => ?_)
  have e_18 : S16 = va_up S10 o (some (t, .inr (8, [.ref a1, .ref a14, .int 0]))) := e_18
  have h_o_o := h_o
  have h_5 : S16 a1 = some ((t + 1), .inl ((g 1), 16, .inr (.inr (.inr (.inr (rfs (fun i => a1 + 1 + i) 16)))))) := by rw [e_18]; exact mp_keep h_5 h_o (by omega)
  have h_15 : S16 a14 = some ((t + 2), .inl ((g 0), 16, .inl (fun _ => 0))) := by rw [e_18]; exact mp_keep h_15 h_o (by omega)
  have h_o : S16 o = some (t, .inr (8, [.ref a1, .ref a14, .int 0])) := by rw [e_18]; exact mp_us _ _ _
  have hR := rS_kept hR (S1 := S16) (fun b t9 e9 hb9 h1 h2 => by rw [e_18]; exact mp_un (mp_ne hb9 h_o_o (by omega)))
  have hfr : ∀ b, S b ≠ none → b ≠ o → S16 b = S b := fun b h9 k0 => by rw [e_18]; exact (mp_un k0).trans (hfr b h9 k0)
  refine mp_vret hx hb hr hlocks hI (by decide) (by decide) ?_ d_N_init_21
  exact ⟨a1, a14, h_o, h_5, h_15, hR, hfr⟩
set_option maxHeartbeats 4000000 in
set_option maxRecDepth 100000 in
/-- a new span -/
theorem c_N_init16 (l : Launch) (D : mp_G) (g : Nat → ClassId) (S : mp_M) (sz : Nat) (o t T0 : Nat) (h_o : S o = some (t, .inr (8, [.null, .null, .int 0]))) (hT : t + 2 < T0) : Met l y_N_init w_N_init ({ frames := 1, cells := 18, slots := 288, locals := 12 }) (va_Pc [.ref o, .int (nI 16), .int (nI 16)] (mp_B0 D classes (tys g) S sz)) (va_Qv (fun (S1 : mp_M) => ∃ (q pv : Nat), S1 o = some (t, .inr (8, [.ref q, .ref pv, .int 0])) ∧ S1 q = some (t + 1, .inl (g 1, 16, .inr (.inr (.inr (.inr (rfs (fun i => q + 1 + i) 16)))))) ∧ S1 pv = some (t + 2, .inl (g 0, 16, .inl (fun _ => 0))) ∧ rS g T0 16 16 (fun i => q + 1 + i) (fun _ _ => 0) S1 ∧ (∀ b, S b ≠ none → b ≠ o → S1 b = S b)) (mp_B1 D classes S sz) (mp_A S sz)) 18 288 (mp_A S sz) := by
  refine Met.ofW (cc := b_N_init) (maxL := 3) (ret := none) (by decide) rfl ?_
  intro p e s m args below meth c s₁ B hml hv
  obtain ⟨rfl, hsz, hH, hK⟩ := hv
  have hx := B.exec
  have hb := B.bytes
  have hr := B.returns
  have hts := atoms_spec (ws := w_N_init) B.pre
  have hg : ∀ w ∈ gw, w.before _ s = true := fun w h => hts w (List.mem_cons_of_mem _ h)
  have hown : s.vm.findClass R_N = some m.cls := findClass_of_methodNamed B.named
  have hlocks := B.notSynchronized
  have hin : meth.name = "<init>" := (name_of_methodNamed B.named B.method).1
  subst hsz
  have hI := mp_I.start hH
  have hl := lv_entry ([.ref o, .int (nI 16), .int (nI 16)]) (n := 3) (Nat.le_of_ble_eq_true rfl)
  rw [lg_entry_eq]
  generalize (lg_sl ([.ref o, .int (nI 16), .int (nI 16)]) ++ List.replicate (3 - (lg_sl ([.ref o, .int (nI 16), .int (nI 16)])).length) Slot.unset).toArray = ls at hl ⊢
  have hl : lv_has ls 3 [(0, .ref o), (1, .int (nI 16)), (2, .int (nI 16))] := hl
  have hfr : ∀ b, S b ≠ none → b ≠ o → S b = S b := fun _ _ _ => rfl
  refine lv_aload_n hx hb d_N_init_0 rfl (lv_at hl 0 rfl) ?_
  refine W.objInit hx hb hown (hg _ q_204) (hg _ q_29) (hg _ q_30) rfl (by rw [hml]; exact hl.1) rfl d_N_init_1 (Nat.le_of_ble_eq_true rfl) (Nat.le_of_ble_eq_true rfl) ?_
  refine lv_aload_n hx hb d_N_init_4 rfl (lv_at hl 0 rfl) ?_
  refine lv_iload_n hx hb d_N_init_5 rfl (lv_at hl 1 rfl) ?_
  refine lv_iload_n hx hb d_N_init_6 rfl (lv_at hl 2 rfl) ?_
  have hI0 := hI
  refine mp_mna hx hb hown (hg _ q_205) (hK.use q_160 rfl) (hg _ q_60) hK.va hI (t + 1) T0 (N' := 16) (K' := 16) (by decide) (by decide) (by decide) (by decide) (by decide) (by decide) (Nat.le_of_ble_eq_true rfl) (Nat.le_of_ble_eq_true rfl) d_N_init_7 (fun a1 S2 H3 g_a10 z_4 h_5 hR f_6 hI => ?_)
  have g_a1 : s.heap.size ≤ a1 := Nat.le_trans hI0.2.2.1.1 g_a10
  have nb_a1 : ∀ b, S b ≠ none → b ≠ o → b ≠ a1 := fun b h9 k0 z9 => h9 ((hfr b h9 k0).symm.trans (by rw [z9]; exact z_4))
  have h_o : S2 o = some (t, .inr (8, [.null, .null, .int 0])) := (f_6 o (mp_in h_o)).trans h_o
  have hfr : ∀ b, S b ≠ none → b ≠ o → S2 b = S b := fun b h9 k0 => (f_6 b (by rw [hfr b h9 k0]; exact h9)).trans (hfr b h9 k0)
  refine mp_putF (C := R_N) (T := F_N) (N := 3) (v := .ref a1) (ty := .array (.array .int)) hx hb hg i_N t_N t_N_ok n_N hown hK.va hI h_o rfl 0 (by decide) (hg _ q_206) (fun _ h9 => h9) rfl hin rfl (by decide +kernel) (rfl) rfl (Nat.le_of_ble_eq_true rfl) d_N_init_11 (fun S7 H8 locs e_9 hI => ?_)
  have e_9 : S7 = va_up S2 o (some (t, .inr (8, [.ref a1, .null, .int 0]))) := e_9
  have h_o_o := h_o
  have h_5 : S7 a1 = some ((t + 1), .inl ((g 1), 16, .inr (.inr (.inr (.inr (rfs (fun i => a1 + 1 + i) 16)))))) := by rw [e_9]; exact mp_keep h_5 h_o (by omega)
  have h_o : S7 o = some (t, .inr (8, [.ref a1, .null, .int 0])) := by rw [e_9]; exact mp_us _ _ _
  have hR := rS_kept hR (S1 := S7) (fun b t9 e9 hb9 h1 h2 => by rw [e_9]; exact mp_un (mp_ne hb9 h_o_o (by omega)))
  have hfr : ∀ b, S b ≠ none → b ≠ o → S7 b = S b := fun b h9 k0 => by rw [e_9]; exact (mp_un k0).trans (hfr b h9 k0)
  refine lv_aload_n hx hb d_N_init_14 rfl (lv_at hl 0 rfl) ?_
  refine lv_iload_n hx hb d_N_init_15 rfl (lv_at hl 1 rfl) ?_
  have hI0 := hI
  refine mp_newi (N' := 16) hx hb (hg _ q_60) hK.va hI 0 (t + 2) rfl (by decide) (by decide) (Nat.le_of_ble_eq_true rfl) (Nat.le_of_ble_eq_true rfl) (Nat.le_of_ble_eq_true rfl) d_N_init_16 (fun S10 H11 z_13 e_12 hI => ?_)
  obtain ⟨a14, ea14⟩ : ∃ z, z = H8.size := ⟨_, rfl⟩
  have g_a14 : s.heap.size ≤ a14 := by rw [ea14]; exact hI0.2.2.1.1
  rw [← ea14] at z_13 e_12
  refine W.eq (g2 := F0 m 18 ls [.ref a14, .ref o]) (by rw [ea14]) ?_
  have h_o : S10 o = some (t, .inr (8, [.ref a1, .null, .int 0])) := by rw [e_12]; exact mp_keepN h_o z_13
  have h_5 : S10 a1 = some ((t + 1), .inl ((g 1), 16, .inr (.inr (.inr (.inr (rfs (fun i => a1 + 1 + i) 16)))))) := by rw [e_12]; exact mp_keepN h_5 z_13
  have h_15 : S10 a14 = some ((t + 2), .inl ((g 0), 16, .inl (fun _ => 0))) := by rw [e_12]; exact mp_us _ _ _
  have hR := rS_kept hR (S1 := S10) (fun b t9 e9 hb9 h1 h2 => by rw [e_12]; exact mp_un (fun z9 => by rw [z9, z_13] at hb9; cases hb9))
  have nb_a14 : ∀ b, S b ≠ none → b ≠ o → b ≠ a14 := fun b h9 k0 z9 => h9 ((hfr b h9 k0).symm.trans (by rw [z9]; exact z_13))
  have hfr : ∀ b, S b ≠ none → b ≠ o → S10 b = S b := fun b h9 k0 => by rw [e_12]; exact (mp_un (nb_a14 b h9 k0)).trans (hfr b h9 k0)
  refine mp_putF (C := R_N) (T := F_N) (N := 3) (v := .ref a14) (ty := .array .int) hx hb hg i_N t_N t_N_ok n_N hown hK.va hI h_o rfl 1 (by decide) (hg _ q_207) (fun _ h9 => h9) rfl hin rfl (by decide +kernel) (rfl) rfl (Nat.le_of_ble_eq_true rfl) d_N_init_18 (fun S16 H17 locs e_18 hI => ?_)
  have e_18 : S16 = va_up S10 o (some (t, .inr (8, [.ref a1, .ref a14, .int 0]))) := e_18
  have h_o_o := h_o
  have h_5 : S16 a1 = some ((t + 1), .inl ((g 1), 16, .inr (.inr (.inr (.inr (rfs (fun i => a1 + 1 + i) 16)))))) := by rw [e_18]; exact mp_keep h_5 h_o (by omega)
  have h_15 : S16 a14 = some ((t + 2), .inl ((g 0), 16, .inl (fun _ => 0))) := by rw [e_18]; exact mp_keep h_15 h_o (by omega)
  have h_o : S16 o = some (t, .inr (8, [.ref a1, .ref a14, .int 0])) := by rw [e_18]; exact mp_us _ _ _
  have hR := rS_kept hR (S1 := S16) (fun b t9 e9 hb9 h1 h2 => by rw [e_18]; exact mp_un (mp_ne hb9 h_o_o (by omega)))
  have hfr : ∀ b, S b ≠ none → b ≠ o → S16 b = S b := fun b h9 k0 => by rw [e_18]; exact (mp_un k0).trans (hfr b h9 k0)
  refine mp_vret hx hb hr hlocks hI (by decide) (by decide) ?_ d_N_init_21
  exact ⟨a1, a14, h_o, h_5, h_15, hR, hfr⟩
set_option maxHeartbeats 4000000 in
set_option maxRecDepth 100000 in
/-- a new point -/
theorem c_P_init (l : Launch) (D : mp_G) (g : Nat → ClassId) (S : mp_M) (sz : Nat) (o : Nat) (h_o : S o = some (37, .inr (2, [.null, .null])))  : Met l y_P_init w_P_init ({ frames := 1, cells := 5, slots := 36, locals := 12 }) (va_Pc [.ref o] (mp_B0 D classes (tys g) S sz)) (va_Qv (fun (S1 : mp_M) => ∃ (nu q : Nat), S1 o = some (37, .inr (2, [.ref nu, .ref q])) ∧ S1 nu = some (38, .inl (g 0, 3, .inl (fun _ => 0))) ∧ S1 q = some (39, .inl (g 1, 3, .inr (.inr (.inr (.inr (rfs (fun i => q + 1 + i) 3)))))) ∧ rS g 610 3 10 (fun i => q + 1 + i) (fun _ _ => 0) S1 ∧ (∀ b, S b ≠ none → b ≠ o → S1 b = S b)) (mp_B1 D classes S sz) (mp_A S sz)) 5 36 (mp_A S sz) := by
  refine Met.ofW (cc := b_P_init) (maxL := 1) (ret := none) (by decide) rfl ?_
  intro p e s m args below meth c s₁ B hml hv
  obtain ⟨rfl, hsz, hH, hK⟩ := hv
  have hx := B.exec
  have hb := B.bytes
  have hr := B.returns
  have hts := atoms_spec (ws := w_P_init) B.pre
  have hg : ∀ w ∈ gw, w.before _ s = true := fun w h => hts w (List.mem_cons_of_mem _ h)
  have hown : s.vm.findClass R_P = some m.cls := findClass_of_methodNamed B.named
  have hlocks := B.notSynchronized
  have hin : meth.name = "<init>" := (name_of_methodNamed B.named B.method).1
  subst hsz
  have hI := mp_I.start hH
  have hl := lv_entry ([.ref o]) (n := 1) (Nat.le_of_ble_eq_true rfl)
  rw [lg_entry_eq]
  generalize (lg_sl ([.ref o]) ++ List.replicate (1 - (lg_sl ([.ref o])).length) Slot.unset).toArray = ls at hl ⊢
  have hl : lv_has ls 1 [(0, .ref o)] := hl
  have hfr : ∀ b, S b ≠ none → b ≠ o → S b = S b := fun _ _ _ => rfl
  refine lv_aload_n hx hb d_P_init_0 rfl (lv_at hl 0 rfl) ?_
  refine W.objInit hx hb hown (hg _ q_166) (hg _ q_29) (hg _ q_30) rfl (by rw [hml]; exact hl.1) rfl d_P_init_1 (Nat.le_of_ble_eq_true rfl) (Nat.le_of_ble_eq_true rfl) ?_
  refine lv_aload_n hx hb d_P_init_4 rfl (lv_at hl 0 rfl) ?_
  refine lv_iconst (v := nI 3) hx hb d_P_init_5 (by decide) ?_
  have hI0 := hI
  refine mp_newi (N' := 3) hx hb (hg _ q_60) hK.va hI 0 38 rfl (by decide) (by decide) (Nat.le_of_ble_eq_true rfl) (Nat.le_of_ble_eq_true rfl) (Nat.le_of_ble_eq_true rfl) d_P_init_6 (fun S1 H2 z_4 e_3 hI => ?_)
  obtain ⟨a5, ea5⟩ : ∃ z, z = s.heap.size := ⟨_, rfl⟩
  have g_a5 : s.heap.size ≤ a5 := by rw [ea5]; exact hI0.2.2.1.1
  rw [← ea5] at z_4 e_3
  refine W.eq (g2 := F0 m 8 ls [.ref a5, .ref o]) (by rw [ea5]) ?_
  have h_o : S1 o = some (37, .inr (2, [.null, .null])) := by rw [e_3]; exact mp_keepN h_o z_4
  have h_6 : S1 a5 = some (38, .inl ((g 0), 3, .inl (fun _ => 0))) := by rw [e_3]; exact mp_us _ _ _
  have nb_a5 : ∀ b, S b ≠ none → b ≠ o → b ≠ a5 := fun b h9 k0 z9 => h9 ((hfr b h9 k0).symm.trans (by rw [z9]; exact z_4))
  have hfr : ∀ b, S b ≠ none → b ≠ o → S1 b = S b := fun b h9 k0 => by rw [e_3]; exact (mp_un (nb_a5 b h9 k0)).trans (hfr b h9 k0)
  refine mp_putF (C := R_P) (T := F_P) (N := 2) (v := .ref a5) (ty := .array .int) hx hb hg i_P t_P t_P_ok n_P hown hK.va hI h_o rfl 0 (by decide) (hg _ q_168) (fun _ h9 => h9) rfl hin rfl (by decide +kernel) (rfl) rfl (Nat.le_of_ble_eq_true rfl) d_P_init_8 (fun S7 H8 locs e_9 hI => ?_)
  have e_9 : S7 = va_up S1 o (some (37, .inr (2, [.ref a5, .null]))) := e_9
  have h_6 : S7 a5 = some (38, .inl ((g 0), 3, .inl (fun _ => 0))) := by rw [e_9]; exact mp_keep h_6 h_o (by decide)
  have h_o : S7 o = some (37, .inr (2, [.ref a5, .null])) := by rw [e_9]; exact mp_us _ _ _
  have hfr : ∀ b, S b ≠ none → b ≠ o → S7 b = S b := fun b h9 k0 => by rw [e_9]; exact (mp_un k0).trans (hfr b h9 k0)
  refine lv_aload_n hx hb d_P_init_11 rfl (lv_at hl 0 rfl) ?_
  refine lv_iconst (v := nI 3) hx hb d_P_init_12 (by decide) ?_
  refine lv_bipush (v := nI 10) hx hb d_P_init_13 (by decide) ?_
  have hI0 := hI
  refine mp_mna hx hb hown (hg _ q_167) (hK.use q_160 rfl) (hg _ q_60) hK.va hI 39 610 (N' := 3) (K' := 10) (by decide) (by decide) (by decide) (by decide) (by decide) (by decide) (Nat.le_of_ble_eq_true rfl) (Nat.le_of_ble_eq_true rfl) d_P_init_15 (fun a10 S11 H12 g_a100 z_13 h_14 hR f_15 hI => ?_)
  have g_a10 : s.heap.size ≤ a10 := Nat.le_trans hI0.2.2.1.1 g_a100
  have nb_a10 : ∀ b, S b ≠ none → b ≠ o → b ≠ a10 := fun b h9 k0 z9 => h9 ((hfr b h9 k0).symm.trans (by rw [z9]; exact z_13))
  have h_o : S11 o = some (37, .inr (2, [.ref a5, .null])) := (f_15 o (mp_in h_o)).trans h_o
  have h_6 : S11 a5 = some (38, .inl ((g 0), 3, .inl (fun _ => 0))) := (f_15 a5 (mp_in h_6)).trans h_6
  have hfr : ∀ b, S b ≠ none → b ≠ o → S11 b = S b := fun b h9 k0 => (f_15 b (by rw [hfr b h9 k0]; exact h9)).trans (hfr b h9 k0)
  refine mp_putF (C := R_P) (T := F_P) (N := 2) (v := .ref a10) (ty := .array (.array .int)) hx hb hg i_P t_P t_P_ok n_P hown hK.va hI h_o rfl 1 (by decide) (hg _ q_169) (fun _ h9 => h9) rfl hin rfl (by decide +kernel) (rfl) rfl (Nat.le_of_ble_eq_true rfl) d_P_init_19 (fun S16 H17 locs e_18 hI => ?_)
  have e_18 : S16 = va_up S11 o (some (37, .inr (2, [.ref a5, .ref a10]))) := e_18
  have h_o_o := h_o
  have h_6 : S16 a5 = some (38, .inl ((g 0), 3, .inl (fun _ => 0))) := by rw [e_18]; exact mp_keep h_6 h_o (by decide)
  have h_14 : S16 a10 = some (39, .inl ((g 1), 3, .inr (.inr (.inr (.inr (rfs (fun i => a10 + 1 + i) 3)))))) := by rw [e_18]; exact mp_keep h_14 h_o (by decide)
  have h_o : S16 o = some (37, .inr (2, [.ref a5, .ref a10])) := by rw [e_18]; exact mp_us _ _ _
  have hR := rS_kept hR (S1 := S16) (fun b t9 e9 hb9 h1 h2 => by rw [e_18]; exact mp_un (mp_ne hb9 h_o_o (by omega)))
  have hfr : ∀ b, S b ≠ none → b ≠ o → S16 b = S b := fun b h9 k0 => by rw [e_18]; exact (mp_un k0).trans (hfr b h9 k0)
  refine mp_vret hx hb hr hlocks hI (by decide) (by decide) ?_ d_P_init_22
  exact ⟨a5, a10, h_o, h_6, h_14, hR, hfr⟩
set_option maxHeartbeats 4000000 in
set_option maxRecDepth 100000 in
/-- a new quotient -/
theorem c_Q_init (l : Launch) (D : mp_G) (g : Nat → ClassId) (S : mp_M) (sz : Nat) (o : Nat) (n : Int32) (h_o : S o = some (14, .inr (4, [.int 0, .null, .int 0, .null, .null, .null, .null, .null, .null, .null, .null, .null])))  : Met l y_Q_init w_Q_init ({ frames := 2, cells := 110, slots := 2055, locals := 34 }) (va_Pc [.ref o, .int n] (mp_B0 D classes (tys g) S sz)) (va_Qv (fun (S1 : mp_M) => ∃ (ky pr lw ll mu fa nx re rl rq rp il iq ip : Nat), S1 o = some (14, .inr (4, [.int n, .ref ky, .int 0, .ref pr, .ref lw, .ref ll, .ref mu, .ref fa, .ref nx, .ref re, .ref rl, .ref il])) ∧ S1 ky = some (15, .inl (g 0, 16, .inl (fun _ => 0))) ∧ S1 pr = some (16, .inl (g 1, 48, .inr (.inr (.inr (.inr (rfs (fun i => pr + 1 + i) 48)))))) ∧ S1 lw = some (17, .inl (g 0, 16, .inl (fun _ => 0))) ∧ S1 ll = some (18, .inl (g 0, 16, .inl (fun _ => 0))) ∧ S1 mu = some (19, .inl (g 1, 16, .inr (.inr (.inr (.inr (rfs (fun i => mu + 1 + i) 16)))))) ∧ S1 fa = some (20, .inl (g 0, 16, .inl (fun _ => 0))) ∧ S1 nx = some (21, .inl (g 0, 16, .inl (fun _ => 0))) ∧ S1 re = some (22, .inl (g 0, 33, .inl (fun _ => 0))) ∧ S1 rl = some (23, .inr (8, [.ref rq, .ref rp, .int 0])) ∧ S1 rq = some (24, .inl (g 1, 16, .inr (.inr (.inr (.inr (rfs (fun i => rq + 1 + i) 16)))))) ∧ S1 rp = some (25, .inl (g 0, 16, .inl (fun _ => 0))) ∧ S1 il = some (26, .inr (8, [.ref iq, .ref ip, .int 0])) ∧ S1 iq = some (27, .inl (g 1, 16, .inr (.inr (.inr (.inr (rfs (fun i => iq + 1 + i) 16)))))) ∧ S1 ip = some (28, .inl (g 0, 16, .inl (fun _ => 0))) ∧ rS g 400 48 16 (fun i => pr + 1 + i) (fun _ _ => 0) S1 ∧ rS g 450 16 16 (fun i => mu + 1 + i) (fun _ _ => 0) S1 ∧ rS g 470 16 33 (fun i => rq + 1 + i) (fun _ _ => 0) S1 ∧ rS g 490 16 16 (fun i => iq + 1 + i) (fun _ _ => 0) S1 ∧ (∀ b, S b ≠ none → b ≠ o → S1 b = S b)) (mp_B1 D classes S sz) (mp_A S sz)) 110 2055 (mp_A S sz) := by
  refine Met.ofW (cc := b_Q_init) (maxL := 2) (ret := none) (by decide) rfl ?_
  intro p e s m args below meth c s₁ B hml hv
  obtain ⟨rfl, hsz, hH, hK⟩ := hv
  have hx := B.exec
  have hb := B.bytes
  have hr := B.returns
  have hts := atoms_spec (ws := w_Q_init) B.pre
  have hg : ∀ w ∈ gw, w.before _ s = true := fun w h => hts w (List.mem_cons_of_mem _ h)
  have hown : s.vm.findClass R_Q = some m.cls := findClass_of_methodNamed B.named
  have hlocks := B.notSynchronized
  have hin : meth.name = "<init>" := (name_of_methodNamed B.named B.method).1
  subst hsz
  have hI := mp_I.start hH
  have hl := lv_entry ([.ref o, .int n]) (n := 2) (Nat.le_of_ble_eq_true rfl)
  rw [lg_entry_eq]
  generalize (lg_sl ([.ref o, .int n]) ++ List.replicate (2 - (lg_sl ([.ref o, .int n])).length) Slot.unset).toArray = ls at hl ⊢
  have hl : lv_has ls 2 [(0, .ref o), (1, .int n)] := hl
  have hfr : ∀ b, S b ≠ none → b ≠ o → S b = S b := fun _ _ _ => rfl
  refine lv_aload_n hx hb d_Q_init_0 rfl (lv_at hl 0 rfl) ?_
  refine W.objInit hx hb hown (hg _ q_197) (hg _ q_29) (hg _ q_30) rfl (by rw [hml]; exact hl.1) rfl d_Q_init_1 (Nat.le_of_ble_eq_true rfl) (Nat.le_of_ble_eq_true rfl) ?_
  refine lv_aload_n hx hb d_Q_init_4 rfl (lv_at hl 0 rfl) ?_
  refine lv_bipush (v := nI 16) hx hb d_Q_init_5 (by decide) ?_
  have hI0 := hI
  refine mp_newi (N' := 16) hx hb (hg _ q_60) hK.va hI 0 15 rfl (by decide) (by decide) (Nat.le_of_ble_eq_true rfl) (Nat.le_of_ble_eq_true rfl) (Nat.le_of_ble_eq_true rfl) d_Q_init_7 (fun S1 H2 z_4 e_3 hI => ?_)
  obtain ⟨a5, ea5⟩ : ∃ z, z = s.heap.size := ⟨_, rfl⟩
  have g_a5 : s.heap.size ≤ a5 := by rw [ea5]; exact hI0.2.2.1.1
  rw [← ea5] at z_4 e_3
  refine W.eq (g2 := F0 m 9 ls [.ref a5, .ref o]) (by rw [ea5]) ?_
  have h_o : S1 o = some (14, .inr (4, [.int 0, .null, .int 0, .null, .null, .null, .null, .null, .null, .null, .null, .null])) := by rw [e_3]; exact mp_keepN h_o z_4
  have h_6 : S1 a5 = some (15, .inl ((g 0), 16, .inl (fun _ => 0))) := by rw [e_3]; exact mp_us _ _ _
  have nb_a5 : ∀ b, S b ≠ none → b ≠ o → b ≠ a5 := fun b h9 k0 z9 => h9 ((hfr b h9 k0).symm.trans (by rw [z9]; exact z_4))
  have hfr : ∀ b, S b ≠ none → b ≠ o → S1 b = S b := fun b h9 k0 => by rw [e_3]; exact (mp_un (nb_a5 b h9 k0)).trans (hfr b h9 k0)
  refine mp_putF (C := R_Q) (T := F_Q) (N := 12) (v := .ref a5) (ty := .array .int) hx hb hg i_Q t_Q t_Q_ok n_Q hown hK.va hI h_o rfl 1 (by decide) (hg _ q_218) (fun _ h9 => h9) rfl hin rfl (by decide +kernel) (rfl) rfl (Nat.le_of_ble_eq_true rfl) d_Q_init_9 (fun S7 H8 locs e_9 hI => ?_)
  have e_9 : S7 = va_up S1 o (some (14, .inr (4, [.int 0, .ref a5, .int 0, .null, .null, .null, .null, .null, .null, .null, .null, .null]))) := e_9
  have h_6 : S7 a5 = some (15, .inl ((g 0), 16, .inl (fun _ => 0))) := by rw [e_9]; exact mp_keep h_6 h_o (by decide)
  have h_o : S7 o = some (14, .inr (4, [.int 0, .ref a5, .int 0, .null, .null, .null, .null, .null, .null, .null, .null, .null])) := by rw [e_9]; exact mp_us _ _ _
  have hfr : ∀ b, S b ≠ none → b ≠ o → S7 b = S b := fun b h9 k0 => by rw [e_9]; exact (mp_un k0).trans (hfr b h9 k0)
  refine lv_aload_n hx hb d_Q_init_12 rfl (lv_at hl 0 rfl) ?_
  refine lv_bipush (v := nI 48) hx hb d_Q_init_13 (by decide) ?_
  refine lv_bipush (v := nI 16) hx hb d_Q_init_15 (by decide) ?_
  have hI0 := hI
  refine mp_mna hx hb hown (hg _ q_198) (hK.use q_160 rfl) (hg _ q_60) hK.va hI 16 400 (N' := 48) (K' := 16) (by decide) (by decide) (by decide) (by decide) (by decide) (by decide) (Nat.le_of_ble_eq_true rfl) (Nat.le_of_ble_eq_true rfl) d_Q_init_17 (fun a10 S11 H12 g_a100 z_13 h_14 hR1 f_15 hI => ?_)
  have g_a10 : s.heap.size ≤ a10 := Nat.le_trans hI0.2.2.1.1 g_a100
  have nb_a10 : ∀ b, S b ≠ none → b ≠ o → b ≠ a10 := fun b h9 k0 z9 => h9 ((hfr b h9 k0).symm.trans (by rw [z9]; exact z_13))
  have h_o : S11 o = some (14, .inr (4, [.int 0, .ref a5, .int 0, .null, .null, .null, .null, .null, .null, .null, .null, .null])) := (f_15 o (mp_in h_o)).trans h_o
  have h_6 : S11 a5 = some (15, .inl ((g 0), 16, .inl (fun _ => 0))) := (f_15 a5 (mp_in h_6)).trans h_6
  have hfr : ∀ b, S b ≠ none → b ≠ o → S11 b = S b := fun b h9 k0 => (f_15 b (by rw [hfr b h9 k0]; exact h9)).trans (hfr b h9 k0)
  refine mp_putF (C := R_Q) (T := F_Q) (N := 12) (v := .ref a10) (ty := .array (.array .int)) hx hb hg i_Q t_Q t_Q_ok n_Q hown hK.va hI h_o rfl 3 (by decide) (hg _ q_224) (fun _ h9 => h9) rfl hin rfl (by decide +kernel) (rfl) rfl (Nat.le_of_ble_eq_true rfl) d_Q_init_21 (fun S16 H17 locs e_18 hI => ?_)
  have e_18 : S16 = va_up S11 o (some (14, .inr (4, [.int 0, .ref a5, .int 0, .ref a10, .null, .null, .null, .null, .null, .null, .null, .null]))) := e_18
  have h_o_o := h_o
  have h_6 : S16 a5 = some (15, .inl ((g 0), 16, .inl (fun _ => 0))) := by rw [e_18]; exact mp_keep h_6 h_o (by decide)
  have h_14 : S16 a10 = some (16, .inl ((g 1), 48, .inr (.inr (.inr (.inr (rfs (fun i => a10 + 1 + i) 48)))))) := by rw [e_18]; exact mp_keep h_14 h_o (by decide)
  have h_o : S16 o = some (14, .inr (4, [.int 0, .ref a5, .int 0, .ref a10, .null, .null, .null, .null, .null, .null, .null, .null])) := by rw [e_18]; exact mp_us _ _ _
  have hR1 := rS_kept hR1 (S1 := S16) (fun b t9 e9 hb9 h1 h2 => by rw [e_18]; exact mp_un (mp_ne hb9 h_o_o (by omega)))
  have hfr : ∀ b, S b ≠ none → b ≠ o → S16 b = S b := fun b h9 k0 => by rw [e_18]; exact (mp_un k0).trans (hfr b h9 k0)
  refine lv_aload_n hx hb d_Q_init_24 rfl (lv_at hl 0 rfl) ?_
  refine lv_bipush (v := nI 16) hx hb d_Q_init_25 (by decide) ?_
  have hI0 := hI
  refine mp_newi (N' := 16) hx hb (hg _ q_60) hK.va hI 0 17 rfl (by decide) (by decide) (Nat.le_of_ble_eq_true rfl) (Nat.le_of_ble_eq_true rfl) (Nat.le_of_ble_eq_true rfl) d_Q_init_27 (fun S19 H20 z_22 e_21 hI => ?_)
  obtain ⟨a23, ea23⟩ : ∃ z, z = H17.size := ⟨_, rfl⟩
  have g_a23 : s.heap.size ≤ a23 := by rw [ea23]; exact hI0.2.2.1.1
  rw [← ea23] at z_22 e_21
  refine W.eq (g2 := F0 m 29 ls [.ref a23, .ref o]) (by rw [ea23]) ?_
  have h_o : S19 o = some (14, .inr (4, [.int 0, .ref a5, .int 0, .ref a10, .null, .null, .null, .null, .null, .null, .null, .null])) := by rw [e_21]; exact mp_keepN h_o z_22
  have h_6 : S19 a5 = some (15, .inl ((g 0), 16, .inl (fun _ => 0))) := by rw [e_21]; exact mp_keepN h_6 z_22
  have h_14 : S19 a10 = some (16, .inl ((g 1), 48, .inr (.inr (.inr (.inr (rfs (fun i => a10 + 1 + i) 48)))))) := by rw [e_21]; exact mp_keepN h_14 z_22
  have h_24 : S19 a23 = some (17, .inl ((g 0), 16, .inl (fun _ => 0))) := by rw [e_21]; exact mp_us _ _ _
  have hR1 := rS_kept hR1 (S1 := S19) (fun b t9 e9 hb9 h1 h2 => by rw [e_21]; exact mp_un (fun z9 => by rw [z9, z_22] at hb9; cases hb9))
  have nb_a23 : ∀ b, S b ≠ none → b ≠ o → b ≠ a23 := fun b h9 k0 z9 => h9 ((hfr b h9 k0).symm.trans (by rw [z9]; exact z_22))
  have hfr : ∀ b, S b ≠ none → b ≠ o → S19 b = S b := fun b h9 k0 => by rw [e_21]; exact (mp_un (nb_a23 b h9 k0)).trans (hfr b h9 k0)
  refine mp_putF (C := R_Q) (T := F_Q) (N := 12) (v := .ref a23) (ty := .array .int) hx hb hg i_Q t_Q t_Q_ok n_Q hown hK.va hI h_o rfl 4 (by decide) (hg _ q_225) (fun _ h9 => h9) rfl hin rfl (by decide +kernel) (rfl) rfl (Nat.le_of_ble_eq_true rfl) d_Q_init_29 (fun S25 H26 locs e_27 hI => ?_)
  have e_27 : S25 = va_up S19 o (some (14, .inr (4, [.int 0, .ref a5, .int 0, .ref a10, .ref a23, .null, .null, .null, .null, .null, .null, .null]))) := e_27
  have h_o_o := h_o
  have h_6 : S25 a5 = some (15, .inl ((g 0), 16, .inl (fun _ => 0))) := by rw [e_27]; exact mp_keep h_6 h_o (by decide)
  have h_14 : S25 a10 = some (16, .inl ((g 1), 48, .inr (.inr (.inr (.inr (rfs (fun i => a10 + 1 + i) 48)))))) := by rw [e_27]; exact mp_keep h_14 h_o (by decide)
  have h_24 : S25 a23 = some (17, .inl ((g 0), 16, .inl (fun _ => 0))) := by rw [e_27]; exact mp_keep h_24 h_o (by decide)
  have h_o : S25 o = some (14, .inr (4, [.int 0, .ref a5, .int 0, .ref a10, .ref a23, .null, .null, .null, .null, .null, .null, .null])) := by rw [e_27]; exact mp_us _ _ _
  have hR1 := rS_kept hR1 (S1 := S25) (fun b t9 e9 hb9 h1 h2 => by rw [e_27]; exact mp_un (mp_ne hb9 h_o_o (by omega)))
  have hfr : ∀ b, S b ≠ none → b ≠ o → S25 b = S b := fun b h9 k0 => by rw [e_27]; exact (mp_un k0).trans (hfr b h9 k0)
  refine lv_aload_n hx hb d_Q_init_32 rfl (lv_at hl 0 rfl) ?_
  refine lv_bipush (v := nI 16) hx hb d_Q_init_33 (by decide) ?_
  have hI0 := hI
  refine mp_newi (N' := 16) hx hb (hg _ q_60) hK.va hI 0 18 rfl (by decide) (by decide) (Nat.le_of_ble_eq_true rfl) (Nat.le_of_ble_eq_true rfl) (Nat.le_of_ble_eq_true rfl) d_Q_init_35 (fun S28 H29 z_31 e_30 hI => ?_)
  obtain ⟨a32, ea32⟩ : ∃ z, z = H26.size := ⟨_, rfl⟩
  have g_a32 : s.heap.size ≤ a32 := by rw [ea32]; exact hI0.2.2.1.1
  rw [← ea32] at z_31 e_30
  refine W.eq (g2 := F0 m 37 ls [.ref a32, .ref o]) (by rw [ea32]) ?_
  have h_o : S28 o = some (14, .inr (4, [.int 0, .ref a5, .int 0, .ref a10, .ref a23, .null, .null, .null, .null, .null, .null, .null])) := by rw [e_30]; exact mp_keepN h_o z_31
  have h_6 : S28 a5 = some (15, .inl ((g 0), 16, .inl (fun _ => 0))) := by rw [e_30]; exact mp_keepN h_6 z_31
  have h_14 : S28 a10 = some (16, .inl ((g 1), 48, .inr (.inr (.inr (.inr (rfs (fun i => a10 + 1 + i) 48)))))) := by rw [e_30]; exact mp_keepN h_14 z_31
  have h_24 : S28 a23 = some (17, .inl ((g 0), 16, .inl (fun _ => 0))) := by rw [e_30]; exact mp_keepN h_24 z_31
  have h_33 : S28 a32 = some (18, .inl ((g 0), 16, .inl (fun _ => 0))) := by rw [e_30]; exact mp_us _ _ _
  have hR1 := rS_kept hR1 (S1 := S28) (fun b t9 e9 hb9 h1 h2 => by rw [e_30]; exact mp_un (fun z9 => by rw [z9, z_31] at hb9; cases hb9))
  have nb_a32 : ∀ b, S b ≠ none → b ≠ o → b ≠ a32 := fun b h9 k0 z9 => h9 ((hfr b h9 k0).symm.trans (by rw [z9]; exact z_31))
  have hfr : ∀ b, S b ≠ none → b ≠ o → S28 b = S b := fun b h9 k0 => by rw [e_30]; exact (mp_un (nb_a32 b h9 k0)).trans (hfr b h9 k0)
  refine mp_putF (C := R_Q) (T := F_Q) (N := 12) (v := .ref a32) (ty := .array .int) hx hb hg i_Q t_Q t_Q_ok n_Q hown hK.va hI h_o rfl 5 (by decide) (hg _ q_226) (fun _ h9 => h9) rfl hin rfl (by decide +kernel) (rfl) rfl (Nat.le_of_ble_eq_true rfl) d_Q_init_37 (fun S34 H35 locs e_36 hI => ?_)
  have e_36 : S34 = va_up S28 o (some (14, .inr (4, [.int 0, .ref a5, .int 0, .ref a10, .ref a23, .ref a32, .null, .null, .null, .null, .null, .null]))) := e_36
  have h_o_o := h_o
  have h_6 : S34 a5 = some (15, .inl ((g 0), 16, .inl (fun _ => 0))) := by rw [e_36]; exact mp_keep h_6 h_o (by decide)
  have h_14 : S34 a10 = some (16, .inl ((g 1), 48, .inr (.inr (.inr (.inr (rfs (fun i => a10 + 1 + i) 48)))))) := by rw [e_36]; exact mp_keep h_14 h_o (by decide)
  have h_24 : S34 a23 = some (17, .inl ((g 0), 16, .inl (fun _ => 0))) := by rw [e_36]; exact mp_keep h_24 h_o (by decide)
  have h_33 : S34 a32 = some (18, .inl ((g 0), 16, .inl (fun _ => 0))) := by rw [e_36]; exact mp_keep h_33 h_o (by decide)
  have h_o : S34 o = some (14, .inr (4, [.int 0, .ref a5, .int 0, .ref a10, .ref a23, .ref a32, .null, .null, .null, .null, .null, .null])) := by rw [e_36]; exact mp_us _ _ _
  have hR1 := rS_kept hR1 (S1 := S34) (fun b t9 e9 hb9 h1 h2 => by rw [e_36]; exact mp_un (mp_ne hb9 h_o_o (by omega)))
  have hfr : ∀ b, S b ≠ none → b ≠ o → S34 b = S b := fun b h9 k0 => by rw [e_36]; exact (mp_un k0).trans (hfr b h9 k0)
  refine lv_aload_n hx hb d_Q_init_40 rfl (lv_at hl 0 rfl) ?_
  refine lv_bipush (v := nI 16) hx hb d_Q_init_41 (by decide) ?_
  refine lv_bipush (v := nI 16) hx hb d_Q_init_43 (by decide) ?_
  have hI0 := hI
  refine mp_mna hx hb hown (hg _ q_198) (hK.use q_160 rfl) (hg _ q_60) hK.va hI 19 450 (N' := 16) (K' := 16) (by decide) (by decide) (by decide) (by decide) (by decide) (by decide) (Nat.le_of_ble_eq_true rfl) (Nat.le_of_ble_eq_true rfl) d_Q_init_45 (fun a37 S38 H39 g_a370 z_40 h_41 hR2 f_42 hI => ?_)
  have g_a37 : s.heap.size ≤ a37 := Nat.le_trans hI0.2.2.1.1 g_a370
  have nb_a37 : ∀ b, S b ≠ none → b ≠ o → b ≠ a37 := fun b h9 k0 z9 => h9 ((hfr b h9 k0).symm.trans (by rw [z9]; exact z_40))
  have h_o : S38 o = some (14, .inr (4, [.int 0, .ref a5, .int 0, .ref a10, .ref a23, .ref a32, .null, .null, .null, .null, .null, .null])) := (f_42 o (mp_in h_o)).trans h_o
  have h_6 : S38 a5 = some (15, .inl ((g 0), 16, .inl (fun _ => 0))) := (f_42 a5 (mp_in h_6)).trans h_6
  have h_14 : S38 a10 = some (16, .inl ((g 1), 48, .inr (.inr (.inr (.inr (rfs (fun i => a10 + 1 + i) 48)))))) := (f_42 a10 (mp_in h_14)).trans h_14
  have h_24 : S38 a23 = some (17, .inl ((g 0), 16, .inl (fun _ => 0))) := (f_42 a23 (mp_in h_24)).trans h_24
  have h_33 : S38 a32 = some (18, .inl ((g 0), 16, .inl (fun _ => 0))) := (f_42 a32 (mp_in h_33)).trans h_33
  have hfr : ∀ b, S b ≠ none → b ≠ o → S38 b = S b := fun b h9 k0 => (f_42 b (by rw [hfr b h9 k0]; exact h9)).trans (hfr b h9 k0)
  have hR1 := rS_kept hR1 (S1 := S38) (fun b t9 e9 hb9 h1 h2 => f_42 b (mp_in hb9))
  refine mp_putF (C := R_Q) (T := F_Q) (N := 12) (v := .ref a37) (ty := .array (.array .int)) hx hb hg i_Q t_Q t_Q_ok n_Q hown hK.va hI h_o rfl 6 (by decide) (hg _ q_227) (fun _ h9 => h9) rfl hin rfl (by decide +kernel) (rfl) rfl (Nat.le_of_ble_eq_true rfl) d_Q_init_49 (fun S43 H44 locs e_45 hI => ?_)
  have e_45 : S43 = va_up S38 o (some (14, .inr (4, [.int 0, .ref a5, .int 0, .ref a10, .ref a23, .ref a32, .ref a37, .null, .null, .null, .null, .null]))) := e_45
  have h_o_o := h_o
  have h_6 : S43 a5 = some (15, .inl ((g 0), 16, .inl (fun _ => 0))) := by rw [e_45]; exact mp_keep h_6 h_o (by decide)
  have h_14 : S43 a10 = some (16, .inl ((g 1), 48, .inr (.inr (.inr (.inr (rfs (fun i => a10 + 1 + i) 48)))))) := by rw [e_45]; exact mp_keep h_14 h_o (by decide)
  have h_24 : S43 a23 = some (17, .inl ((g 0), 16, .inl (fun _ => 0))) := by rw [e_45]; exact mp_keep h_24 h_o (by decide)
  have h_33 : S43 a32 = some (18, .inl ((g 0), 16, .inl (fun _ => 0))) := by rw [e_45]; exact mp_keep h_33 h_o (by decide)
  have h_41 : S43 a37 = some (19, .inl ((g 1), 16, .inr (.inr (.inr (.inr (rfs (fun i => a37 + 1 + i) 16)))))) := by rw [e_45]; exact mp_keep h_41 h_o (by decide)
  have h_o : S43 o = some (14, .inr (4, [.int 0, .ref a5, .int 0, .ref a10, .ref a23, .ref a32, .ref a37, .null, .null, .null, .null, .null])) := by rw [e_45]; exact mp_us _ _ _
  have hR1 := rS_kept hR1 (S1 := S43) (fun b t9 e9 hb9 h1 h2 => by rw [e_45]; exact mp_un (mp_ne hb9 h_o_o (by omega)))
  have hR2 := rS_kept hR2 (S1 := S43) (fun b t9 e9 hb9 h1 h2 => by rw [e_45]; exact mp_un (mp_ne hb9 h_o_o (by omega)))
  have hfr : ∀ b, S b ≠ none → b ≠ o → S43 b = S b := fun b h9 k0 => by rw [e_45]; exact (mp_un k0).trans (hfr b h9 k0)
  refine lv_aload_n hx hb d_Q_init_52 rfl (lv_at hl 0 rfl) ?_
  refine lv_bipush (v := nI 16) hx hb d_Q_init_53 (by decide) ?_
  have hI0 := hI
  refine mp_newi (N' := 16) hx hb (hg _ q_60) hK.va hI 0 20 rfl (by decide) (by decide) (Nat.le_of_ble_eq_true rfl) (Nat.le_of_ble_eq_true rfl) (Nat.le_of_ble_eq_true rfl) d_Q_init_55 (fun S46 H47 z_49 e_48 hI => ?_)
  obtain ⟨a50, ea50⟩ : ∃ z, z = H44.size := ⟨_, rfl⟩
  have g_a50 : s.heap.size ≤ a50 := by rw [ea50]; exact hI0.2.2.1.1
  rw [← ea50] at z_49 e_48
  refine W.eq (g2 := F0 m 57 ls [.ref a50, .ref o]) (by rw [ea50]) ?_
  have h_o : S46 o = some (14, .inr (4, [.int 0, .ref a5, .int 0, .ref a10, .ref a23, .ref a32, .ref a37, .null, .null, .null, .null, .null])) := by rw [e_48]; exact mp_keepN h_o z_49
  have h_6 : S46 a5 = some (15, .inl ((g 0), 16, .inl (fun _ => 0))) := by rw [e_48]; exact mp_keepN h_6 z_49
  have h_14 : S46 a10 = some (16, .inl ((g 1), 48, .inr (.inr (.inr (.inr (rfs (fun i => a10 + 1 + i) 48)))))) := by rw [e_48]; exact mp_keepN h_14 z_49
  have h_24 : S46 a23 = some (17, .inl ((g 0), 16, .inl (fun _ => 0))) := by rw [e_48]; exact mp_keepN h_24 z_49
  have h_33 : S46 a32 = some (18, .inl ((g 0), 16, .inl (fun _ => 0))) := by rw [e_48]; exact mp_keepN h_33 z_49
  have h_41 : S46 a37 = some (19, .inl ((g 1), 16, .inr (.inr (.inr (.inr (rfs (fun i => a37 + 1 + i) 16)))))) := by rw [e_48]; exact mp_keepN h_41 z_49
  have h_51 : S46 a50 = some (20, .inl ((g 0), 16, .inl (fun _ => 0))) := by rw [e_48]; exact mp_us _ _ _
  have hR1 := rS_kept hR1 (S1 := S46) (fun b t9 e9 hb9 h1 h2 => by rw [e_48]; exact mp_un (fun z9 => by rw [z9, z_49] at hb9; cases hb9))
  have hR2 := rS_kept hR2 (S1 := S46) (fun b t9 e9 hb9 h1 h2 => by rw [e_48]; exact mp_un (fun z9 => by rw [z9, z_49] at hb9; cases hb9))
  have nb_a50 : ∀ b, S b ≠ none → b ≠ o → b ≠ a50 := fun b h9 k0 z9 => h9 ((hfr b h9 k0).symm.trans (by rw [z9]; exact z_49))
  have hfr : ∀ b, S b ≠ none → b ≠ o → S46 b = S b := fun b h9 k0 => by rw [e_48]; exact (mp_un (nb_a50 b h9 k0)).trans (hfr b h9 k0)
  refine mp_putF (C := R_Q) (T := F_Q) (N := 12) (v := .ref a50) (ty := .array .int) hx hb hg i_Q t_Q t_Q_ok n_Q hown hK.va hI h_o rfl 7 (by decide) (hg _ q_228) (fun _ h9 => h9) rfl hin rfl (by decide +kernel) (rfl) rfl (Nat.le_of_ble_eq_true rfl) d_Q_init_57 (fun S52 H53 locs e_54 hI => ?_)
  have e_54 : S52 = va_up S46 o (some (14, .inr (4, [.int 0, .ref a5, .int 0, .ref a10, .ref a23, .ref a32, .ref a37, .ref a50, .null, .null, .null, .null]))) := e_54
  have h_o_o := h_o
  have h_6 : S52 a5 = some (15, .inl ((g 0), 16, .inl (fun _ => 0))) := by rw [e_54]; exact mp_keep h_6 h_o (by decide)
  have h_14 : S52 a10 = some (16, .inl ((g 1), 48, .inr (.inr (.inr (.inr (rfs (fun i => a10 + 1 + i) 48)))))) := by rw [e_54]; exact mp_keep h_14 h_o (by decide)
  have h_24 : S52 a23 = some (17, .inl ((g 0), 16, .inl (fun _ => 0))) := by rw [e_54]; exact mp_keep h_24 h_o (by decide)
  have h_33 : S52 a32 = some (18, .inl ((g 0), 16, .inl (fun _ => 0))) := by rw [e_54]; exact mp_keep h_33 h_o (by decide)
  have h_41 : S52 a37 = some (19, .inl ((g 1), 16, .inr (.inr (.inr (.inr (rfs (fun i => a37 + 1 + i) 16)))))) := by rw [e_54]; exact mp_keep h_41 h_o (by decide)
  have h_51 : S52 a50 = some (20, .inl ((g 0), 16, .inl (fun _ => 0))) := by rw [e_54]; exact mp_keep h_51 h_o (by decide)
  have h_o : S52 o = some (14, .inr (4, [.int 0, .ref a5, .int 0, .ref a10, .ref a23, .ref a32, .ref a37, .ref a50, .null, .null, .null, .null])) := by rw [e_54]; exact mp_us _ _ _
  have hR1 := rS_kept hR1 (S1 := S52) (fun b t9 e9 hb9 h1 h2 => by rw [e_54]; exact mp_un (mp_ne hb9 h_o_o (by omega)))
  have hR2 := rS_kept hR2 (S1 := S52) (fun b t9 e9 hb9 h1 h2 => by rw [e_54]; exact mp_un (mp_ne hb9 h_o_o (by omega)))
  have hfr : ∀ b, S b ≠ none → b ≠ o → S52 b = S b := fun b h9 k0 => by rw [e_54]; exact (mp_un k0).trans (hfr b h9 k0)
  refine lv_aload_n hx hb d_Q_init_60 rfl (lv_at hl 0 rfl) ?_
  refine lv_bipush (v := nI 16) hx hb d_Q_init_61 (by decide) ?_
  have hI0 := hI
  refine mp_newi (N' := 16) hx hb (hg _ q_60) hK.va hI 0 21 rfl (by decide) (by decide) (Nat.le_of_ble_eq_true rfl) (Nat.le_of_ble_eq_true rfl) (Nat.le_of_ble_eq_true rfl) d_Q_init_63 (fun S55 H56 z_58 e_57 hI => ?_)
  obtain ⟨a59, ea59⟩ : ∃ z, z = H53.size := ⟨_, rfl⟩
  have g_a59 : s.heap.size ≤ a59 := by rw [ea59]; exact hI0.2.2.1.1
  rw [← ea59] at z_58 e_57
  refine W.eq (g2 := F0 m 65 ls [.ref a59, .ref o]) (by rw [ea59]) ?_
  have h_o : S55 o = some (14, .inr (4, [.int 0, .ref a5, .int 0, .ref a10, .ref a23, .ref a32, .ref a37, .ref a50, .null, .null, .null, .null])) := by rw [e_57]; exact mp_keepN h_o z_58
  have h_6 : S55 a5 = some (15, .inl ((g 0), 16, .inl (fun _ => 0))) := by rw [e_57]; exact mp_keepN h_6 z_58
  have h_14 : S55 a10 = some (16, .inl ((g 1), 48, .inr (.inr (.inr (.inr (rfs (fun i => a10 + 1 + i) 48)))))) := by rw [e_57]; exact mp_keepN h_14 z_58
  have h_24 : S55 a23 = some (17, .inl ((g 0), 16, .inl (fun _ => 0))) := by rw [e_57]; exact mp_keepN h_24 z_58
  have h_33 : S55 a32 = some (18, .inl ((g 0), 16, .inl (fun _ => 0))) := by rw [e_57]; exact mp_keepN h_33 z_58
  have h_41 : S55 a37 = some (19, .inl ((g 1), 16, .inr (.inr (.inr (.inr (rfs (fun i => a37 + 1 + i) 16)))))) := by rw [e_57]; exact mp_keepN h_41 z_58
  have h_51 : S55 a50 = some (20, .inl ((g 0), 16, .inl (fun _ => 0))) := by rw [e_57]; exact mp_keepN h_51 z_58
  have h_60 : S55 a59 = some (21, .inl ((g 0), 16, .inl (fun _ => 0))) := by rw [e_57]; exact mp_us _ _ _
  have hR1 := rS_kept hR1 (S1 := S55) (fun b t9 e9 hb9 h1 h2 => by rw [e_57]; exact mp_un (fun z9 => by rw [z9, z_58] at hb9; cases hb9))
  have hR2 := rS_kept hR2 (S1 := S55) (fun b t9 e9 hb9 h1 h2 => by rw [e_57]; exact mp_un (fun z9 => by rw [z9, z_58] at hb9; cases hb9))
  have nb_a59 : ∀ b, S b ≠ none → b ≠ o → b ≠ a59 := fun b h9 k0 z9 => h9 ((hfr b h9 k0).symm.trans (by rw [z9]; exact z_58))
  have hfr : ∀ b, S b ≠ none → b ≠ o → S55 b = S b := fun b h9 k0 => by rw [e_57]; exact (mp_un (nb_a59 b h9 k0)).trans (hfr b h9 k0)
  refine mp_putF (C := R_Q) (T := F_Q) (N := 12) (v := .ref a59) (ty := .array .int) hx hb hg i_Q t_Q t_Q_ok n_Q hown hK.va hI h_o rfl 8 (by decide) (hg _ q_229) (fun _ h9 => h9) rfl hin rfl (by decide +kernel) (rfl) rfl (Nat.le_of_ble_eq_true rfl) d_Q_init_65 (fun S61 H62 locs e_63 hI => ?_)
  have e_63 : S61 = va_up S55 o (some (14, .inr (4, [.int 0, .ref a5, .int 0, .ref a10, .ref a23, .ref a32, .ref a37, .ref a50, .ref a59, .null, .null, .null]))) := e_63
  have h_o_o := h_o
  have h_6 : S61 a5 = some (15, .inl ((g 0), 16, .inl (fun _ => 0))) := by rw [e_63]; exact mp_keep h_6 h_o (by decide)
  have h_14 : S61 a10 = some (16, .inl ((g 1), 48, .inr (.inr (.inr (.inr (rfs (fun i => a10 + 1 + i) 48)))))) := by rw [e_63]; exact mp_keep h_14 h_o (by decide)
  have h_24 : S61 a23 = some (17, .inl ((g 0), 16, .inl (fun _ => 0))) := by rw [e_63]; exact mp_keep h_24 h_o (by decide)
  have h_33 : S61 a32 = some (18, .inl ((g 0), 16, .inl (fun _ => 0))) := by rw [e_63]; exact mp_keep h_33 h_o (by decide)
  have h_41 : S61 a37 = some (19, .inl ((g 1), 16, .inr (.inr (.inr (.inr (rfs (fun i => a37 + 1 + i) 16)))))) := by rw [e_63]; exact mp_keep h_41 h_o (by decide)
  have h_51 : S61 a50 = some (20, .inl ((g 0), 16, .inl (fun _ => 0))) := by rw [e_63]; exact mp_keep h_51 h_o (by decide)
  have h_60 : S61 a59 = some (21, .inl ((g 0), 16, .inl (fun _ => 0))) := by rw [e_63]; exact mp_keep h_60 h_o (by decide)
  have h_o : S61 o = some (14, .inr (4, [.int 0, .ref a5, .int 0, .ref a10, .ref a23, .ref a32, .ref a37, .ref a50, .ref a59, .null, .null, .null])) := by rw [e_63]; exact mp_us _ _ _
  have hR1 := rS_kept hR1 (S1 := S61) (fun b t9 e9 hb9 h1 h2 => by rw [e_63]; exact mp_un (mp_ne hb9 h_o_o (by omega)))
  have hR2 := rS_kept hR2 (S1 := S61) (fun b t9 e9 hb9 h1 h2 => by rw [e_63]; exact mp_un (mp_ne hb9 h_o_o (by omega)))
  have hfr : ∀ b, S b ≠ none → b ≠ o → S61 b = S b := fun b h9 k0 => by rw [e_63]; exact (mp_un k0).trans (hfr b h9 k0)
  refine lv_aload_n hx hb d_Q_init_68 rfl (lv_at hl 0 rfl) ?_
  refine lv_bipush (v := nI 33) hx hb d_Q_init_69 (by decide) ?_
  have hI0 := hI
  refine mp_newi (N' := 33) hx hb (hg _ q_60) hK.va hI 0 22 rfl (by decide) (by decide) (Nat.le_of_ble_eq_true rfl) (Nat.le_of_ble_eq_true rfl) (Nat.le_of_ble_eq_true rfl) d_Q_init_71 (fun S64 H65 z_67 e_66 hI => ?_)
  obtain ⟨a68, ea68⟩ : ∃ z, z = H62.size := ⟨_, rfl⟩
  have g_a68 : s.heap.size ≤ a68 := by rw [ea68]; exact hI0.2.2.1.1
  rw [← ea68] at z_67 e_66
  refine W.eq (g2 := F0 m 73 ls [.ref a68, .ref o]) (by rw [ea68]) ?_
  have h_o : S64 o = some (14, .inr (4, [.int 0, .ref a5, .int 0, .ref a10, .ref a23, .ref a32, .ref a37, .ref a50, .ref a59, .null, .null, .null])) := by rw [e_66]; exact mp_keepN h_o z_67
  have h_6 : S64 a5 = some (15, .inl ((g 0), 16, .inl (fun _ => 0))) := by rw [e_66]; exact mp_keepN h_6 z_67
  have h_14 : S64 a10 = some (16, .inl ((g 1), 48, .inr (.inr (.inr (.inr (rfs (fun i => a10 + 1 + i) 48)))))) := by rw [e_66]; exact mp_keepN h_14 z_67
  have h_24 : S64 a23 = some (17, .inl ((g 0), 16, .inl (fun _ => 0))) := by rw [e_66]; exact mp_keepN h_24 z_67
  have h_33 : S64 a32 = some (18, .inl ((g 0), 16, .inl (fun _ => 0))) := by rw [e_66]; exact mp_keepN h_33 z_67
  have h_41 : S64 a37 = some (19, .inl ((g 1), 16, .inr (.inr (.inr (.inr (rfs (fun i => a37 + 1 + i) 16)))))) := by rw [e_66]; exact mp_keepN h_41 z_67
  have h_51 : S64 a50 = some (20, .inl ((g 0), 16, .inl (fun _ => 0))) := by rw [e_66]; exact mp_keepN h_51 z_67
  have h_60 : S64 a59 = some (21, .inl ((g 0), 16, .inl (fun _ => 0))) := by rw [e_66]; exact mp_keepN h_60 z_67
  have h_69 : S64 a68 = some (22, .inl ((g 0), 33, .inl (fun _ => 0))) := by rw [e_66]; exact mp_us _ _ _
  have hR1 := rS_kept hR1 (S1 := S64) (fun b t9 e9 hb9 h1 h2 => by rw [e_66]; exact mp_un (fun z9 => by rw [z9, z_67] at hb9; cases hb9))
  have hR2 := rS_kept hR2 (S1 := S64) (fun b t9 e9 hb9 h1 h2 => by rw [e_66]; exact mp_un (fun z9 => by rw [z9, z_67] at hb9; cases hb9))
  have nb_a68 : ∀ b, S b ≠ none → b ≠ o → b ≠ a68 := fun b h9 k0 z9 => h9 ((hfr b h9 k0).symm.trans (by rw [z9]; exact z_67))
  have hfr : ∀ b, S b ≠ none → b ≠ o → S64 b = S b := fun b h9 k0 => by rw [e_66]; exact (mp_un (nb_a68 b h9 k0)).trans (hfr b h9 k0)
  refine mp_putF (C := R_Q) (T := F_Q) (N := 12) (v := .ref a68) (ty := .array .int) hx hb hg i_Q t_Q t_Q_ok n_Q hown hK.va hI h_o rfl 9 (by decide) (hg _ q_230) (fun _ h9 => h9) rfl hin rfl (by decide +kernel) (rfl) rfl (Nat.le_of_ble_eq_true rfl) d_Q_init_73 (fun S70 H71 locs e_72 hI => ?_)
  have e_72 : S70 = va_up S64 o (some (14, .inr (4, [.int 0, .ref a5, .int 0, .ref a10, .ref a23, .ref a32, .ref a37, .ref a50, .ref a59, .ref a68, .null, .null]))) := e_72
  have h_o_o := h_o
  have h_6 : S70 a5 = some (15, .inl ((g 0), 16, .inl (fun _ => 0))) := by rw [e_72]; exact mp_keep h_6 h_o (by decide)
  have h_14 : S70 a10 = some (16, .inl ((g 1), 48, .inr (.inr (.inr (.inr (rfs (fun i => a10 + 1 + i) 48)))))) := by rw [e_72]; exact mp_keep h_14 h_o (by decide)
  have h_24 : S70 a23 = some (17, .inl ((g 0), 16, .inl (fun _ => 0))) := by rw [e_72]; exact mp_keep h_24 h_o (by decide)
  have h_33 : S70 a32 = some (18, .inl ((g 0), 16, .inl (fun _ => 0))) := by rw [e_72]; exact mp_keep h_33 h_o (by decide)
  have h_41 : S70 a37 = some (19, .inl ((g 1), 16, .inr (.inr (.inr (.inr (rfs (fun i => a37 + 1 + i) 16)))))) := by rw [e_72]; exact mp_keep h_41 h_o (by decide)
  have h_51 : S70 a50 = some (20, .inl ((g 0), 16, .inl (fun _ => 0))) := by rw [e_72]; exact mp_keep h_51 h_o (by decide)
  have h_60 : S70 a59 = some (21, .inl ((g 0), 16, .inl (fun _ => 0))) := by rw [e_72]; exact mp_keep h_60 h_o (by decide)
  have h_69 : S70 a68 = some (22, .inl ((g 0), 33, .inl (fun _ => 0))) := by rw [e_72]; exact mp_keep h_69 h_o (by decide)
  have h_o : S70 o = some (14, .inr (4, [.int 0, .ref a5, .int 0, .ref a10, .ref a23, .ref a32, .ref a37, .ref a50, .ref a59, .ref a68, .null, .null])) := by rw [e_72]; exact mp_us _ _ _
  have hR1 := rS_kept hR1 (S1 := S70) (fun b t9 e9 hb9 h1 h2 => by rw [e_72]; exact mp_un (mp_ne hb9 h_o_o (by omega)))
  have hR2 := rS_kept hR2 (S1 := S70) (fun b t9 e9 hb9 h1 h2 => by rw [e_72]; exact mp_un (mp_ne hb9 h_o_o (by omega)))
  have hfr : ∀ b, S b ≠ none → b ≠ o → S70 b = S b := fun b h9 k0 => by rw [e_72]; exact (mp_un k0).trans (hfr b h9 k0)
  refine lv_aload_n hx hb d_Q_init_76 rfl (lv_at hl 0 rfl) ?_
  have hI0 := hI
  refine mp_new (C := R_N) (T := F_N) (N := 3) (ci := 8) (fs := [.null, .null, .int 0]) hx hb hg i_N t_N t_N_ok hown (hg _ q_199) (hg _ q_200) (hg _ q_22) hK.va hI 23 rfl (fun j hj => by rcases (show j = 0 ∨ j = 1 ∨ j = 2 by omega) with rfl | rfl | rfl <;> rfl) (Nat.le_of_ble_eq_true rfl) (Nat.le_of_ble_eq_true rfl) d_Q_init_77 (fun S73 H74 z_76 e_75 hI => ?_)
  obtain ⟨a77, ea77⟩ : ∃ z, z = H71.size := ⟨_, rfl⟩
  have g_a77 : s.heap.size ≤ a77 := by rw [ea77]; exact hI0.2.2.1.1
  rw [← ea77] at z_76 e_75
  refine W.eq (g2 := F0 m 80 ls [.ref a77, .ref o]) (by rw [ea77]) ?_
  have h_o : S73 o = some (14, .inr (4, [.int 0, .ref a5, .int 0, .ref a10, .ref a23, .ref a32, .ref a37, .ref a50, .ref a59, .ref a68, .null, .null])) := by rw [e_75]; exact mp_keepN h_o z_76
  have h_6 : S73 a5 = some (15, .inl ((g 0), 16, .inl (fun _ => 0))) := by rw [e_75]; exact mp_keepN h_6 z_76
  have h_14 : S73 a10 = some (16, .inl ((g 1), 48, .inr (.inr (.inr (.inr (rfs (fun i => a10 + 1 + i) 48)))))) := by rw [e_75]; exact mp_keepN h_14 z_76
  have h_24 : S73 a23 = some (17, .inl ((g 0), 16, .inl (fun _ => 0))) := by rw [e_75]; exact mp_keepN h_24 z_76
  have h_33 : S73 a32 = some (18, .inl ((g 0), 16, .inl (fun _ => 0))) := by rw [e_75]; exact mp_keepN h_33 z_76
  have h_41 : S73 a37 = some (19, .inl ((g 1), 16, .inr (.inr (.inr (.inr (rfs (fun i => a37 + 1 + i) 16)))))) := by rw [e_75]; exact mp_keepN h_41 z_76
  have h_51 : S73 a50 = some (20, .inl ((g 0), 16, .inl (fun _ => 0))) := by rw [e_75]; exact mp_keepN h_51 z_76
  have h_60 : S73 a59 = some (21, .inl ((g 0), 16, .inl (fun _ => 0))) := by rw [e_75]; exact mp_keepN h_60 z_76
  have h_69 : S73 a68 = some (22, .inl ((g 0), 33, .inl (fun _ => 0))) := by rw [e_75]; exact mp_keepN h_69 z_76
  have h_78 : S73 a77 = some (23, .inr (8, [.null, .null, .int 0])) := by rw [e_75]; exact mp_us _ _ _
  have hR1 := rS_kept hR1 (S1 := S73) (fun b t9 e9 hb9 h1 h2 => by rw [e_75]; exact mp_un (fun z9 => by rw [z9, z_76] at hb9; cases hb9))
  have hR2 := rS_kept hR2 (S1 := S73) (fun b t9 e9 hb9 h1 h2 => by rw [e_75]; exact mp_un (fun z9 => by rw [z9, z_76] at hb9; cases hb9))
  have nb_a77 : ∀ b, S b ≠ none → b ≠ o → b ≠ a77 := fun b h9 k0 z9 => h9 ((hfr b h9 k0).symm.trans (by rw [z9]; exact z_76))
  have hfr : ∀ b, S b ≠ none → b ≠ o → S73 b = S b := fun b h9 k0 => by rw [e_75]; exact (mp_un (nb_a77 b h9 k0)).trans (hfr b h9 k0)
  refine lv_dup hx hb d_Q_init_80 rfl ?_
  refine lv_bipush (v := nI 16) hx hb d_Q_init_81 (by decide) ?_
  refine lv_bipush (v := nI 33) hx hb d_Q_init_83 (by decide) ?_
  refine mp_callv hI (va_runI (As := [.int (nI 16), .int (nI 33)]) (rest := [.ref a77, .ref o]) ⟨hx, hb, hml, hown, hg⟩ (c_N_init33 l D g S73 _ a77 23 470 h_78 (by decide)) ⟨(callB_of 2 hg (wd_goodG q_203) rfl rfl rfl (hg _ q_22) (hg _ q_201) (by decide +kernel) ⟨Nat.le_of_ble_eq_true rfl, Nat.le_of_ble_eq_true rfl⟩), rfl, hg _ q_202⟩ (mp_pre hI hK ([.ref a77, .int (nI 16), .int (nI 33)])) rfl rfl hl.1 rfl (lv_room (Nat.le_of_ble_eq_true rfl)) d_Q_init_85 ⟨Nat.le_of_ble_eq_true rfl, Nat.le_of_ble_eq_true rfl⟩) (fun S79 H80 locs p_81 hI => ?_)
  obtain ⟨rq, rp, h_r, h_rq, h_rp, hR3, f_r⟩ := p_81
  have h_o : S79 o = some (14, .inr (4, [.int 0, .ref a5, .int 0, .ref a10, .ref a23, .ref a32, .ref a37, .ref a50, .ref a59, .ref a68, .null, .null])) := (f_r o (mp_in h_o) (mp_ne h_o h_78 (by decide))).trans h_o
  have h_6 : S79 a5 = some (15, .inl ((g 0), 16, .inl (fun _ => 0))) := (f_r a5 (mp_in h_6) (mp_ne h_6 h_78 (by decide))).trans h_6
  have h_14 : S79 a10 = some (16, .inl ((g 1), 48, .inr (.inr (.inr (.inr (rfs (fun i => a10 + 1 + i) 48)))))) := (f_r a10 (mp_in h_14) (mp_ne h_14 h_78 (by decide))).trans h_14
  have h_24 : S79 a23 = some (17, .inl ((g 0), 16, .inl (fun _ => 0))) := (f_r a23 (mp_in h_24) (mp_ne h_24 h_78 (by decide))).trans h_24
  have h_33 : S79 a32 = some (18, .inl ((g 0), 16, .inl (fun _ => 0))) := (f_r a32 (mp_in h_33) (mp_ne h_33 h_78 (by decide))).trans h_33
  have h_41 : S79 a37 = some (19, .inl ((g 1), 16, .inr (.inr (.inr (.inr (rfs (fun i => a37 + 1 + i) 16)))))) := (f_r a37 (mp_in h_41) (mp_ne h_41 h_78 (by decide))).trans h_41
  have h_51 : S79 a50 = some (20, .inl ((g 0), 16, .inl (fun _ => 0))) := (f_r a50 (mp_in h_51) (mp_ne h_51 h_78 (by decide))).trans h_51
  have h_60 : S79 a59 = some (21, .inl ((g 0), 16, .inl (fun _ => 0))) := (f_r a59 (mp_in h_60) (mp_ne h_60 h_78 (by decide))).trans h_60
  have h_69 : S79 a68 = some (22, .inl ((g 0), 33, .inl (fun _ => 0))) := (f_r a68 (mp_in h_69) (mp_ne h_69 h_78 (by decide))).trans h_69
  have hfr : ∀ b, S b ≠ none → b ≠ o → S79 b = S b := fun b h9 k0 => (f_r b (by rw [hfr b h9 k0]; exact h9) (nb_a77 b h9 k0)).trans (hfr b h9 k0)
  have hR1 := rS_kept hR1 (S1 := S79) (fun b t9 e9 hb9 h1 h2 => f_r b (mp_in hb9) (mp_ne hb9 h_78 (by omega)))
  have hR2 := rS_kept hR2 (S1 := S79) (fun b t9 e9 hb9 h1 h2 => f_r b (mp_in hb9) (mp_ne hb9 h_78 (by omega)))
  refine mp_putF (C := R_Q) (T := F_Q) (N := 12) (v := .ref a77) (ty := .object "SolutionBoxes$Span") hx hb hg i_Q t_Q t_Q_ok n_Q hown hK.va hI h_o rfl 10 (by decide) (hg _ q_231) (fun _ h9 => h9) rfl hin rfl (by decide +kernel) (rfl) rfl (Nat.le_of_ble_eq_true rfl) d_Q_init_88 (fun S83 H84 locs e_85 hI => ?_)
  have e_85 : S83 = va_up S79 o (some (14, .inr (4, [.int 0, .ref a5, .int 0, .ref a10, .ref a23, .ref a32, .ref a37, .ref a50, .ref a59, .ref a68, .ref a77, .null]))) := e_85
  have h_o_o := h_o
  have h_6 : S83 a5 = some (15, .inl ((g 0), 16, .inl (fun _ => 0))) := by rw [e_85]; exact mp_keep h_6 h_o (by decide)
  have h_14 : S83 a10 = some (16, .inl ((g 1), 48, .inr (.inr (.inr (.inr (rfs (fun i => a10 + 1 + i) 48)))))) := by rw [e_85]; exact mp_keep h_14 h_o (by decide)
  have h_24 : S83 a23 = some (17, .inl ((g 0), 16, .inl (fun _ => 0))) := by rw [e_85]; exact mp_keep h_24 h_o (by decide)
  have h_33 : S83 a32 = some (18, .inl ((g 0), 16, .inl (fun _ => 0))) := by rw [e_85]; exact mp_keep h_33 h_o (by decide)
  have h_41 : S83 a37 = some (19, .inl ((g 1), 16, .inr (.inr (.inr (.inr (rfs (fun i => a37 + 1 + i) 16)))))) := by rw [e_85]; exact mp_keep h_41 h_o (by decide)
  have h_51 : S83 a50 = some (20, .inl ((g 0), 16, .inl (fun _ => 0))) := by rw [e_85]; exact mp_keep h_51 h_o (by decide)
  have h_60 : S83 a59 = some (21, .inl ((g 0), 16, .inl (fun _ => 0))) := by rw [e_85]; exact mp_keep h_60 h_o (by decide)
  have h_69 : S83 a68 = some (22, .inl ((g 0), 33, .inl (fun _ => 0))) := by rw [e_85]; exact mp_keep h_69 h_o (by decide)
  have h_r : S83 a77 = some (23, .inr (8, [.ref rq, .ref rp, .int 0])) := by rw [e_85]; exact mp_keep h_r h_o (by decide)
  have h_rq : S83 rq = some (24, .inl ((g 1), 16, .inr (.inr (.inr (.inr (rfs (fun i => rq + 1 + i) 16)))))) := by rw [e_85]; exact mp_keep h_rq h_o (by decide)
  have h_rp : S83 rp = some (25, .inl ((g 0), 16, .inl (fun _ => 0))) := by rw [e_85]; exact mp_keep h_rp h_o (by decide)
  have h_o : S83 o = some (14, .inr (4, [.int 0, .ref a5, .int 0, .ref a10, .ref a23, .ref a32, .ref a37, .ref a50, .ref a59, .ref a68, .ref a77, .null])) := by rw [e_85]; exact mp_us _ _ _
  have hR1 := rS_kept hR1 (S1 := S83) (fun b t9 e9 hb9 h1 h2 => by rw [e_85]; exact mp_un (mp_ne hb9 h_o_o (by omega)))
  have hR2 := rS_kept hR2 (S1 := S83) (fun b t9 e9 hb9 h1 h2 => by rw [e_85]; exact mp_un (mp_ne hb9 h_o_o (by omega)))
  have hR3 := rS_kept hR3 (S1 := S83) (fun b t9 e9 hb9 h1 h2 => by rw [e_85]; exact mp_un (mp_ne hb9 h_o_o (by omega)))
  have hfr : ∀ b, S b ≠ none → b ≠ o → S83 b = S b := fun b h9 k0 => by rw [e_85]; exact (mp_un k0).trans (hfr b h9 k0)
  refine lv_aload_n hx hb d_Q_init_91 rfl (lv_at hl 0 rfl) ?_
  have hI0 := hI
  refine mp_new (C := R_N) (T := F_N) (N := 3) (ci := 8) (fs := [.null, .null, .int 0]) hx hb hg i_N t_N t_N_ok hown (hg _ q_199) (hg _ q_200) (hg _ q_22) hK.va hI 26 rfl (fun j hj => by rcases (show j = 0 ∨ j = 1 ∨ j = 2 by omega) with rfl | rfl | rfl <;> rfl) (Nat.le_of_ble_eq_true rfl) (Nat.le_of_ble_eq_true rfl) d_Q_init_92 (fun S86 H87 z_89 e_88 hI => ?_)
  obtain ⟨a90, ea90⟩ : ∃ z, z = H84.size := ⟨_, rfl⟩
  have g_a90 : s.heap.size ≤ a90 := by rw [ea90]; exact hI0.2.2.1.1
  rw [← ea90] at z_89 e_88
  refine W.eq (g2 := F0 m 95 ls [.ref a90, .ref o]) (by rw [ea90]) ?_
  have h_o : S86 o = some (14, .inr (4, [.int 0, .ref a5, .int 0, .ref a10, .ref a23, .ref a32, .ref a37, .ref a50, .ref a59, .ref a68, .ref a77, .null])) := by rw [e_88]; exact mp_keepN h_o z_89
  have h_6 : S86 a5 = some (15, .inl ((g 0), 16, .inl (fun _ => 0))) := by rw [e_88]; exact mp_keepN h_6 z_89
  have h_14 : S86 a10 = some (16, .inl ((g 1), 48, .inr (.inr (.inr (.inr (rfs (fun i => a10 + 1 + i) 48)))))) := by rw [e_88]; exact mp_keepN h_14 z_89
  have h_24 : S86 a23 = some (17, .inl ((g 0), 16, .inl (fun _ => 0))) := by rw [e_88]; exact mp_keepN h_24 z_89
  have h_33 : S86 a32 = some (18, .inl ((g 0), 16, .inl (fun _ => 0))) := by rw [e_88]; exact mp_keepN h_33 z_89
  have h_41 : S86 a37 = some (19, .inl ((g 1), 16, .inr (.inr (.inr (.inr (rfs (fun i => a37 + 1 + i) 16)))))) := by rw [e_88]; exact mp_keepN h_41 z_89
  have h_51 : S86 a50 = some (20, .inl ((g 0), 16, .inl (fun _ => 0))) := by rw [e_88]; exact mp_keepN h_51 z_89
  have h_60 : S86 a59 = some (21, .inl ((g 0), 16, .inl (fun _ => 0))) := by rw [e_88]; exact mp_keepN h_60 z_89
  have h_69 : S86 a68 = some (22, .inl ((g 0), 33, .inl (fun _ => 0))) := by rw [e_88]; exact mp_keepN h_69 z_89
  have h_r : S86 a77 = some (23, .inr (8, [.ref rq, .ref rp, .int 0])) := by rw [e_88]; exact mp_keepN h_r z_89
  have h_rq : S86 rq = some (24, .inl ((g 1), 16, .inr (.inr (.inr (.inr (rfs (fun i => rq + 1 + i) 16)))))) := by rw [e_88]; exact mp_keepN h_rq z_89
  have h_rp : S86 rp = some (25, .inl ((g 0), 16, .inl (fun _ => 0))) := by rw [e_88]; exact mp_keepN h_rp z_89
  have h_91 : S86 a90 = some (26, .inr (8, [.null, .null, .int 0])) := by rw [e_88]; exact mp_us _ _ _
  have hR1 := rS_kept hR1 (S1 := S86) (fun b t9 e9 hb9 h1 h2 => by rw [e_88]; exact mp_un (fun z9 => by rw [z9, z_89] at hb9; cases hb9))
  have hR2 := rS_kept hR2 (S1 := S86) (fun b t9 e9 hb9 h1 h2 => by rw [e_88]; exact mp_un (fun z9 => by rw [z9, z_89] at hb9; cases hb9))
  have hR3 := rS_kept hR3 (S1 := S86) (fun b t9 e9 hb9 h1 h2 => by rw [e_88]; exact mp_un (fun z9 => by rw [z9, z_89] at hb9; cases hb9))
  have nb_a90 : ∀ b, S b ≠ none → b ≠ o → b ≠ a90 := fun b h9 k0 z9 => h9 ((hfr b h9 k0).symm.trans (by rw [z9]; exact z_89))
  have hfr : ∀ b, S b ≠ none → b ≠ o → S86 b = S b := fun b h9 k0 => by rw [e_88]; exact (mp_un (nb_a90 b h9 k0)).trans (hfr b h9 k0)
  refine lv_dup hx hb d_Q_init_95 rfl ?_
  refine lv_bipush (v := nI 16) hx hb d_Q_init_96 (by decide) ?_
  refine lv_bipush (v := nI 16) hx hb d_Q_init_98 (by decide) ?_
  refine mp_callv hI (va_runI (As := [.int (nI 16), .int (nI 16)]) (rest := [.ref a90, .ref o]) ⟨hx, hb, hml, hown, hg⟩ (c_N_init16 l D g S86 _ a90 26 490 h_91 (by decide)) ⟨(callB_of 2 hg (wd_goodG q_203) rfl rfl rfl (hg _ q_22) (hg _ q_201) (by decide +kernel) ⟨Nat.le_of_ble_eq_true rfl, Nat.le_of_ble_eq_true rfl⟩), rfl, hg _ q_202⟩ (mp_pre hI hK ([.ref a90, .int (nI 16), .int (nI 16)])) rfl rfl hl.1 rfl (lv_room (Nat.le_of_ble_eq_true rfl)) d_Q_init_100 ⟨Nat.le_of_ble_eq_true rfl, Nat.le_of_ble_eq_true rfl⟩) (fun S92 H93 locs p_94 hI => ?_)
  obtain ⟨iq, ip, h_i, h_iq, h_ip, hR4, f_i⟩ := p_94
  have h_o : S92 o = some (14, .inr (4, [.int 0, .ref a5, .int 0, .ref a10, .ref a23, .ref a32, .ref a37, .ref a50, .ref a59, .ref a68, .ref a77, .null])) := (f_i o (mp_in h_o) (mp_ne h_o h_91 (by decide))).trans h_o
  have h_6 : S92 a5 = some (15, .inl ((g 0), 16, .inl (fun _ => 0))) := (f_i a5 (mp_in h_6) (mp_ne h_6 h_91 (by decide))).trans h_6
  have h_14 : S92 a10 = some (16, .inl ((g 1), 48, .inr (.inr (.inr (.inr (rfs (fun i => a10 + 1 + i) 48)))))) := (f_i a10 (mp_in h_14) (mp_ne h_14 h_91 (by decide))).trans h_14
  have h_24 : S92 a23 = some (17, .inl ((g 0), 16, .inl (fun _ => 0))) := (f_i a23 (mp_in h_24) (mp_ne h_24 h_91 (by decide))).trans h_24
  have h_33 : S92 a32 = some (18, .inl ((g 0), 16, .inl (fun _ => 0))) := (f_i a32 (mp_in h_33) (mp_ne h_33 h_91 (by decide))).trans h_33
  have h_41 : S92 a37 = some (19, .inl ((g 1), 16, .inr (.inr (.inr (.inr (rfs (fun i => a37 + 1 + i) 16)))))) := (f_i a37 (mp_in h_41) (mp_ne h_41 h_91 (by decide))).trans h_41
  have h_51 : S92 a50 = some (20, .inl ((g 0), 16, .inl (fun _ => 0))) := (f_i a50 (mp_in h_51) (mp_ne h_51 h_91 (by decide))).trans h_51
  have h_60 : S92 a59 = some (21, .inl ((g 0), 16, .inl (fun _ => 0))) := (f_i a59 (mp_in h_60) (mp_ne h_60 h_91 (by decide))).trans h_60
  have h_69 : S92 a68 = some (22, .inl ((g 0), 33, .inl (fun _ => 0))) := (f_i a68 (mp_in h_69) (mp_ne h_69 h_91 (by decide))).trans h_69
  have h_r : S92 a77 = some (23, .inr (8, [.ref rq, .ref rp, .int 0])) := (f_i a77 (mp_in h_r) (mp_ne h_r h_91 (by decide))).trans h_r
  have h_rq : S92 rq = some (24, .inl ((g 1), 16, .inr (.inr (.inr (.inr (rfs (fun i => rq + 1 + i) 16)))))) := (f_i rq (mp_in h_rq) (mp_ne h_rq h_91 (by decide))).trans h_rq
  have h_rp : S92 rp = some (25, .inl ((g 0), 16, .inl (fun _ => 0))) := (f_i rp (mp_in h_rp) (mp_ne h_rp h_91 (by decide))).trans h_rp
  have hfr : ∀ b, S b ≠ none → b ≠ o → S92 b = S b := fun b h9 k0 => (f_i b (by rw [hfr b h9 k0]; exact h9) (nb_a90 b h9 k0)).trans (hfr b h9 k0)
  have hR1 := rS_kept hR1 (S1 := S92) (fun b t9 e9 hb9 h1 h2 => f_i b (mp_in hb9) (mp_ne hb9 h_91 (by omega)))
  have hR2 := rS_kept hR2 (S1 := S92) (fun b t9 e9 hb9 h1 h2 => f_i b (mp_in hb9) (mp_ne hb9 h_91 (by omega)))
  have hR3 := rS_kept hR3 (S1 := S92) (fun b t9 e9 hb9 h1 h2 => f_i b (mp_in hb9) (mp_ne hb9 h_91 (by omega)))
  refine mp_putF (C := R_Q) (T := F_Q) (N := 12) (v := .ref a90) (ty := .object "SolutionBoxes$Span") hx hb hg i_Q t_Q t_Q_ok n_Q hown hK.va hI h_o rfl 11 (by decide) (hg _ q_232) (fun _ h9 => h9) rfl hin rfl (by decide +kernel) (rfl) rfl (Nat.le_of_ble_eq_true rfl) d_Q_init_103 (fun S96 H97 locs e_98 hI => ?_)
  have e_98 : S96 = va_up S92 o (some (14, .inr (4, [.int 0, .ref a5, .int 0, .ref a10, .ref a23, .ref a32, .ref a37, .ref a50, .ref a59, .ref a68, .ref a77, .ref a90]))) := e_98
  have h_o_o := h_o
  have h_6 : S96 a5 = some (15, .inl ((g 0), 16, .inl (fun _ => 0))) := by rw [e_98]; exact mp_keep h_6 h_o (by decide)
  have h_14 : S96 a10 = some (16, .inl ((g 1), 48, .inr (.inr (.inr (.inr (rfs (fun i => a10 + 1 + i) 48)))))) := by rw [e_98]; exact mp_keep h_14 h_o (by decide)
  have h_24 : S96 a23 = some (17, .inl ((g 0), 16, .inl (fun _ => 0))) := by rw [e_98]; exact mp_keep h_24 h_o (by decide)
  have h_33 : S96 a32 = some (18, .inl ((g 0), 16, .inl (fun _ => 0))) := by rw [e_98]; exact mp_keep h_33 h_o (by decide)
  have h_41 : S96 a37 = some (19, .inl ((g 1), 16, .inr (.inr (.inr (.inr (rfs (fun i => a37 + 1 + i) 16)))))) := by rw [e_98]; exact mp_keep h_41 h_o (by decide)
  have h_51 : S96 a50 = some (20, .inl ((g 0), 16, .inl (fun _ => 0))) := by rw [e_98]; exact mp_keep h_51 h_o (by decide)
  have h_60 : S96 a59 = some (21, .inl ((g 0), 16, .inl (fun _ => 0))) := by rw [e_98]; exact mp_keep h_60 h_o (by decide)
  have h_69 : S96 a68 = some (22, .inl ((g 0), 33, .inl (fun _ => 0))) := by rw [e_98]; exact mp_keep h_69 h_o (by decide)
  have h_r : S96 a77 = some (23, .inr (8, [.ref rq, .ref rp, .int 0])) := by rw [e_98]; exact mp_keep h_r h_o (by decide)
  have h_rq : S96 rq = some (24, .inl ((g 1), 16, .inr (.inr (.inr (.inr (rfs (fun i => rq + 1 + i) 16)))))) := by rw [e_98]; exact mp_keep h_rq h_o (by decide)
  have h_rp : S96 rp = some (25, .inl ((g 0), 16, .inl (fun _ => 0))) := by rw [e_98]; exact mp_keep h_rp h_o (by decide)
  have h_i : S96 a90 = some (26, .inr (8, [.ref iq, .ref ip, .int 0])) := by rw [e_98]; exact mp_keep h_i h_o (by decide)
  have h_iq : S96 iq = some (27, .inl ((g 1), 16, .inr (.inr (.inr (.inr (rfs (fun i => iq + 1 + i) 16)))))) := by rw [e_98]; exact mp_keep h_iq h_o (by decide)
  have h_ip : S96 ip = some (28, .inl ((g 0), 16, .inl (fun _ => 0))) := by rw [e_98]; exact mp_keep h_ip h_o (by decide)
  have h_o : S96 o = some (14, .inr (4, [.int 0, .ref a5, .int 0, .ref a10, .ref a23, .ref a32, .ref a37, .ref a50, .ref a59, .ref a68, .ref a77, .ref a90])) := by rw [e_98]; exact mp_us _ _ _
  have hR1 := rS_kept hR1 (S1 := S96) (fun b t9 e9 hb9 h1 h2 => by rw [e_98]; exact mp_un (mp_ne hb9 h_o_o (by omega)))
  have hR2 := rS_kept hR2 (S1 := S96) (fun b t9 e9 hb9 h1 h2 => by rw [e_98]; exact mp_un (mp_ne hb9 h_o_o (by omega)))
  have hR3 := rS_kept hR3 (S1 := S96) (fun b t9 e9 hb9 h1 h2 => by rw [e_98]; exact mp_un (mp_ne hb9 h_o_o (by omega)))
  have hR4 := rS_kept hR4 (S1 := S96) (fun b t9 e9 hb9 h1 h2 => by rw [e_98]; exact mp_un (mp_ne hb9 h_o_o (by omega)))
  have hfr : ∀ b, S b ≠ none → b ≠ o → S96 b = S b := fun b h9 k0 => by rw [e_98]; exact (mp_un k0).trans (hfr b h9 k0)
  refine lv_aload_n hx hb d_Q_init_106 rfl (lv_at hl 0 rfl) ?_
  refine lv_iload_n hx hb d_Q_init_107 rfl (lv_at hl 1 rfl) ?_
  refine mp_putF (C := R_Q) (T := F_Q) (N := 12) (v := .int n) (ty := .int) hx hb hg i_Q t_Q t_Q_ok n_Q hown hK.va hI h_o rfl 0 (by decide) (hg _ q_217) (fun _ h9 => h9) rfl hin rfl (by decide +kernel) (rfl) rfl (Nat.le_of_ble_eq_true rfl) d_Q_init_108 (fun S99 H100 locs e_101 hI => ?_)
  have e_101 : S99 = va_up S96 o (some (14, .inr (4, [.int n, .ref a5, .int 0, .ref a10, .ref a23, .ref a32, .ref a37, .ref a50, .ref a59, .ref a68, .ref a77, .ref a90]))) := e_101
  have h_o_o := h_o
  have h_6 : S99 a5 = some (15, .inl ((g 0), 16, .inl (fun _ => 0))) := by rw [e_101]; exact mp_keep h_6 h_o (by decide)
  have h_14 : S99 a10 = some (16, .inl ((g 1), 48, .inr (.inr (.inr (.inr (rfs (fun i => a10 + 1 + i) 48)))))) := by rw [e_101]; exact mp_keep h_14 h_o (by decide)
  have h_24 : S99 a23 = some (17, .inl ((g 0), 16, .inl (fun _ => 0))) := by rw [e_101]; exact mp_keep h_24 h_o (by decide)
  have h_33 : S99 a32 = some (18, .inl ((g 0), 16, .inl (fun _ => 0))) := by rw [e_101]; exact mp_keep h_33 h_o (by decide)
  have h_41 : S99 a37 = some (19, .inl ((g 1), 16, .inr (.inr (.inr (.inr (rfs (fun i => a37 + 1 + i) 16)))))) := by rw [e_101]; exact mp_keep h_41 h_o (by decide)
  have h_51 : S99 a50 = some (20, .inl ((g 0), 16, .inl (fun _ => 0))) := by rw [e_101]; exact mp_keep h_51 h_o (by decide)
  have h_60 : S99 a59 = some (21, .inl ((g 0), 16, .inl (fun _ => 0))) := by rw [e_101]; exact mp_keep h_60 h_o (by decide)
  have h_69 : S99 a68 = some (22, .inl ((g 0), 33, .inl (fun _ => 0))) := by rw [e_101]; exact mp_keep h_69 h_o (by decide)
  have h_r : S99 a77 = some (23, .inr (8, [.ref rq, .ref rp, .int 0])) := by rw [e_101]; exact mp_keep h_r h_o (by decide)
  have h_rq : S99 rq = some (24, .inl ((g 1), 16, .inr (.inr (.inr (.inr (rfs (fun i => rq + 1 + i) 16)))))) := by rw [e_101]; exact mp_keep h_rq h_o (by decide)
  have h_rp : S99 rp = some (25, .inl ((g 0), 16, .inl (fun _ => 0))) := by rw [e_101]; exact mp_keep h_rp h_o (by decide)
  have h_i : S99 a90 = some (26, .inr (8, [.ref iq, .ref ip, .int 0])) := by rw [e_101]; exact mp_keep h_i h_o (by decide)
  have h_iq : S99 iq = some (27, .inl ((g 1), 16, .inr (.inr (.inr (.inr (rfs (fun i => iq + 1 + i) 16)))))) := by rw [e_101]; exact mp_keep h_iq h_o (by decide)
  have h_ip : S99 ip = some (28, .inl ((g 0), 16, .inl (fun _ => 0))) := by rw [e_101]; exact mp_keep h_ip h_o (by decide)
  have h_o : S99 o = some (14, .inr (4, [.int n, .ref a5, .int 0, .ref a10, .ref a23, .ref a32, .ref a37, .ref a50, .ref a59, .ref a68, .ref a77, .ref a90])) := by rw [e_101]; exact mp_us _ _ _
  have hR1 := rS_kept hR1 (S1 := S99) (fun b t9 e9 hb9 h1 h2 => by rw [e_101]; exact mp_un (mp_ne hb9 h_o_o (by omega)))
  have hR2 := rS_kept hR2 (S1 := S99) (fun b t9 e9 hb9 h1 h2 => by rw [e_101]; exact mp_un (mp_ne hb9 h_o_o (by omega)))
  have hR3 := rS_kept hR3 (S1 := S99) (fun b t9 e9 hb9 h1 h2 => by rw [e_101]; exact mp_un (mp_ne hb9 h_o_o (by omega)))
  have hR4 := rS_kept hR4 (S1 := S99) (fun b t9 e9 hb9 h1 h2 => by rw [e_101]; exact mp_un (mp_ne hb9 h_o_o (by omega)))
  have hfr : ∀ b, S b ≠ none → b ≠ o → S99 b = S b := fun b h9 k0 => by rw [e_101]; exact (mp_un k0).trans (hfr b h9 k0)
  refine mp_vret hx hb hr hlocks hI (by decide) (by decide) ?_ d_Q_init_111
  exact ⟨a5, a10, a23, a32, a37, a50, a59, a68, a77, rq, rp, a90, iq, ip, h_o, h_6, h_14, h_24, h_33, h_41, h_51, h_60, h_69, h_r, h_rq, h_rp, h_i, h_iq, h_ip, hR1, hR2, hR3, hR4, hfr⟩
