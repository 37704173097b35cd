/-! The law's own methods: they have exception tables. A method's words: its code with the table, then all that calls may hand on. -/
def wdW (y : MethodName) (b : ByteArray) (n : Nat) (r : Option FieldType) (hh : List (Nat × Nat × Nat × Nat)) : List Cond := Cond.codeWith y b n r hh :: gw
section LW
variable {p : Program} {l : Launch} {e : Env} {R : Room} {s : State} {m : MethodId} {args : Array Value} {below : List Frame} {meth : Method} {c : Code} {H : Heap} {locs : List Loc} {cells slots : Nat} {Q : State → Prop}
variable {cc : ByteArray} {pc : Nat} {ls : Array Slot} {D : mp_G} {cl : List vw_C} {tys : List (ClassId × FieldType)} {S : mp_M} {A : Nat → Prop} {H0 : Heap}
variable {y : MethodName} {bytes : ByteArray} {maxL nL mc ms n index : Nat} {ret : Option FieldType} {hh : List (Nat × Nat × Nat × Nat)} {ws : List Cond} {rm : Room} {Pc : Array Value → State → Prop} {Qc : Array Value → State → Outcome → State → Prop} {free : Addr → Prop} {Ts : List Cond} {own : String} {As rest : List Value} {g : JFrame}
abbrev CallBW (R : Room) (s : State) (args : Array Value) (own : String) (index : Nat) (y : MethodName) (bytes : ByteArray) (maxL : Nat) (ret : Option FieldType) (hh : List (Nat × Nat × Nat × Nat)) (ws : List Cond) (rm : Room) (mc ms n : Nat) : Prop :=
  rm.cells = mc ∧ rm.slots = ms ∧ rm.frames + 1 ≤ R.frames ∧ 8 + (maxL + 11) + rm.locals ≤ R.locals ∧ (∀ w ∈ ws, ∀ (a' : Array Value) (U : State), s.WarmedH U.vm → w.before a' U = true) ∧ Cond.codeWith y bytes maxL ret hh ∈ ws ∧
  (Cond.codeWith y bytes maxL ret hh).before args s = true ∧ (Cond.initialized y.cls).before args s = true ∧ (y.cls ≠ "java/lang/invoke/MethodHandle" ∧ y.cls ≠ "java/lang/invoke/VarHandle") ∧ (∀ sig, parseMethodDescriptor y.desc = some sig → n = sig.parameters.length) ∧ (Cond.methodLink own index y).before args s = true
theorem callBW_of (n : Nat) (ht : ∀ w ∈ gw, w.before args s = true) (hcode : (Cond.codeWith y bytes maxL ret hh).before args s = true) (hrc : rm.cells = mc) (hrs : rm.slots = ms) (hini : (Cond.initialized y.cls).before args s = true) (hl : (Cond.methodLink own index y).before args s = true)
    (hd : y.cls ≠ "java/lang/invoke/MethodHandle" ∧ y.cls ≠ "java/lang/invoke/VarHandle" ∧ (parseMethodDescriptor y.desc).map (fun d => d.parameters.length) = some n) (hR : rm.frames + 1 ≤ R.frames ∧ 8 + (maxL + 11) + rm.locals ≤ R.locals) :
    CallBW R s args own index y bytes maxL ret hh (wdW y bytes maxL ret hh) rm mc ms n := by
  refine ⟨hrc, hrs, hR.1, hR.2, fun w hw a' U hW => ?_, List.mem_cons_self, hcode, hini, ⟨hd.1, hd.2.1⟩, fun sig h => ?_, hl⟩
  · rcases List.mem_cons.mp hw with rfl | h
    · exact word_at hW (Or.inl (by first | rfl | simp [Cond.onTables, Cond.keeps, Cond.steady])) hcode
    · exact word_at hW (good_of_word (List.mem_filter.mp h).2) (ht w h)
  · have h2 := hd.2.2
    rw [h] at h2
    exact (Option.some.inj h2).symm
/-- a static call of a method that has an exception table -/
theorem lw_runS (F : CallFix p m c cc nL s args Ts own) (hM : Met l y ws rm Pc Qc mc ms free) (cw : CallBW R s args own index y bytes maxL ret hh ws rm mc ms n ∧ (Cond.static y).before args s = true) (hp : PreS s H Pc As)
    (hg : g.method = m) (hn : As.length = n) (hsize : g.locals.size = nL) (hstack : g.stack = As.reverse ++ rest) (hW : 2 * g.monitorRoom + (rest.map fun v => v.category).sum ≤ 8) (hdg : decode cc g.pc = .ok (.invokestatic index, 3)) (hf : cells + mc ≤ R.cells ∧ slots + ms ≤ R.slots) :
    va_Run p l e R s m args below meth c H locs cells slots mc ms g rest (Qc As.toArray) (free) := by
  obtain ⟨⟨hrc, hrs, hfr, hlo, hws, hcwd, hcode, hini, hy, hlen, hl⟩, hstat⟩ := cw
  have hK : Back l R p e below s args y 3 8 (PreOf R mc ms Pc) (PostOf Qc mc ms free) := va_backW (bytes := bytes) (maxL := maxL) (ret := ret) (hh := hh) hM hp.1 hrc hrs hfr hlo hws hcwd (fun a' U hW => word_at hW (Or.inl (by first | rfl | simp [Cond.onTables, Cond.keeps, Cond.steady])) hini)
  obtain ⟨hx, hb, hml, ho, -⟩ := F
  intro T hT X
  obtain ⟨mk, methM, cM, hnamed, hmethM, -, -, -, -, -, -, hsigM⟩ := Cond.codeWith_spec hcode
  have hstatic : methM.isStatic = true := Cond.static_spec hnamed hmethM hstat
  obtain ⟨kP, hkP, -⟩ := className_of_methodNamed hnamed
  have hinitP : kP.init = .initialized := Cond.initialized_spec (findClass_of_methodNamed hnamed) hkP hini
  obtain ⟨vm₁, X₁, hstep₁⟩ := X.invokestatic hx ho hl hnamed hmethM hstatic hkP hinitP hy (g := g) hg (argsL := As) (rest := rest) (hn.trans (hlen _ hsigM)) hstack (by rw [hb]; exact hdg)
  obtain ⟨v, ⟨U', l2, c2, s2⟩, X', ⟨g', mk', t, L, e1, e2, hq, h1, hL, h2, h3⟩, hsteps⟩ := hK m meth c ⟨T.setVm vm₁, locs, cells, slots⟩ { g with stack := rest } (.invokestatic index) mk As.toArray X₁ hg (hsize.trans hml.symm) (by rw [hb]; exact hdg) hW (X₁.named hnamed) ⟨hf.1, hf.2, hp.2 (T.setVm vm₁) hT X₁.warmed⟩
  dsimp only [Pt.U, Pt.locs, Pt.cells, Pt.slots] at X' e1 e2 h1 h2 h3 hsteps
  subst h1; subst h2; subst h3
  exact ⟨v, (T.setVm vm₁).calling g' mk' As.toArray, t, U', L, hT, X', hL, e1, e2, hq, fun target h => hstep₁ _ fun acts => by rw [doInvoke_state]; exact hsteps.trans h⟩
/-- the tables' words 'this class isn't that one', at a method's start -/
theorem nc_at {C T : String} (hK : mp_K D cl tys s) (h : (Cond.not (.castable C T)).before D.2.2 D.2.1 = true) : (Cond.not (.castable C T)).before args s = true := by
  have hv := Cond.holds_not_iff.mp h
  refine Cond.holds_not_iff.mpr ?_
  simp only [Cond.value] at hv ⊢
  rw [hK.2.alike.findClass, hK.2.alike.findClass]
  cases h1 : D.2.1.vm.findClass C with
  | none => rw [h1] at hv; simp at hv
  | some c1 =>
    cases h2 : D.2.1.vm.findClass T with
    | none => rw [h1, h2] at hv; simp at hv
    | some c2 =>
      rw [h1, h2] at hv
      simp only [Option.some.injEq] at hv ⊢
      rw [hK.2.alike.assignable]; exact hv
/-- a callee's throw is caught here -/
theorem xp_catch {st0 : List Value} {cls : String} {P Rr : List (Nat × Nat × Nat × Nat)} {a0 b0 h0 t0 : Nat} (hown : s.vm.findClass own = some m.cls) (hh : c.exceptionTable.toList.map (fun h => (h.startPc, h.endPc, h.handlerPc, h.catchType)) = P ++ (a0, b0, h0, t0) :: Rr)
    (hpass : ∀ y ∈ P, y.2.2.2 ≠ 0 ∧ ∃ name, (Cond.classLink own y.2.2.2 name).before args s = true ∧ (Cond.not (.castable cls name)).before args s = true) (h1 : a0 ≤ pc) (h2 : pc < b0) (ht0 : t0 ≠ 0) (hlink : (Cond.classLink own t0 cls).before args s = true) (hI : mp_I D cl A H0 S H locs)
    (hr : ∀ T : State, T.heap = H → Stand p l e R s m args below meth c T locs cells slots → ∃ (q : Addr) (V : State) (ce : Cell), Stand p l e R s m args below meth c V locs (cells + mc) (slots + ms) ∧ mp_H D cl S V.heap ∧ V.heap[q]? = some ce ∧ ce.vm = .none ∧ s.vm.findClass cls = some ce.cls ∧ (∀ (z : Nat) (c9 : Cell), H[z]? = some c9 → V.heap[z]? = some c9) ∧ H.size ≤ V.heap.size ∧
      ∀ target, Steps p.tables e below ((V.setTop (F0 m pc ls rest)).pushFrame (.throwing q)) target → Steps p.tables e below (T.setTop (F0 m pc ls st0)) target)
    (kk : ∀ (q : Nat) (H1 : Heap), mp_I D cl A H0 S H1 locs → W p l e R s m args below meth c H1 locs (cells + mc) (slots + ms) Q (F0 m h0 ls [.ref q])) : W p l e R s m args below meth c H locs cells slots Q (F0 m pc ls st0) := by
  intro T hT X
  obtain ⟨q, V, ce, X', hH, hce, hcv, hcl, hold, hsz, st⟩ := hr T hT X
  obtain ⟨l1, l2, hl, hl1, hl2⟩ := List.map_eq_append_iff.mp hh
  obtain ⟨x, rst, rfl, hx, -⟩ := List.map_eq_cons_iff.mp hl2
  simp only [Prod.mk.injEq] at hx
  obtain ⟨hx1, hx2, hx3, hx4⟩ := hx
  have hcat := X'.catches_of_link hown (x := x) (by rw [hx4]; exact ht0) (by rw [hx4]; exact hlink) hcl (Vm.assignable_self _ ce.cls)
  have hpl : e.platform.magicAccessors = ({} : Platform).magicAccessors := by rw [X'.admits.platform]
  obtain ⟨vm', XV, hst⟩ := X'.caughtThrough q (g := F0 m pc ls rest) rfl hce (by rw [hcv]; rfl) hcat.2 l1 x rst hl (fun z hz => by
    obtain ⟨k1, name, k2, k3⟩ := hpass _ (by rw [← hl1]; exact List.mem_map_of_mem hz)
    exact RowPassed.of_words hpl hown k1 k2 hcl k3) (by simp only [covers, hx1, hx2]; exact Bool.and_eq_true_iff.mpr ⟨decide_eq_true h1, decide_eq_true h2⟩) hcat.1
  have hI' : mp_I D cl A H0 S V.heap locs := by
    refine ⟨hH, hI.2.1, ⟨Nat.le_trans hI.2.2.1.1 hsz, fun z g1 g2 => ?_, hI.2.2.1.2.2⟩, hI.2.2.2⟩
    have e1 := hI.2.2.1.2.1 z g1 g2
    rw [Array.getElem?_eq_getElem g1] at e1 ⊢
    exact hold z _ e1
  obtain ⟨t, b1, b2⟩ := kk q V.heap hI' (V.setVm vm') rfl XV
  refine ⟨t, st _ ?_, b2⟩
  rw [X'.pushThrowing_eq (F0 m pc ls rest) q]
  refine hst _ ?_
  rw [hx3]
  exact b1
/-- the script, which lies in the law's own start -/
theorem mp_sld (hexec : p.tables.exec = Jvm.exec) (hb : c.code = cc) {b L : Nat} {xs : Nat → Int32} (hX : va_X b L xs D.2.1 D.2.1.heap) (hK : mp_K D cl tys s) (hI : mp_I D cl A H0 S H locs) {i : Int32} (hin : vp_in i L) (hdg : decode cc pc = .ok (.iaload, 1))
    (kk : W p l e R s m args below meth c H locs cells slots Q (F0 m (pc + 1) ls (.int (xs i.toNatClampNeg) :: rest))) : W p l e R s m args below meth c H locs cells slots Q (F0 m pc ls (.int i :: .ref b :: rest)) := by
  obtain ⟨scr, h1, h2, h3, h4, h5⟩ := hX
  have hlt : i.toNatClampNeg < L := Nat.not_le.mp fun q => hin (Or.inr q)
  exact W.iald (v := .int (xs i.toNatClampNeg)) hexec hb (hI.1.2 b scr h1).2 (State.isArrayOf_alike hK.2.alike h2) h3 (by rw [h4]; exact hin) (h5 _ hlt) rfl rfl hdg kk
theorem mp_slen (hexec : p.tables.exec = Jvm.exec) (hb : c.code = cc) {b L : Nat} {xs : Nat → Int32} (hX : va_X b L xs D.2.1 D.2.1.heap) (hK : mp_K D cl tys s) (hI : mp_I D cl A H0 S H locs) (hdg : decode cc pc = .ok (.arraylength, 1))
    (kk : W p l e R s m args below meth c H locs cells slots Q (F0 m (pc + 1) ls (.int (nI L) :: rest))) : W p l e R s m args below meth c H locs cells slots Q (F0 m pc ls (.ref b :: rest)) := by
  obtain ⟨scr, h1, h2, h3, h4, h5⟩ := hX
  exact W.alen (n := Int32.ofNat L) hexec hb (hI.1.2 b scr h1).2 (State.isArrayOf_alike hK.2.alike h2) (by rw [h4] <;> rfl) rfl rfl hdg kk
end LW
theorem lw_table {p : Program} {l : Launch} {x : MethodName} {S : Spec} {code : ByteArray} {maxLocals : Nat} {ret : Option FieldType} {e : Env} {s : State} {m : MethodId} {args : Array Value} {below : List Frame} {meth : Method} {c : Code} {s₁ : State} {hh : List (Nat × Nat × Nat × Nat)} (B : BodyLoose p l x S code maxLocals ret e s m args below meth c s₁) (h : (Cond.codeWith x code maxLocals ret hh).before args s = true) : c.exceptionTable.toList.map (fun h => (h.startPc, h.endPc, h.handlerPc, h.catchType)) = hh := by
  obtain ⟨m', meth', c', hn', hm', hc', -, -, he', -⟩ := Cond.codeWith_spec h
  cases B.named.symm.trans hn'
  cases B.method.symm.trans hm'
  cases (Stand.of_body B).code.symm.trans hc'
  exact he'
abbrev hh_L_poly : List (Nat × Nat × Nat × Nat) := [(0, 8, 11, 13)]
abbrev w_L_poly : List Cond := wdW y_L_poly b_L_poly 3 ((Option.some Jvm.ClassFile.FieldType.int)) hh_L_poly
abbrev hh_L_term : List (Nat × Nat × Nat × Nat) := [(0, 22, 25, 19), (0, 22, 29, 21), (0, 22, 33, 23)]
abbrev w_L_term : List Cond := wdW y_L_term b_L_term 9 ((Option.some Jvm.ClassFile.FieldType.int)) hh_L_term
abbrev hh_L_take : List (Nat × Nat × Nat × Nat) := [(0, 16, 19, 19)]
abbrev w_L_take : List Cond := wdW y_L_take b_L_take 4 ((Option.some Jvm.ClassFile.FieldType.int)) hh_L_take
abbrev hh_L_total : List (Nat × Nat × Nat × Nat) := [(0, 8, 11, 13)]
abbrev w_L_total : List Cond := wdW y_L_total b_L_total 3 ((Option.some Jvm.ClassFile.FieldType.int)) hh_L_total
abbrev hh_L_left : List (Nat × Nat × Nat × Nat) := [(0, 9, 12, 13)]
abbrev w_L_left : List Cond := wdW y_L_left b_L_left 4 ((Option.some Jvm.ClassFile.FieldType.int)) hh_L_left
abbrev hh_L_at : List (Nat × Nat × Nat × Nat) := [(0, 10, 13, 13), (0, 10, 17, 19), (0, 10, 21, 21)]
abbrev w_L_at : List Cond := wdW y_L_at b_L_at 5 ((Option.some Jvm.ClassFile.FieldType.int)) hh_L_at
abbrev hh_L_multiplicity : List (Nat × Nat × Nat × Nat) := [(0, 9, 12, 13), (0, 9, 15, 19)]
abbrev w_L_multiplicity : List Cond := wdW y_L_multiplicity b_L_multiplicity 4 ((Option.some Jvm.ClassFile.FieldType.int)) hh_L_multiplicity
abbrev hh_L_minimal : List (Nat × Nat × Nat × Nat) := [(0, 10, 13, 13), (0, 10, 17, 21)]
abbrev w_L_minimal : List Cond := wdW y_L_minimal b_L_minimal 5 ((Option.some Jvm.ClassFile.FieldType.int)) hh_L_minimal
abbrev hh_L_value : List (Nat × Nat × Nat × Nat) := [(0, 10, 13, 13), (0, 10, 17, 19)]
abbrev w_L_value : List Cond := wdW y_L_value b_L_value 5 ((Option.some Jvm.ClassFile.FieldType.int)) hh_L_value
theorem d_L_at_0 : decode b_L_at 0 = .ok (.aload_n 3, 1) := by decide +kernel
theorem d_L_at_1 : decode b_L_at 1 = .ok (.iconst 0, 1) := by decide +kernel
theorem d_L_at_2 : decode b_L_at 2 = .ok (.aload_n 0, 1) := by decide +kernel
theorem d_L_at_3 : decode b_L_at 3 = .ok (.iload_n 1, 1) := by decide +kernel
theorem d_L_at_4 : decode b_L_at 4 = .ok (.iload_n 2, 1) := by decide +kernel
theorem d_L_at_5 : decode b_L_at 5 = .ok (.invokevirtual 36, 3) := by decide +kernel
theorem d_L_at_13 : decode b_L_at 13 = .ok (.astore 4, 2) := by decide +kernel
theorem d_L_at_15 : decode b_L_at 15 = .ok (.iconst 1, 1) := by decide +kernel
theorem d_L_at_16 : decode b_L_at 16 = .ok (.ireturn, 1) := by decide +kernel
theorem d_L_cell_0 : decode b_L_cell 0 = .ok (.iload_n 1, 1) := by decide +kernel
theorem d_L_cell_1 : decode b_L_cell 1 = .ok (.aload_n 0, 1) := by decide +kernel
theorem d_L_cell_2 : decode b_L_cell 2 = .ok (.arraylength, 1) := by decide +kernel
theorem d_L_cell_3 : decode b_L_cell 3 = .ok (.if_icmp .ge 9, 3) := by decide +kernel
theorem d_L_cell_6 : decode b_L_cell 6 = .ok (.aload_n 0, 1) := by decide +kernel
theorem d_L_cell_7 : decode b_L_cell 7 = .ok (.iload_n 1, 1) := by decide +kernel
theorem d_L_cell_8 : decode b_L_cell 8 = .ok (.iaload, 1) := by decide +kernel
theorem d_L_cell_9 : decode b_L_cell 9 = .ok (.goto 4, 3) := by decide +kernel
theorem d_L_cell_12 : decode b_L_cell 12 = .ok (.iconst 0, 1) := by decide +kernel
theorem d_L_cell_13 : decode b_L_cell 13 = .ok (.ireturn, 1) := by decide +kernel
theorem d_L_left_0 : decode b_L_left 0 = .ok (.aload_n 2, 1) := by decide +kernel
theorem d_L_left_1 : decode b_L_left 1 = .ok (.iconst 0, 1) := by decide +kernel
theorem d_L_left_2 : decode b_L_left 2 = .ok (.aload_n 0, 1) := by decide +kernel
theorem d_L_left_3 : decode b_L_left 3 = .ok (.iload_n 1, 1) := by decide +kernel
theorem d_L_left_4 : decode b_L_left 4 = .ok (.invokevirtual 32, 3) := by decide +kernel
theorem d_L_left_12 : decode b_L_left 12 = .ok (.astore_n 3, 1) := by decide +kernel
theorem d_L_left_13 : decode b_L_left 13 = .ok (.iconst 1, 1) := by decide +kernel
theorem d_L_left_14 : decode b_L_left 14 = .ok (.ireturn, 1) := by decide +kernel
theorem d_L_minimal_0 : decode b_L_minimal 0 = .ok (.aload_n 3, 1) := by decide +kernel
theorem d_L_minimal_1 : decode b_L_minimal 1 = .ok (.iconst 0, 1) := by decide +kernel
theorem d_L_minimal_2 : decode b_L_minimal 2 = .ok (.aload_n 0, 1) := by decide +kernel
theorem d_L_minimal_3 : decode b_L_minimal 3 = .ok (.iload_n 1, 1) := by decide +kernel
theorem d_L_minimal_4 : decode b_L_minimal 4 = .ok (.iload_n 2, 1) := by decide +kernel
theorem d_L_minimal_5 : decode b_L_minimal 5 = .ok (.invokevirtual 43, 3) := by decide +kernel
theorem d_L_minimal_13 : decode b_L_minimal 13 = .ok (.astore 4, 2) := by decide +kernel
theorem d_L_minimal_15 : decode b_L_minimal 15 = .ok (.iconst 1, 1) := by decide +kernel
theorem d_L_minimal_16 : decode b_L_minimal 16 = .ok (.ireturn, 1) := by decide +kernel
theorem d_L_multiplicity_0 : decode b_L_multiplicity 0 = .ok (.aload_n 2, 1) := by decide +kernel
theorem d_L_multiplicity_1 : decode b_L_multiplicity 1 = .ok (.iconst 0, 1) := by decide +kernel
theorem d_L_multiplicity_2 : decode b_L_multiplicity 2 = .ok (.aload_n 0, 1) := by decide +kernel
theorem d_L_multiplicity_3 : decode b_L_multiplicity 3 = .ok (.iload_n 1, 1) := by decide +kernel
theorem d_L_multiplicity_4 : decode b_L_multiplicity 4 = .ok (.invokevirtual 40, 3) := by decide +kernel
theorem d_L_multiplicity_12 : decode b_L_multiplicity 12 = .ok (.astore_n 3, 1) := by decide +kernel
theorem d_L_multiplicity_13 : decode b_L_multiplicity 13 = .ok (.iconst 1, 1) := by decide +kernel
theorem d_L_multiplicity_14 : decode b_L_multiplicity 14 = .ok (.ireturn, 1) := by decide +kernel
theorem d_L_poly_0 : decode b_L_poly 0 = .ok (.aload_n 1, 1) := by decide +kernel
theorem d_L_poly_1 : decode b_L_poly 1 = .ok (.iconst 0, 1) := by decide +kernel
theorem d_L_poly_2 : decode b_L_poly 2 = .ok (.aload_n 0, 1) := by decide +kernel
theorem d_L_poly_3 : decode b_L_poly 3 = .ok (.invokevirtual 7, 3) := by decide +kernel
theorem d_L_poly_6 : decode b_L_poly 6 = .ok (.i2l, 1) := by decide +kernel
theorem d_L_poly_7 : decode b_L_poly 7 = .ok (.lastore, 1) := by decide +kernel
theorem d_L_poly_8 : decode b_L_poly 8 = .ok (.goto 6, 3) := by decide +kernel
theorem d_L_poly_11 : decode b_L_poly 11 = .ok (.astore_n 2, 1) := by decide +kernel
theorem d_L_poly_12 : decode b_L_poly 12 = .ok (.iconst 1, 1) := by decide +kernel
theorem d_L_poly_13 : decode b_L_poly 13 = .ok (.ireturn, 1) := by decide +kernel
theorem d_L_poly_14 : decode b_L_poly 14 = .ok (.iconst 0, 1) := by decide +kernel
theorem d_L_poly_15 : decode b_L_poly 15 = .ok (.ireturn, 1) := by decide +kernel
theorem d_L_take_0 : decode b_L_take 0 = .ok (.aload_n 2, 1) := by decide +kernel
theorem d_L_take_1 : decode b_L_take 1 = .ok (.iconst 0, 1) := by decide +kernel
theorem d_L_take_2 : decode b_L_take 2 = .ok (.aload_n 0, 1) := by decide +kernel
theorem d_L_take_3 : decode b_L_take 3 = .ok (.iload_n 1, 1) := by decide +kernel
theorem d_L_take_4 : decode b_L_take 4 = .ok (.invokevirtual 25, 3) := by decide +kernel
theorem d_L_take_7 : decode b_L_take 7 = .ok (.ifCond .eq 7, 3) := by decide +kernel
theorem d_L_take_10 : decode b_L_take 10 = .ok (.lconst 1, 1) := by decide +kernel
theorem d_L_take_11 : decode b_L_take 11 = .ok (.goto 4, 3) := by decide +kernel
theorem d_L_take_15 : decode b_L_take 15 = .ok (.lastore, 1) := by decide +kernel
theorem d_L_take_16 : decode b_L_take 16 = .ok (.goto 6, 3) := by decide +kernel
theorem d_L_take_19 : decode b_L_take 19 = .ok (.astore_n 3, 1) := by decide +kernel
theorem d_L_take_20 : decode b_L_take 20 = .ok (.iconst 1, 1) := by decide +kernel
theorem d_L_take_21 : decode b_L_take 21 = .ok (.ireturn, 1) := by decide +kernel
theorem d_L_take_22 : decode b_L_take 22 = .ok (.iconst 0, 1) := by decide +kernel
theorem d_L_take_23 : decode b_L_take 23 = .ok (.ireturn, 1) := by decide +kernel
theorem d_L_term_0 : decode b_L_term 0 = .ok (.aload 7, 2) := by decide +kernel
theorem d_L_term_2 : decode b_L_term 2 = .ok (.iconst 0, 1) := by decide +kernel
theorem d_L_term_3 : decode b_L_term 3 = .ok (.aload_n 0, 1) := by decide +kernel
theorem d_L_term_4 : decode b_L_term 4 = .ok (.iload_n 1, 1) := by decide +kernel
theorem d_L_term_5 : decode b_L_term 5 = .ok (.lload_n 2, 1) := by decide +kernel
theorem d_L_term_6 : decode b_L_term 6 = .ok (.lload 4, 2) := by decide +kernel
theorem d_L_term_8 : decode b_L_term 8 = .ok (.iload 6, 2) := by decide +kernel
theorem d_L_term_10 : decode b_L_term 10 = .ok (.invokevirtual 15, 3) := by decide +kernel
theorem d_L_term_13 : decode b_L_term 13 = .ok (.ifCond .eq 7, 3) := by decide +kernel
theorem d_L_term_16 : decode b_L_term 16 = .ok (.lconst 1, 1) := by decide +kernel
theorem d_L_term_17 : decode b_L_term 17 = .ok (.goto 4, 3) := by decide +kernel
theorem d_L_term_20 : decode b_L_term 20 = .ok (.lconst 0, 1) := by decide +kernel
theorem d_L_term_21 : decode b_L_term 21 = .ok (.lastore, 1) := by decide +kernel
theorem d_L_term_22 : decode b_L_term 22 = .ok (.goto 15, 3) := by decide +kernel
theorem d_L_term_25 : decode b_L_term 25 = .ok (.astore 8, 2) := by decide +kernel
theorem d_L_term_27 : decode b_L_term 27 = .ok (.iconst 1, 1) := by decide +kernel
theorem d_L_term_28 : decode b_L_term 28 = .ok (.ireturn, 1) := by decide +kernel
theorem d_L_term_29 : decode b_L_term 29 = .ok (.astore 8, 2) := by decide +kernel
theorem d_L_term_31 : decode b_L_term 31 = .ok (.iconst 2, 1) := by decide +kernel
theorem d_L_term_32 : decode b_L_term 32 = .ok (.ireturn, 1) := by decide +kernel
theorem d_L_term_33 : decode b_L_term 33 = .ok (.astore 8, 2) := by decide +kernel
theorem d_L_term_35 : decode b_L_term 35 = .ok (.iconst 3, 1) := by decide +kernel
theorem d_L_term_36 : decode b_L_term 36 = .ok (.ireturn, 1) := by decide +kernel
theorem d_L_term_37 : decode b_L_term 37 = .ok (.iconst 0, 1) := by decide +kernel
theorem d_L_term_38 : decode b_L_term 38 = .ok (.ireturn, 1) := by decide +kernel
theorem d_L_total_0 : decode b_L_total 0 = .ok (.aload_n 1, 1) := by decide +kernel
theorem d_L_total_1 : decode b_L_total 1 = .ok (.iconst 0, 1) := by decide +kernel
theorem d_L_total_2 : decode b_L_total 2 = .ok (.aload_n 0, 1) := by decide +kernel
theorem d_L_total_3 : decode b_L_total 3 = .ok (.invokevirtual 29, 3) := by decide +kernel
theorem d_L_total_11 : decode b_L_total 11 = .ok (.astore_n 2, 1) := by decide +kernel
theorem d_L_total_12 : decode b_L_total 12 = .ok (.iconst 1, 1) := by decide +kernel
theorem d_L_total_13 : decode b_L_total 13 = .ok (.ireturn, 1) := by decide +kernel
theorem d_L_value_0 : decode b_L_value 0 = .ok (.aload_n 3, 1) := by decide +kernel
theorem d_L_value_1 : decode b_L_value 1 = .ok (.iconst 0, 1) := by decide +kernel
theorem d_L_value_2 : decode b_L_value 2 = .ok (.aload_n 0, 1) := by decide +kernel
theorem d_L_value_3 : decode b_L_value 3 = .ok (.iload_n 1, 1) := by decide +kernel
theorem d_L_value_4 : decode b_L_value 4 = .ok (.iload_n 2, 1) := by decide +kernel
theorem d_L_value_5 : decode b_L_value 5 = .ok (.invokevirtual 46, 3) := by decide +kernel
theorem d_L_value_13 : decode b_L_value 13 = .ok (.astore 4, 2) := by decide +kernel
theorem d_L_value_15 : decode b_L_value 15 = .ok (.iconst 1, 1) := by decide +kernel
theorem d_L_value_16 : decode b_L_value 16 = .ok (.ireturn, 1) := by decide +kernel
set_option maxHeartbeats 4000000 in
set_option maxRecDepth 100000 in
/-- poly: 40 were given -/
theorem c_L_polyX (l : Launch) (D : mp_G) (g : Nat → ClassId) (S : mp_M) (sz : Nat) (o pa : Nat) (v0 v2 v3 v5 v6 v7 v8 v9 : Value) (gv : Int32) (oa : Nat) (of : Nat → Int64) (h_o : S o = some (0, .inr (0, [v0, .ref pa, v2, v3, .int gv, v5, v6, v7, v8, v9]))) (h_oa : S oa = some (9, .inl ((g 4), 1, .inr (.inl of)))) (hl9 : l.stackTraces = false) (hgv : gv < 0 ∨ nI 40 ≤ gv) : Met l y_L_poly w_L_poly ({ frames := 7, cells := 1, slots := 6, locals := 110 }) (va_Pc [.ref o, .ref oa] (mp_B0 D classes (tys g) S sz)) (va_Qi (fun (r : Int32) (S1 : mp_M) => r = nI 1 ∧ S1 = S) (mp_B1 D classes S sz) (mp_A S sz)) 1 6 (mp_A S sz) := by
  refine va_MetW (hh := hh_L_poly) (cc := b_L_poly) (maxL := 3) (ret := (some .int)) (by decide) rfl ?_
  intro p e s m args below meth c s₁ B hml hv
  obtain ⟨rfl, hsz, hH, hK⟩ := hv
  have hx := B.exec
  have hb := B.bytes
  have hr := B.returns
  have hts := atoms_spec (ws := w_L_poly) B.pre
  have hg : ∀ w ∈ gw, w.before _ s = true := fun w h => hts w (List.mem_cons_of_mem _ h)
  have hown : s.vm.findClass R_L = some m.cls := findClass_of_methodNamed B.named
  have hlocks := B.notSynchronized
  have hhh := lw_table B (hts _ List.mem_cons_self)
  subst hsz
  have hI := mp_I.start hH
  have hl := lv_entry ([.ref o, .ref oa]) (n := 3) (Nat.le_of_ble_eq_true rfl)
  rw [lg_entry_eq]
  generalize (lg_sl ([.ref o, .ref oa]) ++ List.replicate (3 - (lg_sl ([.ref o, .ref oa])).length) Slot.unset).toArray = ls at hl ⊢
  have hl : lv_has ls 3 [(0, .ref o), (1, .ref oa)] := hl
  refine lv_aload_n hx hb d_L_poly_0 rfl (lv_at hl 1 rfl) ?_
  refine lv_iconst (v := nI 0) hx hb d_L_poly_1 (by decide) ?_
  refine lv_aload_n hx hb d_L_poly_2 rfl (lv_at hl 0 rfl) ?_
  refine xp_catch (cls := "java/lang/IllegalStateException") (P := []) (Rr := []) (a0 := 0) (b0 := 8) (h0 := 11) (t0 := 13) hown hhh (fun _ h9 => absurd h9 List.not_mem_nil) (by decide) (by decide) (by decide) (hg _ q_545) hI (xp_runV (As := []) (rest := [.int (nI 0), .ref oa]) ⟨hx, hb, hml, hown, hg⟩ (x_B_poly l hl9 D g S _ o pa v0 v2 v3 v5 v6 v7 v8 v9 gv h_o hgv) ⟨(callB_of 0 hg (wd_goodG q_549) rfl rfl rfl (hg _ q_1) (hg _ q_546) (by decide +kernel) ⟨Nat.le_of_ble_eq_true rfl, Nat.le_of_ble_eq_true rfl⟩), hg _ q_547, hg _ q_548⟩ (mp_preV (C := R_B) (T := F_B) hI hK h_o rfl []) rfl hl.1 (lv_room (Nat.le_of_ble_eq_true rfl)) d_L_poly_3 ⟨Nat.le_of_ble_eq_true rfl, Nat.le_of_ble_eq_true rfl⟩) (fun q9 H9 hI => ?_)
  refine lv_astore_n (lv' := [(2, .ref q9), (0, .ref o), (1, .ref oa)]) hx hb d_L_poly_11 rfl hl (by decide) rfl (fun ls hl => ?_)
  refine lv_iconst (v := nI 1) hx hb d_L_poly_12 (by decide) ?_
  refine mp_iret hx hb hr hlocks hI (by decide) (by decide) ?_ d_L_poly_13
  exact ⟨rfl, rfl⟩
set_option maxHeartbeats 4000000 in
set_option maxRecDepth 100000 in
/-- term: no such polynomial -/
theorem c_L_termI (l : Launch) (D : mp_G) (g : Nat → ClassId) (S : mp_M) (sz : Nat) (o pa n : Nat) (v2 v3 v4 v5 v6 v7 v8 v9 : Value) (x y : Int32) (ab be : Int64) (oa : Nat) (of : Nat → Int64) (h_o : S o = some (0, .inr (0, [.int (nI n), .ref pa, v2, v3, v4, v5, v6, v7, v8, v9]))) (h_oa : S oa = some (9, .inl ((g 4), 1, .inr (.inl of)))) (hl9 : l.stackTraces = false) (hx9 : x < 0 ∨ nI 40 ≤ x) : Met l y_L_term w_L_term ({ frames := 8, cells := 1, slots := 6, locals := 140 }) (va_Pc [.ref o, .int x, .long ab, .long be, .int y, .ref oa] (mp_B0 D classes (tys g) S sz)) (va_Qi (fun (r : Int32) (S1 : mp_M) => r = nI 1 ∧ S1 = S) (mp_B1 D classes S sz) (mp_A S sz)) 1 6 (mp_A S sz) := by
  refine va_MetW (hh := hh_L_term) (cc := b_L_term) (maxL := 9) (ret := (some .int)) (by decide) rfl ?_
  intro p e s m args below meth c s₁ B hml hv
  obtain ⟨rfl, hsz, hH, hK⟩ := hv
  have hx := B.exec
  have hb := B.bytes
  have hr := B.returns
  have hts := atoms_spec (ws := w_L_term) B.pre
  have hg : ∀ w ∈ gw, w.before _ s = true := fun w h => hts w (List.mem_cons_of_mem _ h)
  have hown : s.vm.findClass R_L = some m.cls := findClass_of_methodNamed B.named
  have hlocks := B.notSynchronized
  have hhh := lw_table B (hts _ List.mem_cons_self)
  subst hsz
  have hI := mp_I.start hH
  have hl := lv_entry ([.ref o, .int x, .long ab, .long be, .int y, .ref oa]) (n := 9) (Nat.le_of_ble_eq_true rfl)
  rw [lg_entry_eq]
  generalize (lg_sl ([.ref o, .int x, .long ab, .long be, .int y, .ref oa]) ++ List.replicate (9 - (lg_sl ([.ref o, .int x, .long ab, .long be, .int y, .ref oa])).length) Slot.unset).toArray = ls at hl ⊢
  have hl : lv_has ls 9 [(0, .ref o), (1, .int x), (2, .long ab), (4, .long be), (6, .int y), (7, .ref oa)] := hl
  refine lv_aload hx hb d_L_term_0 (lv_at hl 5 rfl) ?_
  refine lv_iconst (v := nI 0) hx hb d_L_term_2 (by decide) ?_
  refine lv_aload_n hx hb d_L_term_3 rfl (lv_at hl 0 rfl) ?_
  refine lv_iload_n hx hb d_L_term_4 rfl (lv_at hl 1 rfl) ?_
  refine lv_lload_n hx hb d_L_term_5 rfl (lv_at hl 2 rfl) ?_
  refine lv_lload hx hb d_L_term_6 (lv_at hl 3 rfl) ?_
  refine lv_iload hx hb d_L_term_8 (lv_at hl 4 rfl) ?_
  refine xp_catch (cls := "java/lang/IndexOutOfBoundsException") (P := []) (Rr := [(0, 22, 29, 21), (0, 22, 33, 23)]) (a0 := 0) (b0 := 22) (h0 := 25) (t0 := 19) hown hhh (fun _ h9 => absurd h9 List.not_mem_nil) (by decide) (by decide) (by decide) (hg _ q_622) hI (xp_runV (As := [.int x, .long ab, .long be, .int y]) (rest := [.int (nI 0), .ref oa]) ⟨hx, hb, hml, hown, hg⟩ (x_B_termI l hl9 D g S _ o pa n v2 v3 v4 v5 v6 v7 v8 v9 x y ab be h_o hx9) ⟨(callB_of 4 hg (wd_goodG q_628) rfl rfl rfl (hg _ q_1) (hg _ q_625) (by decide +kernel) ⟨Nat.le_of_ble_eq_true rfl, Nat.le_of_ble_eq_true rfl⟩), hg _ q_626, hg _ q_627⟩ (mp_preV (C := R_B) (T := F_B) hI hK h_o rfl [.int x, .long ab, .long be, .int y]) rfl hl.1 (lv_room (Nat.le_of_ble_eq_true rfl)) d_L_term_10 ⟨Nat.le_of_ble_eq_true rfl, Nat.le_of_ble_eq_true rfl⟩) (fun q9 H9 hI => ?_)
  refine lv_astore (lv' := [(8, .ref q9), (0, .ref o), (1, .int x), (2, .long ab), (4, .long be), (6, .int y), (7, .ref oa)]) hx hb d_L_term_25 hl (by decide) rfl (fun ls hl => ?_)
  refine lv_iconst (v := nI 1) hx hb d_L_term_27 (by decide) ?_
  refine mp_iret hx hb hr hlocks hI (by decide) (by decide) ?_ d_L_term_28
  exact ⟨rfl, rfl⟩
set_option maxHeartbeats 4000000 in
set_option maxRecDepth 100000 in
/-- term: a power below 0 -/
theorem c_L_termN (l : Launch) (D : mp_G) (g : Nat → ClassId) (S : mp_M) (sz : Nat) (o pa n : Nat) (eo : Nat → Nat) (v2 v3 v4 v5 v6 v7 v8 v9 : Value) (k : Nat) (y : Int32) (ab be : Int64) (oa : Nat) (of : Nat → Int64) (h_o : S o = some (0, .inr (0, [.int (nI n), .ref pa, v2, v3, v4, v5, v6, v7, v8, v9]))) (h_pa : S pa = some (1, .inl ((g 2), 40, .inr (.inr (.inr (.inr (rfs eo 40))))))) (h_oa : S oa = some (9, .inl ((g 4), 1, .inr (.inl of)))) (hl9 : l.stackTraces = false) (hk : k < 40) (hy : y < 0) : Met l y_L_term w_L_term ({ frames := 8, cells := 1, slots := 6, locals := 140 }) (va_Pc [.ref o, .int (nI k), .long ab, .long be, .int y, .ref oa] (mp_B0 D classes (tys g) S sz)) (va_Qi (fun (r : Int32) (S1 : mp_M) => r = nI 2 ∧ S1 = S) (mp_B1 D classes S sz) (mp_A S sz)) 1 6 (mp_A S sz) := by
  refine va_MetW (hh := hh_L_term) (cc := b_L_term) (maxL := 9) (ret := (some .int)) (by decide) rfl ?_
  intro p e s m args below meth c s₁ B hml hv
  obtain ⟨rfl, hsz, hH, hK⟩ := hv
  have hx := B.exec
  have hb := B.bytes
  have hr := B.returns
  have hts := atoms_spec (ws := w_L_term) B.pre
  have hg : ∀ w ∈ gw, w.before _ s = true := fun w h => hts w (List.mem_cons_of_mem _ h)
  have hown : s.vm.findClass R_L = some m.cls := findClass_of_methodNamed B.named
  have hlocks := B.notSynchronized
  have hhh := lw_table B (hts _ List.mem_cons_self)
  subst hsz
  have hI := mp_I.start hH
  have hl := lv_entry ([.ref o, .int (nI k), .long ab, .long be, .int y, .ref oa]) (n := 9) (Nat.le_of_ble_eq_true rfl)
  rw [lg_entry_eq]
  generalize (lg_sl ([.ref o, .int (nI k), .long ab, .long be, .int y, .ref oa]) ++ List.replicate (9 - (lg_sl ([.ref o, .int (nI k), .long ab, .long be, .int y, .ref oa])).length) Slot.unset).toArray = ls at hl ⊢
  have hl : lv_has ls 9 [(0, .ref o), (1, .int (nI k)), (2, .long ab), (4, .long be), (6, .int y), (7, .ref oa)] := hl
  refine lv_aload hx hb d_L_term_0 (lv_at hl 5 rfl) ?_
  refine lv_iconst (v := nI 0) hx hb d_L_term_2 (by decide) ?_
  refine lv_aload_n hx hb d_L_term_3 rfl (lv_at hl 0 rfl) ?_
  refine lv_iload_n hx hb d_L_term_4 rfl (lv_at hl 1 rfl) ?_
  refine lv_lload_n hx hb d_L_term_5 rfl (lv_at hl 2 rfl) ?_
  refine lv_lload hx hb d_L_term_6 (lv_at hl 3 rfl) ?_
  refine lv_iload hx hb d_L_term_8 (lv_at hl 4 rfl) ?_
  refine xp_catch (cls := "java/lang/IllegalArgumentException") (P := [(0, 22, 25, 19)]) (Rr := [(0, 22, 33, 23)]) (a0 := 0) (b0 := 22) (h0 := 29) (t0 := 21) hown hhh (List.forall_mem_cons.mpr ⟨⟨by decide, "java/lang/IndexOutOfBoundsException", hg _ q_622, nc_at hK (flat_of_before _ hK.1.2.2 _ (by decide +kernel))⟩, (fun _ h9 => absurd h9 List.not_mem_nil)⟩) (by decide) (by decide) (by decide) (hg _ q_623) hI (xp_runV (As := [.int (nI k), .long ab, .long be, .int y]) (rest := [.int (nI 0), .ref oa]) ⟨hx, hb, hml, hown, hg⟩ (x_B_termN l hl9 D g S _ o pa n eo v2 v3 v4 v5 v6 v7 v8 v9 k y ab be h_o h_pa hk hy) ⟨(callB_of 4 hg (wd_goodG q_628) rfl rfl rfl (hg _ q_1) (hg _ q_625) (by decide +kernel) ⟨Nat.le_of_ble_eq_true rfl, Nat.le_of_ble_eq_true rfl⟩), hg _ q_626, hg _ q_627⟩ (mp_preV (C := R_B) (T := F_B) hI hK h_o rfl [.int (nI k), .long ab, .long be, .int y]) rfl hl.1 (lv_room (Nat.le_of_ble_eq_true rfl)) d_L_term_10 ⟨Nat.le_of_ble_eq_true rfl, Nat.le_of_ble_eq_true rfl⟩) (fun q9 H9 hI => ?_)
  refine lv_astore (lv' := [(8, .ref q9), (0, .ref o), (1, .int (nI k)), (2, .long ab), (4, .long be), (6, .int y), (7, .ref oa)]) hx hb d_L_term_29 hl (by decide) rfl (fun ls hl => ?_)
  refine lv_iconst (v := nI 2) hx hb d_L_term_31 (by decide) ?_
  refine mp_iret hx hb hr hlocks hI (by decide) (by decide) ?_ d_L_term_32
  exact ⟨rfl, rfl⟩
set_option maxHeartbeats 4000000 in
set_option maxRecDepth 100000 in
/-- term: no such power -/
theorem c_L_termA (l : Launch) (D : mp_G) (g : Nat → ClassId) (S : mp_M) (sz : Nat) (o pa n : Nat) (eo : Nat → Nat) (v2 v3 v4 v5 v6 v7 v8 v9 : Value) (k : Nat) (v : Nat) (ab be : Int64) (oa : Nat) (of : Nat → Int64) (h_o : S o = some (0, .inr (0, [.int (nI n), .ref pa, v2, v3, v4, v5, v6, v7, v8, v9]))) (h_pa : S pa = some (1, .inl ((g 2), 40, .inr (.inr (.inr (.inr (rfs eo 40))))))) (h_oa : S oa = some (9, .inl ((g 4), 1, .inr (.inl of)))) (hl9 : l.stackTraces = false) (hk : k < 40) (hv : v < 2 ^ 31) (hn : n < 4) (hn0 : 0 < n) (hp : ¬ pwOk n v) : Met l y_L_term w_L_term ({ frames := 8, cells := 1, slots := 6, locals := 140 }) (va_Pc [.ref o, .int (nI k), .long ab, .long be, .int (nI v), .ref oa] (mp_B0 D classes (tys g) S sz)) (va_Qi (fun (r : Int32) (S1 : mp_M) => r = nI 2 ∧ S1 = S) (mp_B1 D classes S sz) (mp_A S sz)) 1 6 (mp_A S sz) := by
  refine va_MetW (hh := hh_L_term) (cc := b_L_term) (maxL := 9) (ret := (some .int)) (by decide) rfl ?_
  intro p e s m args below meth c s₁ B hml hv
  obtain ⟨rfl, hsz, hH, hK⟩ := hv
  have hx := B.exec
  have hb := B.bytes
  have hr := B.returns
  have hts := atoms_spec (ws := w_L_term) B.pre
  have hg : ∀ w ∈ gw, w.before _ s = true := fun w h => hts w (List.mem_cons_of_mem _ h)
  have hown : s.vm.findClass R_L = some m.cls := findClass_of_methodNamed B.named
  have hlocks := B.notSynchronized
  have hhh := lw_table B (hts _ List.mem_cons_self)
  subst hsz
  have hI := mp_I.start hH
  have hl := lv_entry ([.ref o, .int (nI k), .long ab, .long be, .int (nI v), .ref oa]) (n := 9) (Nat.le_of_ble_eq_true rfl)
  rw [lg_entry_eq]
  generalize (lg_sl ([.ref o, .int (nI k), .long ab, .long be, .int (nI v), .ref oa]) ++ List.replicate (9 - (lg_sl ([.ref o, .int (nI k), .long ab, .long be, .int (nI v), .ref oa])).length) Slot.unset).toArray = ls at hl ⊢
  have hl : lv_has ls 9 [(0, .ref o), (1, .int (nI k)), (2, .long ab), (4, .long be), (6, .int (nI v)), (7, .ref oa)] := hl
  refine lv_aload hx hb d_L_term_0 (lv_at hl 5 rfl) ?_
  refine lv_iconst (v := nI 0) hx hb d_L_term_2 (by decide) ?_
  refine lv_aload_n hx hb d_L_term_3 rfl (lv_at hl 0 rfl) ?_
  refine lv_iload_n hx hb d_L_term_4 rfl (lv_at hl 1 rfl) ?_
  refine lv_lload_n hx hb d_L_term_5 rfl (lv_at hl 2 rfl) ?_
  refine lv_lload hx hb d_L_term_6 (lv_at hl 3 rfl) ?_
  refine lv_iload hx hb d_L_term_8 (lv_at hl 4 rfl) ?_
  refine xp_catch (cls := "java/lang/IllegalArgumentException") (P := [(0, 22, 25, 19)]) (Rr := [(0, 22, 33, 23)]) (a0 := 0) (b0 := 22) (h0 := 29) (t0 := 21) hown hhh (List.forall_mem_cons.mpr ⟨⟨by decide, "java/lang/IndexOutOfBoundsException", hg _ q_622, nc_at hK (flat_of_before _ hK.1.2.2 _ (by decide +kernel))⟩, (fun _ h9 => absurd h9 List.not_mem_nil)⟩) (by decide) (by decide) (by decide) (hg _ q_623) hI (xp_runV (As := [.int (nI k), .long ab, .long be, .int (nI v)]) (rest := [.int (nI 0), .ref oa]) ⟨hx, hb, hml, hown, hg⟩ (x_B_termA l hl9 D g S _ o pa n eo v2 v3 v4 v5 v6 v7 v8 v9 k v ab be h_o h_pa hk hv hn hn0 hp) ⟨(callB_of 4 hg (wd_goodG q_628) rfl rfl rfl (hg _ q_1) (hg _ q_625) (by decide +kernel) ⟨Nat.le_of_ble_eq_true rfl, Nat.le_of_ble_eq_true rfl⟩), hg _ q_626, hg _ q_627⟩ (mp_preV (C := R_B) (T := F_B) hI hK h_o rfl [.int (nI k), .long ab, .long be, .int (nI v)]) rfl hl.1 (lv_room (Nat.le_of_ble_eq_true rfl)) d_L_term_10 ⟨Nat.le_of_ble_eq_true rfl, Nat.le_of_ble_eq_true rfl⟩) (fun q9 H9 hI => ?_)
  refine lv_astore (lv' := [(8, .ref q9), (0, .ref o), (1, .int (nI k)), (2, .long ab), (4, .long be), (6, .int (nI v)), (7, .ref oa)]) hx hb d_L_term_29 hl (by decide) rfl (fun ls hl => ?_)
  refine lv_iconst (v := nI 2) hx hb d_L_term_31 (by decide) ?_
  refine mp_iret hx hb hr hlocks hI (by decide) (by decide) ?_ d_L_term_32
  exact ⟨rfl, rfl⟩
set_option maxHeartbeats 4000000 in
set_option maxRecDepth 100000 in
/-- term: below is 0 -/
theorem c_L_termM (l : Launch) (D : mp_G) (g : Nat → ClassId) (S : mp_M) (sz : Nat) (o pa n : Nat) (eo : Nat → Nat) (v2 v3 v4 v5 v6 v7 v8 v9 : Value) (k : Nat) (v : Nat) (ab be : Int64) (oa : Nat) (of : Nat → Int64) (h_o : S o = some (0, .inr (0, [.int (nI n), .ref pa, v2, v3, v4, v5, v6, v7, v8, v9]))) (h_pa : S pa = some (1, .inl ((g 2), 40, .inr (.inr (.inr (.inr (rfs eo 40))))))) (h_oa : S oa = some (9, .inl ((g 4), 1, .inr (.inl of)))) (hl9 : l.stackTraces = false) (hk : k < 40) (hv : v < 2 ^ 31) (hn : n < 4) (hn0 : 0 < n) (hp : pwOk n v) (hz : rsN be = 0) : Met l y_L_term w_L_term ({ frames := 8, cells := 1, slots := 6, locals := 140 }) (va_Pc [.ref o, .int (nI k), .long ab, .long be, .int (nI v), .ref oa] (mp_B0 D classes (tys g) S sz)) (va_Qi (fun (r : Int32) (S1 : mp_M) => r = nI 3 ∧ S1 = S) (mp_B1 D classes S sz) (mp_A S sz)) 1 6 (mp_A S sz) := by
  refine va_MetW (hh := hh_L_term) (cc := b_L_term) (maxL := 9) (ret := (some .int)) (by decide) rfl ?_
  intro p e s m args below meth c s₁ B hml hv
  obtain ⟨rfl, hsz, hH, hK⟩ := hv
  have hx := B.exec
  have hb := B.bytes
  have hr := B.returns
  have hts := atoms_spec (ws := w_L_term) B.pre
  have hg : ∀ w ∈ gw, w.before _ s = true := fun w h => hts w (List.mem_cons_of_mem _ h)
  have hown : s.vm.findClass R_L = some m.cls := findClass_of_methodNamed B.named
  have hlocks := B.notSynchronized
  have hhh := lw_table B (hts _ List.mem_cons_self)
  subst hsz
  have hI := mp_I.start hH
  have hl := lv_entry ([.ref o, .int (nI k), .long ab, .long be, .int (nI v), .ref oa]) (n := 9) (Nat.le_of_ble_eq_true rfl)
  rw [lg_entry_eq]
  generalize (lg_sl ([.ref o, .int (nI k), .long ab, .long be, .int (nI v), .ref oa]) ++ List.replicate (9 - (lg_sl ([.ref o, .int (nI k), .long ab, .long be, .int (nI v), .ref oa])).length) Slot.unset).toArray = ls at hl ⊢
  have hl : lv_has ls 9 [(0, .ref o), (1, .int (nI k)), (2, .long ab), (4, .long be), (6, .int (nI v)), (7, .ref oa)] := hl
  refine lv_aload hx hb d_L_term_0 (lv_at hl 5 rfl) ?_
  refine lv_iconst (v := nI 0) hx hb d_L_term_2 (by decide) ?_
  refine lv_aload_n hx hb d_L_term_3 rfl (lv_at hl 0 rfl) ?_
  refine lv_iload_n hx hb d_L_term_4 rfl (lv_at hl 1 rfl) ?_
  refine lv_lload_n hx hb d_L_term_5 rfl (lv_at hl 2 rfl) ?_
  refine lv_lload hx hb d_L_term_6 (lv_at hl 3 rfl) ?_
  refine lv_iload hx hb d_L_term_8 (lv_at hl 4 rfl) ?_
  refine xp_catch (cls := "java/lang/ArithmeticException") (P := [(0, 22, 25, 19), (0, 22, 29, 21)]) (Rr := []) (a0 := 0) (b0 := 22) (h0 := 33) (t0 := 23) hown hhh (List.forall_mem_cons.mpr ⟨⟨by decide, "java/lang/IndexOutOfBoundsException", hg _ q_622, nc_at hK (flat_of_before _ hK.1.2.2 _ (by decide +kernel))⟩, (List.forall_mem_cons.mpr ⟨⟨by decide, "java/lang/IllegalArgumentException", hg _ q_623, nc_at hK (flat_of_before _ hK.1.2.2 _ (by decide +kernel))⟩, (fun _ h9 => absurd h9 List.not_mem_nil)⟩)⟩) (by decide) (by decide) (by decide) (hg _ q_624) hI (xp_runV (As := [.int (nI k), .long ab, .long be, .int (nI v)]) (rest := [.int (nI 0), .ref oa]) ⟨hx, hb, hml, hown, hg⟩ (x_B_termM l hl9 D g S _ o pa n eo v2 v3 v4 v5 v6 v7 v8 v9 k v ab be h_o h_pa hk hv hn hn0 hp hz) ⟨(callB_of 4 hg (wd_goodG q_628) rfl rfl rfl (hg _ q_1) (hg _ q_625) (by decide +kernel) ⟨Nat.le_of_ble_eq_true rfl, Nat.le_of_ble_eq_true rfl⟩), hg _ q_626, hg _ q_627⟩ (mp_preV (C := R_B) (T := F_B) hI hK h_o rfl [.int (nI k), .long ab, .long be, .int (nI v)]) rfl hl.1 (lv_room (Nat.le_of_ble_eq_true rfl)) d_L_term_10 ⟨Nat.le_of_ble_eq_true rfl, Nat.le_of_ble_eq_true rfl⟩) (fun q9 H9 hI => ?_)
  refine lv_astore (lv' := [(8, .ref q9), (0, .ref o), (1, .int (nI k)), (2, .long ab), (4, .long be), (6, .int (nI v)), (7, .ref oa)]) hx hb d_L_term_33 hl (by decide) rfl (fun ls hl => ?_)
  refine lv_iconst (v := nI 3) hx hb d_L_term_35 (by decide) ?_
  refine mp_iret hx hb hr hlocks hI (by decide) (by decide) ?_ d_L_term_36
  exact ⟨rfl, rfl⟩
set_option maxHeartbeats 4000000 in
set_option maxRecDepth 100000 in
/-- take: no such polynomial -/
theorem c_L_takeX (l : Launch) (D : mp_G) (g : Nat → ClassId) (S : mp_M) (sz : Nat) (o pa n : Nat) (v2 v3 v4 v5 v6 v7 v8 v9 : Value) (x : Int32) (oa : Nat) (of : Nat → Int64) (h_o : S o = some (0, .inr (0, [.int (nI n), .ref pa, v2, v3, v4, v5, v6, v7, v8, v9]))) (h_oa : S oa = some (9, .inl ((g 4), 1, .inr (.inl of)))) (hl9 : l.stackTraces = false) (hx9 : x < 0 ∨ nI 40 ≤ x) : Met l y_L_take w_L_take ({ frames := 8, cells := 1, slots := 6, locals := 133 }) (va_Pc [.ref o, .int x, .ref oa] (mp_B0 D classes (tys g) S sz)) (va_Qi (fun (r : Int32) (S1 : mp_M) => r = nI 1 ∧ S1 = S) (mp_B1 D classes S sz) (mp_A S sz)) 1 6 (mp_A S sz) := by
  refine va_MetW (hh := hh_L_take) (cc := b_L_take) (maxL := 4) (ret := (some .int)) (by decide) rfl ?_
  intro p e s m args below meth c s₁ B hml hv
  obtain ⟨rfl, hsz, hH, hK⟩ := hv
  have hx := B.exec
  have hb := B.bytes
  have hr := B.returns
  have hts := atoms_spec (ws := w_L_take) B.pre
  have hg : ∀ w ∈ gw, w.before _ s = true := fun w h => hts w (List.mem_cons_of_mem _ h)
  have hown : s.vm.findClass R_L = some m.cls := findClass_of_methodNamed B.named
  have hlocks := B.notSynchronized
  have hhh := lw_table B (hts _ List.mem_cons_self)
  subst hsz
  have hI := mp_I.start hH
  have hl := lv_entry ([.ref o, .int x, .ref oa]) (n := 4) (Nat.le_of_ble_eq_true rfl)
  rw [lg_entry_eq]
  generalize (lg_sl ([.ref o, .int x, .ref oa]) ++ List.replicate (4 - (lg_sl ([.ref o, .int x, .ref oa])).length) Slot.unset).toArray = ls at hl ⊢
  have hl : lv_has ls 4 [(0, .ref o), (1, .int x), (2, .ref oa)] := hl
  refine lv_aload_n hx hb d_L_take_0 rfl (lv_at hl 2 rfl) ?_
  refine lv_iconst (v := nI 0) hx hb d_L_take_1 (by decide) ?_
  refine lv_aload_n hx hb d_L_take_2 rfl (lv_at hl 0 rfl) ?_
  refine lv_iload_n hx hb d_L_take_3 rfl (lv_at hl 1 rfl) ?_
  refine xp_catch (cls := "java/lang/IndexOutOfBoundsException") (P := []) (Rr := []) (a0 := 0) (b0 := 16) (h0 := 19) (t0 := 19) hown hhh (fun _ h9 => absurd h9 List.not_mem_nil) (by decide) (by decide) (by decide) (hg _ q_622) hI (xp_runV (As := [.int x]) (rest := [.int (nI 0), .ref oa]) ⟨hx, hb, hml, hown, hg⟩ (x_B_take l hl9 D g S _ o pa n v2 v3 v4 v5 v6 v7 v8 v9 x h_o hx9) ⟨(callB_of 1 hg (wd_goodG q_722) rfl rfl rfl (hg _ q_1) (hg _ q_719) (by decide +kernel) ⟨Nat.le_of_ble_eq_true rfl, Nat.le_of_ble_eq_true rfl⟩), hg _ q_720, hg _ q_721⟩ (mp_preV (C := R_B) (T := F_B) hI hK h_o rfl [.int x]) rfl hl.1 (lv_room (Nat.le_of_ble_eq_true rfl)) d_L_take_4 ⟨Nat.le_of_ble_eq_true rfl, Nat.le_of_ble_eq_true rfl⟩) (fun q9 H9 hI => ?_)
  refine lv_astore_n (lv' := [(3, .ref q9), (0, .ref o), (1, .int x), (2, .ref oa)]) hx hb d_L_take_19 rfl hl (by decide) rfl (fun ls hl => ?_)
  refine lv_iconst (v := nI 1) hx hb d_L_take_20 (by decide) ?_
  refine mp_iret hx hb hr hlocks hI (by decide) (by decide) ?_ d_L_take_21
  exact ⟨rfl, rfl⟩
set_option maxHeartbeats 4000000 in
set_option maxRecDepth 100000 in
/-- nothing is known -/
theorem c_L_totalU (l : Launch) (D : mp_G) (g : Nat → ClassId) (S : mp_M) (sz : Nat) (o pa : Nat) (v0 v2 v3 v4 v5 v6 : Value) (an av : Int32) (sv : Option Nat)  (oa : Nat) (of : Nat → Int64) (h_o : S o = some (0, .inr (0, [v0, .ref pa, v2, v3, v4, v5, v6, .int an, .int av, (va_rf sv)]))) (h_oa : S oa = some (9, .inl ((g 4), 1, .inr (.inl of)))) (hl9 : l.stackTraces = false) (hun : an = 0 ∨ av < 0 ∨ sv = none) : Met l y_L_total w_L_total ({ frames := 8, cells := 1, slots := 6, locals := 130 }) (va_Pc [.ref o, .ref oa] (mp_B0 D classes (tys g) S sz)) (va_Qi (fun (r : Int32) (S1 : mp_M) => r = nI 1 ∧ S1 = S) (mp_B1 D classes S sz) (mp_A S sz)) 1 6 (mp_A S sz) := by
  refine va_MetW (hh := hh_L_total) (cc := b_L_total) (maxL := 3) (ret := (some .int)) (by decide) rfl ?_
  intro p e s m args below meth c s₁ B hml hv
  obtain ⟨rfl, hsz, hH, hK⟩ := hv
  have hx := B.exec
  have hb := B.bytes
  have hr := B.returns
  have hts := atoms_spec (ws := w_L_total) B.pre
  have hg : ∀ w ∈ gw, w.before _ s = true := fun w h => hts w (List.mem_cons_of_mem _ h)
  have hown : s.vm.findClass R_L = some m.cls := findClass_of_methodNamed B.named
  have hlocks := B.notSynchronized
  have hhh := lw_table B (hts _ List.mem_cons_self)
  subst hsz
  have hI := mp_I.start hH
  have hl := lv_entry ([.ref o, .ref oa]) (n := 3) (Nat.le_of_ble_eq_true rfl)
  rw [lg_entry_eq]
  generalize (lg_sl ([.ref o, .ref oa]) ++ List.replicate (3 - (lg_sl ([.ref o, .ref oa])).length) Slot.unset).toArray = ls at hl ⊢
  have hl : lv_has ls 3 [(0, .ref o), (1, .ref oa)] := hl
  refine lv_aload_n hx hb d_L_total_0 rfl (lv_at hl 1 rfl) ?_
  refine lv_iconst (v := nI 0) hx hb d_L_total_1 (by decide) ?_
  refine lv_aload_n hx hb d_L_total_2 rfl (lv_at hl 0 rfl) ?_
  refine xp_catch (cls := "java/lang/IllegalStateException") (P := []) (Rr := []) (a0 := 0) (b0 := 8) (h0 := 11) (t0 := 13) hown hhh (fun _ h9 => absurd h9 List.not_mem_nil) (by decide) (by decide) (by decide) (hg _ q_545) hI (xp_runV (As := []) (rest := [.int (nI 0), .ref oa]) ⟨hx, hb, hml, hown, hg⟩ (x_B_total l hl9 D g S _ o pa v0 v2 v3 v4 v5 v6 an av sv  h_o hun) ⟨(callB_of 0 hg (wd_goodG q_738) rfl rfl rfl (hg _ q_1) (hg _ q_735) (by decide +kernel) ⟨Nat.le_of_ble_eq_true rfl, Nat.le_of_ble_eq_true rfl⟩), hg _ q_736, hg _ q_737⟩ (mp_preV (C := R_B) (T := F_B) hI hK h_o rfl []) rfl hl.1 (lv_room (Nat.le_of_ble_eq_true rfl)) d_L_total_3 ⟨Nat.le_of_ble_eq_true rfl, Nat.le_of_ble_eq_true rfl⟩) (fun q9 H9 hI => ?_)
  refine lv_astore_n (lv' := [(2, .ref q9), (0, .ref o), (1, .ref oa)]) hx hb d_L_total_11 rfl hl (by decide) rfl (fun ls hl => ?_)
  refine lv_iconst (v := nI 1) hx hb d_L_total_12 (by decide) ?_
  refine mp_iret hx hb hr hlocks hI (by decide) (by decide) ?_ d_L_total_13
  exact ⟨rfl, rfl⟩
set_option maxHeartbeats 4000000 in
set_option maxRecDepth 100000 in
/-- nothing is known -/
theorem c_L_leftU (l : Launch) (D : mp_G) (g : Nat → ClassId) (S : mp_M) (sz : Nat) (o pa : Nat) (v0 v2 v3 v4 v5 v6 : Value) (an av : Int32) (sv : Option Nat) (k : Int32) (oa : Nat) (of : Nat → Int64) (h_o : S o = some (0, .inr (0, [v0, .ref pa, v2, v3, v4, v5, v6, .int an, .int av, (va_rf sv)]))) (h_oa : S oa = some (9, .inl ((g 4), 1, .inr (.inl of)))) (hl9 : l.stackTraces = false) (hun : an = 0 ∨ av < 0 ∨ sv = none) : Met l y_L_left w_L_left ({ frames := 8, cells := 1, slots := 6, locals := 132 }) (va_Pc [.ref o, .int k, .ref oa] (mp_B0 D classes (tys g) S sz)) (va_Qi (fun (r : Int32) (S1 : mp_M) => r = nI 1 ∧ S1 = S) (mp_B1 D classes S sz) (mp_A S sz)) 1 6 (mp_A S sz) := by
  refine va_MetW (hh := hh_L_left) (cc := b_L_left) (maxL := 4) (ret := (some .int)) (by decide) rfl ?_
  intro p e s m args below meth c s₁ B hml hv
  obtain ⟨rfl, hsz, hH, hK⟩ := hv
  have hx := B.exec
  have hb := B.bytes
  have hr := B.returns
  have hts := atoms_spec (ws := w_L_left) B.pre
  have hg : ∀ w ∈ gw, w.before _ s = true := fun w h => hts w (List.mem_cons_of_mem _ h)
  have hown : s.vm.findClass R_L = some m.cls := findClass_of_methodNamed B.named
  have hlocks := B.notSynchronized
  have hhh := lw_table B (hts _ List.mem_cons_self)
  subst hsz
  have hI := mp_I.start hH
  have hl := lv_entry ([.ref o, .int k, .ref oa]) (n := 4) (Nat.le_of_ble_eq_true rfl)
  rw [lg_entry_eq]
  generalize (lg_sl ([.ref o, .int k, .ref oa]) ++ List.replicate (4 - (lg_sl ([.ref o, .int k, .ref oa])).length) Slot.unset).toArray = ls at hl ⊢
  have hl : lv_has ls 4 [(0, .ref o), (1, .int k), (2, .ref oa)] := hl
  refine lv_aload_n hx hb d_L_left_0 rfl (lv_at hl 2 rfl) ?_
  refine lv_iconst (v := nI 0) hx hb d_L_left_1 (by decide) ?_
  refine lv_aload_n hx hb d_L_left_2 rfl (lv_at hl 0 rfl) ?_
  refine lv_iload_n hx hb d_L_left_3 rfl (lv_at hl 1 rfl) ?_
  refine xp_catch (cls := "java/lang/IllegalStateException") (P := []) (Rr := []) (a0 := 0) (b0 := 9) (h0 := 12) (t0 := 13) hown hhh (fun _ h9 => absurd h9 List.not_mem_nil) (by decide) (by decide) (by decide) (hg _ q_545) hI (xp_runV (As := [.int k]) (rest := [.int (nI 0), .ref oa]) ⟨hx, hb, hml, hown, hg⟩ (x_B_left l hl9 D g S _ o pa v0 v2 v3 v4 v5 v6 an av sv k h_o hun) ⟨(callB_of 1 hg (wd_goodG q_750) rfl rfl rfl (hg _ q_1) (hg _ q_747) (by decide +kernel) ⟨Nat.le_of_ble_eq_true rfl, Nat.le_of_ble_eq_true rfl⟩), hg _ q_748, hg _ q_749⟩ (mp_preV (C := R_B) (T := F_B) hI hK h_o rfl [.int k]) rfl hl.1 (lv_room (Nat.le_of_ble_eq_true rfl)) d_L_left_4 ⟨Nat.le_of_ble_eq_true rfl, Nat.le_of_ble_eq_true rfl⟩) (fun q9 H9 hI => ?_)
  refine lv_astore_n (lv' := [(3, .ref q9), (0, .ref o), (1, .int k), (2, .ref oa)]) hx hb d_L_left_12 rfl hl (by decide) rfl (fun ls hl => ?_)
  refine lv_iconst (v := nI 1) hx hb d_L_left_13 (by decide) ?_
  refine mp_iret hx hb hr hlocks hI (by decide) (by decide) ?_ d_L_left_14
  exact ⟨rfl, rfl⟩
set_option maxHeartbeats 4000000 in
set_option maxRecDepth 100000 in
/-- nothing is known -/
theorem c_L_atU (l : Launch) (D : mp_G) (g : Nat → ClassId) (S : mp_M) (sz : Nat) (o pa : Nat) (v0 v2 v3 v4 v5 v6 : Value) (an av : Int32) (sv : Option Nat) (z k : Int32) (oa : Nat) (of : Nat → Int64) (h_o : S o = some (0, .inr (0, [v0, .ref pa, v2, v3, v4, v5, v6, .int an, .int av, (va_rf sv)]))) (h_oa : S oa = some (9, .inl ((g 4), 1, .inr (.inl of)))) (hl9 : l.stackTraces = false) (hun : an = 0 ∨ av < 0 ∨ sv = none) : Met l y_L_at w_L_at ({ frames := 8, cells := 1, slots := 6, locals := 133 }) (va_Pc [.ref o, .int z, .int k, .ref oa] (mp_B0 D classes (tys g) S sz)) (va_Qi (fun (r : Int32) (S1 : mp_M) => r = nI 1 ∧ S1 = S) (mp_B1 D classes S sz) (mp_A S sz)) 1 6 (mp_A S sz) := by
  refine va_MetW (hh := hh_L_at) (cc := b_L_at) (maxL := 5) (ret := (some .int)) (by decide) rfl ?_
  intro p e s m args below meth c s₁ B hml hv
  obtain ⟨rfl, hsz, hH, hK⟩ := hv
  have hx := B.exec
  have hb := B.bytes
  have hr := B.returns
  have hts := atoms_spec (ws := w_L_at) B.pre
  have hg : ∀ w ∈ gw, w.before _ s = true := fun w h => hts w (List.mem_cons_of_mem _ h)
  have hown : s.vm.findClass R_L = some m.cls := findClass_of_methodNamed B.named
  have hlocks := B.notSynchronized
  have hhh := lw_table B (hts _ List.mem_cons_self)
  subst hsz
  have hI := mp_I.start hH
  have hl := lv_entry ([.ref o, .int z, .int k, .ref oa]) (n := 5) (Nat.le_of_ble_eq_true rfl)
  rw [lg_entry_eq]
  generalize (lg_sl ([.ref o, .int z, .int k, .ref oa]) ++ List.replicate (5 - (lg_sl ([.ref o, .int z, .int k, .ref oa])).length) Slot.unset).toArray = ls at hl ⊢
  have hl : lv_has ls 5 [(0, .ref o), (1, .int z), (2, .int k), (3, .ref oa)] := hl
  refine lv_aload_n hx hb d_L_at_0 rfl (lv_at hl 3 rfl) ?_
  refine lv_iconst (v := nI 0) hx hb d_L_at_1 (by decide) ?_
  refine lv_aload_n hx hb d_L_at_2 rfl (lv_at hl 0 rfl) ?_
  refine lv_iload_n hx hb d_L_at_3 rfl (lv_at hl 1 rfl) ?_
  refine lv_iload_n hx hb d_L_at_4 rfl (lv_at hl 2 rfl) ?_
  refine xp_catch (cls := "java/lang/IllegalStateException") (P := []) (Rr := [(0, 10, 17, 19), (0, 10, 21, 21)]) (a0 := 0) (b0 := 10) (h0 := 13) (t0 := 13) hown hhh (fun _ h9 => absurd h9 List.not_mem_nil) (by decide) (by decide) (by decide) (hg _ q_545) hI (xp_runV (As := [.int z, .int k]) (rest := [.int (nI 0), .ref oa]) ⟨hx, hb, hml, hown, hg⟩ (x_B_at l hl9 D g S _ o pa v0 v2 v3 v4 v5 v6 an av sv z k h_o hun) ⟨(callB_of 2 hg (wd_goodG q_760) rfl rfl rfl (hg _ q_1) (hg _ q_757) (by decide +kernel) ⟨Nat.le_of_ble_eq_true rfl, Nat.le_of_ble_eq_true rfl⟩), hg _ q_758, hg _ q_759⟩ (mp_preV (C := R_B) (T := F_B) hI hK h_o rfl [.int z, .int k]) rfl hl.1 (lv_room (Nat.le_of_ble_eq_true rfl)) d_L_at_5 ⟨Nat.le_of_ble_eq_true rfl, Nat.le_of_ble_eq_true rfl⟩) (fun q9 H9 hI => ?_)
  refine lv_astore (lv' := [(4, .ref q9), (0, .ref o), (1, .int z), (2, .int k), (3, .ref oa)]) hx hb d_L_at_13 hl (by decide) rfl (fun ls hl => ?_)
  refine lv_iconst (v := nI 1) hx hb d_L_at_15 (by decide) ?_
  refine mp_iret hx hb hr hlocks hI (by decide) (by decide) ?_ d_L_at_16
  exact ⟨rfl, rfl⟩
set_option maxHeartbeats 4000000 in
set_option maxRecDepth 100000 in
/-- nothing is known -/
theorem c_L_multiplicityU (l : Launch) (D : mp_G) (g : Nat → ClassId) (S : mp_M) (sz : Nat) (o pa : Nat) (v0 v2 v3 v4 v5 v6 : Value) (an av : Int32) (sv : Option Nat) (z : Int32) (oa : Nat) (of : Nat → Int64) (h_o : S o = some (0, .inr (0, [v0, .ref pa, v2, v3, v4, v5, v6, .int an, .int av, (va_rf sv)]))) (h_oa : S oa = some (9, .inl ((g 4), 1, .inr (.inl of)))) (hl9 : l.stackTraces = false) (hun : an = 0 ∨ av < 0 ∨ sv = none) : Met l y_L_multiplicity w_L_multiplicity ({ frames := 8, cells := 1, slots := 6, locals := 132 }) (va_Pc [.ref o, .int z, .ref oa] (mp_B0 D classes (tys g) S sz)) (va_Qi (fun (r : Int32) (S1 : mp_M) => r = nI 1 ∧ S1 = S) (mp_B1 D classes S sz) (mp_A S sz)) 1 6 (mp_A S sz) := by
  refine va_MetW (hh := hh_L_multiplicity) (cc := b_L_multiplicity) (maxL := 4) (ret := (some .int)) (by decide) rfl ?_
  intro p e s m args below meth c s₁ B hml hv
  obtain ⟨rfl, hsz, hH, hK⟩ := hv
  have hx := B.exec
  have hb := B.bytes
  have hr := B.returns
  have hts := atoms_spec (ws := w_L_multiplicity) B.pre
  have hg : ∀ w ∈ gw, w.before _ s = true := fun w h => hts w (List.mem_cons_of_mem _ h)
  have hown : s.vm.findClass R_L = some m.cls := findClass_of_methodNamed B.named
  have hlocks := B.notSynchronized
  have hhh := lw_table B (hts _ List.mem_cons_self)
  subst hsz
  have hI := mp_I.start hH
  have hl := lv_entry ([.ref o, .int z, .ref oa]) (n := 4) (Nat.le_of_ble_eq_true rfl)
  rw [lg_entry_eq]
  generalize (lg_sl ([.ref o, .int z, .ref oa]) ++ List.replicate (4 - (lg_sl ([.ref o, .int z, .ref oa])).length) Slot.unset).toArray = ls at hl ⊢
  have hl : lv_has ls 4 [(0, .ref o), (1, .int z), (2, .ref oa)] := hl
  refine lv_aload_n hx hb d_L_multiplicity_0 rfl (lv_at hl 2 rfl) ?_
  refine lv_iconst (v := nI 0) hx hb d_L_multiplicity_1 (by decide) ?_
  refine lv_aload_n hx hb d_L_multiplicity_2 rfl (lv_at hl 0 rfl) ?_
  refine lv_iload_n hx hb d_L_multiplicity_3 rfl (lv_at hl 1 rfl) ?_
  refine xp_catch (cls := "java/lang/IllegalStateException") (P := []) (Rr := [(0, 9, 15, 19)]) (a0 := 0) (b0 := 9) (h0 := 12) (t0 := 13) hown hhh (fun _ h9 => absurd h9 List.not_mem_nil) (by decide) (by decide) (by decide) (hg _ q_545) hI (xp_runV (As := [.int z]) (rest := [.int (nI 0), .ref oa]) ⟨hx, hb, hml, hown, hg⟩ (x_B_multiplicity l hl9 D g S _ o pa v0 v2 v3 v4 v5 v6 an av sv z h_o hun) ⟨(callB_of 1 hg (wd_goodG q_776) rfl rfl rfl (hg _ q_1) (hg _ q_773) (by decide +kernel) ⟨Nat.le_of_ble_eq_true rfl, Nat.le_of_ble_eq_true rfl⟩), hg _ q_774, hg _ q_775⟩ (mp_preV (C := R_B) (T := F_B) hI hK h_o rfl [.int z]) rfl hl.1 (lv_room (Nat.le_of_ble_eq_true rfl)) d_L_multiplicity_4 ⟨Nat.le_of_ble_eq_true rfl, Nat.le_of_ble_eq_true rfl⟩) (fun q9 H9 hI => ?_)
  refine lv_astore_n (lv' := [(3, .ref q9), (0, .ref o), (1, .int z), (2, .ref oa)]) hx hb d_L_multiplicity_12 rfl hl (by decide) rfl (fun ls hl => ?_)
  refine lv_iconst (v := nI 1) hx hb d_L_multiplicity_13 (by decide) ?_
  refine mp_iret hx hb hr hlocks hI (by decide) (by decide) ?_ d_L_multiplicity_14
  exact ⟨rfl, rfl⟩
set_option maxHeartbeats 4000000 in
set_option maxRecDepth 100000 in
/-- nothing is known -/
theorem c_L_minimalU (l : Launch) (D : mp_G) (g : Nat → ClassId) (S : mp_M) (sz : Nat) (o pa : Nat) (v0 v2 v3 v4 v5 v6 : Value) (an av : Int32) (sv : Option Nat) (k z : Int32) (oa : Nat) (of : Nat → Int64) (h_o : S o = some (0, .inr (0, [v0, .ref pa, v2, v3, v4, v5, v6, .int an, .int av, (va_rf sv)]))) (h_oa : S oa = some (9, .inl ((g 4), 1, .inr (.inl of)))) (hl9 : l.stackTraces = false) (hun : an = 0 ∨ av < 0 ∨ sv = none) : Met l y_L_minimal w_L_minimal ({ frames := 8, cells := 1, slots := 6, locals := 133 }) (va_Pc [.ref o, .int k, .int z, .ref oa] (mp_B0 D classes (tys g) S sz)) (va_Qi (fun (r : Int32) (S1 : mp_M) => r = nI 1 ∧ S1 = S) (mp_B1 D classes S sz) (mp_A S sz)) 1 6 (mp_A S sz) := by
  refine va_MetW (hh := hh_L_minimal) (cc := b_L_minimal) (maxL := 5) (ret := (some .int)) (by decide) rfl ?_
  intro p e s m args below meth c s₁ B hml hv
  obtain ⟨rfl, hsz, hH, hK⟩ := hv
  have hx := B.exec
  have hb := B.bytes
  have hr := B.returns
  have hts := atoms_spec (ws := w_L_minimal) B.pre
  have hg : ∀ w ∈ gw, w.before _ s = true := fun w h => hts w (List.mem_cons_of_mem _ h)
  have hown : s.vm.findClass R_L = some m.cls := findClass_of_methodNamed B.named
  have hlocks := B.notSynchronized
  have hhh := lw_table B (hts _ List.mem_cons_self)
  subst hsz
  have hI := mp_I.start hH
  have hl := lv_entry ([.ref o, .int k, .int z, .ref oa]) (n := 5) (Nat.le_of_ble_eq_true rfl)
  rw [lg_entry_eq]
  generalize (lg_sl ([.ref o, .int k, .int z, .ref oa]) ++ List.replicate (5 - (lg_sl ([.ref o, .int k, .int z, .ref oa])).length) Slot.unset).toArray = ls at hl ⊢
  have hl : lv_has ls 5 [(0, .ref o), (1, .int k), (2, .int z), (3, .ref oa)] := hl
  refine lv_aload_n hx hb d_L_minimal_0 rfl (lv_at hl 3 rfl) ?_
  refine lv_iconst (v := nI 0) hx hb d_L_minimal_1 (by decide) ?_
  refine lv_aload_n hx hb d_L_minimal_2 rfl (lv_at hl 0 rfl) ?_
  refine lv_iload_n hx hb d_L_minimal_3 rfl (lv_at hl 1 rfl) ?_
  refine lv_iload_n hx hb d_L_minimal_4 rfl (lv_at hl 2 rfl) ?_
  refine xp_catch (cls := "java/lang/IllegalStateException") (P := []) (Rr := [(0, 10, 17, 21)]) (a0 := 0) (b0 := 10) (h0 := 13) (t0 := 13) hown hhh (fun _ h9 => absurd h9 List.not_mem_nil) (by decide) (by decide) (by decide) (hg _ q_545) hI (xp_runV (As := [.int k, .int z]) (rest := [.int (nI 0), .ref oa]) ⟨hx, hb, hml, hown, hg⟩ (x_B_minimal l hl9 D g S _ o pa v0 v2 v3 v4 v5 v6 an av sv k z h_o hun) ⟨(callB_of 2 hg (wd_goodG q_783) rfl rfl rfl (hg _ q_1) (hg _ q_780) (by decide +kernel) ⟨Nat.le_of_ble_eq_true rfl, Nat.le_of_ble_eq_true rfl⟩), hg _ q_781, hg _ q_782⟩ (mp_preV (C := R_B) (T := F_B) hI hK h_o rfl [.int k, .int z]) rfl hl.1 (lv_room (Nat.le_of_ble_eq_true rfl)) d_L_minimal_5 ⟨Nat.le_of_ble_eq_true rfl, Nat.le_of_ble_eq_true rfl⟩) (fun q9 H9 hI => ?_)
  refine lv_astore (lv' := [(4, .ref q9), (0, .ref o), (1, .int k), (2, .int z), (3, .ref oa)]) hx hb d_L_minimal_13 hl (by decide) rfl (fun ls hl => ?_)
  refine lv_iconst (v := nI 1) hx hb d_L_minimal_15 (by decide) ?_
  refine mp_iret hx hb hr hlocks hI (by decide) (by decide) ?_ d_L_minimal_16
  exact ⟨rfl, rfl⟩
set_option maxHeartbeats 4000000 in
set_option maxRecDepth 100000 in
/-- nothing is known -/
theorem c_L_valueU (l : Launch) (D : mp_G) (g : Nat → ClassId) (S : mp_M) (sz : Nat) (o pa : Nat) (v0 v2 v3 v4 v5 v6 : Value) (an av : Int32) (sv : Option Nat) (k z : Int32) (oa : Nat) (of : Nat → Int64) (h_o : S o = some (0, .inr (0, [v0, .ref pa, v2, v3, v4, v5, v6, .int an, .int av, (va_rf sv)]))) (h_oa : S oa = some (9, .inl ((g 4), 1, .inr (.inl of)))) (hl9 : l.stackTraces = false) (hun : an = 0 ∨ av < 0 ∨ sv = none) : Met l y_L_value w_L_value ({ frames := 8, cells := 1, slots := 6, locals := 136 }) (va_Pc [.ref o, .int k, .int z, .ref oa] (mp_B0 D classes (tys g) S sz)) (va_Qi (fun (r : Int32) (S1 : mp_M) => r = nI 1 ∧ S1 = S) (mp_B1 D classes S sz) (mp_A S sz)) 1 6 (mp_A S sz) := by
  refine va_MetW (hh := hh_L_value) (cc := b_L_value) (maxL := 5) (ret := (some .int)) (by decide) rfl ?_
  intro p e s m args below meth c s₁ B hml hv
  obtain ⟨rfl, hsz, hH, hK⟩ := hv
  have hx := B.exec
  have hb := B.bytes
  have hr := B.returns
  have hts := atoms_spec (ws := w_L_value) B.pre
  have hg : ∀ w ∈ gw, w.before _ s = true := fun w h => hts w (List.mem_cons_of_mem _ h)
  have hown : s.vm.findClass R_L = some m.cls := findClass_of_methodNamed B.named
  have hlocks := B.notSynchronized
  have hhh := lw_table B (hts _ List.mem_cons_self)
  subst hsz
  have hI := mp_I.start hH
  have hl := lv_entry ([.ref o, .int k, .int z, .ref oa]) (n := 5) (Nat.le_of_ble_eq_true rfl)
  rw [lg_entry_eq]
  generalize (lg_sl ([.ref o, .int k, .int z, .ref oa]) ++ List.replicate (5 - (lg_sl ([.ref o, .int k, .int z, .ref oa])).length) Slot.unset).toArray = ls at hl ⊢
  have hl : lv_has ls 5 [(0, .ref o), (1, .int k), (2, .int z), (3, .ref oa)] := hl
  refine lv_aload_n hx hb d_L_value_0 rfl (lv_at hl 3 rfl) ?_
  refine lv_iconst (v := nI 0) hx hb d_L_value_1 (by decide) ?_
  refine lv_aload_n hx hb d_L_value_2 rfl (lv_at hl 0 rfl) ?_
  refine lv_iload_n hx hb d_L_value_3 rfl (lv_at hl 1 rfl) ?_
  refine lv_iload_n hx hb d_L_value_4 rfl (lv_at hl 2 rfl) ?_
  refine xp_catch (cls := "java/lang/IllegalStateException") (P := []) (Rr := [(0, 10, 17, 19)]) (a0 := 0) (b0 := 10) (h0 := 13) (t0 := 13) hown hhh (fun _ h9 => absurd h9 List.not_mem_nil) (by decide) (by decide) (by decide) (hg _ q_545) hI (xp_runV (As := [.int k, .int z]) (rest := [.int (nI 0), .ref oa]) ⟨hx, hb, hml, hown, hg⟩ (x_B_value l hl9 D g S _ o pa v0 v2 v3 v4 v5 v6 an av sv k z h_o hun) ⟨(callB_of 2 hg (wd_goodG q_794) rfl rfl rfl (hg _ q_1) (hg _ q_791) (by decide +kernel) ⟨Nat.le_of_ble_eq_true rfl, Nat.le_of_ble_eq_true rfl⟩), hg _ q_792, hg _ q_793⟩ (mp_preV (C := R_B) (T := F_B) hI hK h_o rfl [.int k, .int z]) rfl hl.1 (lv_room (Nat.le_of_ble_eq_true rfl)) d_L_value_5 ⟨Nat.le_of_ble_eq_true rfl, Nat.le_of_ble_eq_true rfl⟩) (fun q9 H9 hI => ?_)
  refine lv_astore (lv' := [(4, .ref q9), (0, .ref o), (1, .int k), (2, .int z), (3, .ref oa)]) hx hb d_L_value_13 hl (by decide) rfl (fun ls hl => ?_)
  refine lv_iconst (v := nI 1) hx hb d_L_value_15 (by decide) ?_
  refine mp_iret hx hb hr hlocks hI (by decide) (by decide) ?_ d_L_value_16
  exact ⟨rfl, rfl⟩
set_option maxHeartbeats 4000000 in
set_option maxRecDepth 100000 in
/-- poly: a number -/
theorem c_L_poly (l : Launch) (D : mp_G) (g : Nat → ClassId) (S : mp_M) (sz : Nat) (o pa gv : Nat) (v0 v2 v3 v5 v6 v7 v8 v9 : Value) (eo ek en cap pz : Nat → Nat) (kf nf : Nat → Nat → Int32) (oa : Nat) (of : Nat → Int64) (h_o : S o = some (0, .inr (0, [v0, .ref pa, v2, v3, .int (nI gv), v5, v6, v7, v8, v9]))) (h_pa : S pa = some (1, .inl ((g 2), 40, .inr (.inr (.inr (.inr (rfs eo 40))))))) (h_oa : S oa = some (9, .inl ((g 4), 1, .inr (.inl of)))) (hE : yS g 100 40 eo ek en cap pz kf nf S) (hgv : gv < 40) : Met l y_L_poly w_L_poly ({ frames := 2, cells := 0, slots := 0, locals := 40 }) (va_Pc [.ref o, .ref oa] (mp_B0 D classes (tys g) S sz)) (va_Qi (fun (r : Int32) (S1 : mp_M) => r = nI 0 ∧ S1 o = some (0, .inr (0, [v0, .ref pa, v2, v3, .int (nI (gv + 1)), v5, v6, v7, v8, v9])) ∧ yS g 100 40 eo ek en cap (va_up pz gv 0) kf nf S1 ∧ (∀ b, S b ≠ none → b ≠ o → b ≠ eo gv → b ≠ oa → S1 b = S b) ∧ ∃ f1 : Nat → Int64, S1 oa = some (9, .inl ((g 4), 1, .inr (.inl f1))) ∧ f1 0 = lN gv) (mp_B1 D classes S sz) (mp_A S sz)) 0 0 (mp_A S sz) := by
  refine va_MetW (hh := hh_L_poly) (cc := b_L_poly) (maxL := 3) (ret := (some .int)) (by decide) rfl ?_
  intro p e s m args below meth c s₁ B hml hv
  obtain ⟨rfl, hsz, hH, hK⟩ := hv
  have hx := B.exec
  have hb := B.bytes
  have hr := B.returns
  have hts := atoms_spec (ws := w_L_poly) B.pre
  have hg : ∀ w ∈ gw, w.before _ s = true := fun w h => hts w (List.mem_cons_of_mem _ h)
  have hown : s.vm.findClass R_L = some m.cls := findClass_of_methodNamed B.named
  have hlocks := B.notSynchronized
  have hhh := lw_table B (hts _ List.mem_cons_self)
  subst hsz
  have hI := mp_I.start hH
  have hl := lv_entry ([.ref o, .ref oa]) (n := 3) (Nat.le_of_ble_eq_true rfl)
  rw [lg_entry_eq]
  generalize (lg_sl ([.ref o, .ref oa]) ++ List.replicate (3 - (lg_sl ([.ref o, .ref oa])).length) Slot.unset).toArray = ls at hl ⊢
  have hl : lv_has ls 3 [(0, .ref o), (1, .ref oa)] := hl
  have hfr : ∀ b, S b ≠ none → b ≠ o → b ≠ eo gv → b ≠ oa → S b = S b := fun _ _ _ _ _ => rfl
  refine lv_aload_n hx hb d_L_poly_0 rfl (lv_at hl 1 rfl) ?_
  refine lv_iconst (v := nI 0) hx hb d_L_poly_1 (by decide) ?_
  refine lv_aload_n hx hb d_L_poly_2 rfl (lv_at hl 0 rfl) ?_
  refine mp_calli hI (va_runV (As := []) (rest := [.int (nI 0), .ref oa]) ⟨hx, hb, hml, hown, hg⟩ (c_B_poly l D g S _ o pa gv v0 v2 v3 v5 v6 v7 v8 v9 eo ek en cap pz kf nf h_o h_pa hE hgv) ⟨(callB_of 0 hg (wd_goodG q_549) rfl rfl rfl (hg _ q_1) (hg _ q_546) (by decide +kernel) ⟨Nat.le_of_ble_eq_true rfl, Nat.le_of_ble_eq_true rfl⟩), hg _ q_547, hg _ q_548⟩ (mp_preV (C := R_B) (T := F_B) hI hK h_o rfl []) rfl rfl hl.1 rfl (lv_room (Nat.le_of_ble_eq_true rfl)) d_L_poly_3 ⟨Nat.le_of_ble_eq_true rfl, Nat.le_of_ble_eq_true rfl⟩) (fun r4 S1 H2 locs p_3 hI => ?_)
  obtain ⟨er4, hp_o, hE1, fp⟩ := p_3
  have er4 : r4 = nI gv := er4
  subst er4
  obtain ⟨y1, y2, y3⟩ := hE gv hgv
  obtain ⟨z1, z2, z3⟩ := hE1 gv hgv
  have h_pa : S1 pa = some (1, .inl ((g 2), 40, .inr (.inr (.inr (.inr (rfs eo 40)))))) := (fp pa (mp_in h_pa) (mp_ne h_pa h_o (by decide)) (mp_ne h_pa y1 (by omega))).trans h_pa
  have h_oa : S1 oa = some (9, .inl ((g 4), 1, .inr (.inl of))) := (fp oa (mp_in h_oa) (mp_ne h_oa h_o (by decide)) (mp_ne h_oa y1 (by omega))).trans h_oa
  have hfr : ∀ b, S b ≠ none → b ≠ o → b ≠ eo gv → b ≠ oa → S1 b = S b := fun b h9 k0 k1 k2 => (fp b (by rw [hfr b h9 k0 k1 k2]; exact h9) k0 k1).trans (hfr b h9 k0 k1 k2)
  refine lv_i2l (v := lN gv) hx hb d_L_poly_6 (nI_l (by omega)) ?_
  refine mp_last hx hb hK.va hI 4 h_oa rfl (vp_in_nI (by decide) (by decide)) d_L_poly_7 (fun S5 H6 locs e_7 hI => ?_)
  have e_7 : S5 = va_up S1 oa (some (9, .inl ((g 4), 1, .inr (.inl (vp_updL of (nI 0).toNatClampNeg (lN gv)))))) := e_7
  have h_oa_o := h_oa
  have hp_o : S5 o = some (0, .inr (0, [v0, .ref pa, v2, v3, .int (nI (gv + 1)), v5, v6, v7, v8, v9])) := by rw [e_7]; exact mp_keep hp_o h_oa (by decide)
  have h_pa : S5 pa = some (1, .inl ((g 2), 40, .inr (.inr (.inr (.inr (rfs eo 40)))))) := by rw [e_7]; exact mp_keep h_pa h_oa (by decide)
  have z1 : S5 (eo gv) = some ((100 + 3 * gv), .inr (3, [.ref (ek gv), .ref (en gv), .int (nI (va_up pz gv 0 gv))])) := by rw [e_7]; exact mp_keep z1 h_oa (by omega)
  have h_oa : S5 oa = some (9, .inl ((g 4), 1, .inr (.inl (vp_updL of (nI 0).toNatClampNeg (lN gv))))) := by rw [e_7]; exact mp_us _ _ _
  have hE1 := yS_kept hE1 (S1 := S5) (fun b t9 e9 hb9 h1 h2 => by rw [e_7]; exact mp_un (mp_ne hb9 h_oa_o (by omega)))
  have hfr : ∀ b, S b ≠ none → b ≠ o → b ≠ eo gv → b ≠ oa → S5 b = S b := fun b h9 k0 k1 k2 => by rw [e_7]; exact (mp_un k2).trans (hfr b h9 k0 k1 k2)
  refine lv_goto (tgt := 14) hx hb d_L_poly_8 (by decide) ?_
  refine lv_iconst (v := nI 0) hx hb d_L_poly_14 (by decide) ?_
  refine mp_iret hx hb hr hlocks hI (by decide) (by decide) ?_ d_L_poly_15
  exact ⟨rfl, hp_o, hE1, hfr, _, h_oa, rfl⟩
set_option maxHeartbeats 4000000 in
set_option maxRecDepth 100000 in
/-- term on a polynomial that is 0 -/
theorem c_L_term0 (l : Launch) (D : mp_G) (g : Nat → ClassId) (S : mp_M) (sz : Nat) (o pa n : Nat) (eo ek en cap pz : Nat → Nat) (kf nf : Nat → Nat → Int32) (v2 v3 v4 v5 v6 v7 v8 v9 : Value) (k v : Nat) (ab be : Int64) (oa : Nat) (of : Nat → Int64) (h_o : S o = some (0, .inr (0, [.int (nI n), .ref pa, v2, v3, v4, v5, v6, v7, v8, v9]))) (h_pa : S pa = some (1, .inl ((g 2), 40, .inr (.inr (.inr (.inr (rfs eo 40))))))) (h_oa : S oa = some (9, .inl ((g 4), 1, .inr (.inl of)))) (hE : yS g 100 40 eo ek en cap pz kf nf S) (hz : pz k = 0) (hcp : cap k = 4) (hk : k < 40) (hv : v < 2 ^ 31) (hn : n < 4) (hn0 : 0 < n) (hp : pwOk n v) (hq : rsN be ≠ 0) : Met l y_L_term w_L_term ({ frames := 3, cells := 0, slots := 0, locals := 76 }) (va_Pc [.ref o, .int (nI k), .long ab, .long be, .int (nI v), .ref oa] (mp_B0 D classes (tys g) S sz)) (va_Qi (fun (r : Int32) (S1 : mp_M) => r = nI 0 ∧ (∀ b, S b ≠ none → b ≠ eo k → b ≠ ek k → b ≠ en k → b ≠ oa → S1 b = S b) ∧ ∃ f1 : Nat → Int64, S1 oa = some (9, .inl ((g 4), 1, .inr (.inl f1))) ∧ f1 0 = (if (rsN ab * (rsN be ^ 32001 % 32003) % 32003) = 0 then lN 0 else lN 1)) (mp_B1 D classes S sz) (mp_A S sz)) 0 0 (mp_A S sz) := by
  refine va_MetW (hh := hh_L_term) (cc := b_L_term) (maxL := 9) (ret := (some .int)) (by decide) rfl ?_
  intro p e s m args below meth c s₁ B hml hv
  obtain ⟨rfl, hsz, hH, hK⟩ := hv
  have hx := B.exec
  have hb := B.bytes
  have hr := B.returns
  have hts := atoms_spec (ws := w_L_term) B.pre
  have hg : ∀ w ∈ gw, w.before _ s = true := fun w h => hts w (List.mem_cons_of_mem _ h)
  have hown : s.vm.findClass R_L = some m.cls := findClass_of_methodNamed B.named
  have hlocks := B.notSynchronized
  have hhh := lw_table B (hts _ List.mem_cons_self)
  subst hsz
  have hI := mp_I.start hH
  have hl := lv_entry ([.ref o, .int (nI k), .long ab, .long be, .int (nI v), .ref oa]) (n := 9) (Nat.le_of_ble_eq_true rfl)
  rw [lg_entry_eq]
  generalize (lg_sl ([.ref o, .int (nI k), .long ab, .long be, .int (nI v), .ref oa]) ++ List.replicate (9 - (lg_sl ([.ref o, .int (nI k), .long ab, .long be, .int (nI v), .ref oa])).length) Slot.unset).toArray = ls at hl ⊢
  have hl : lv_has ls 9 [(0, .ref o), (1, .int (nI k)), (2, .long ab), (4, .long be), (6, .int (nI v)), (7, .ref oa)] := hl
  have hfr : ∀ b, S b ≠ none → b ≠ eo k → b ≠ ek k → b ≠ en k → b ≠ oa → S b = S b := fun _ _ _ _ _ _ => rfl
  refine lv_aload hx hb d_L_term_0 (lv_at hl 5 rfl) ?_
  refine lv_iconst (v := nI 0) hx hb d_L_term_2 (by decide) ?_
  refine lv_aload_n hx hb d_L_term_3 rfl (lv_at hl 0 rfl) ?_
  refine lv_iload_n hx hb d_L_term_4 rfl (lv_at hl 1 rfl) ?_
  refine lv_lload_n hx hb d_L_term_5 rfl (lv_at hl 2 rfl) ?_
  refine lv_lload hx hb d_L_term_6 (lv_at hl 3 rfl) ?_
  refine lv_iload hx hb d_L_term_8 (lv_at hl 4 rfl) ?_
  obtain ⟨y1, y2, y3⟩ := hE k hk
  refine mp_calli hI (va_runV (As := [.int (nI k), .long ab, .long be, .int (nI v)]) (rest := [.int (nI 0), .ref oa]) ⟨hx, hb, hml, hown, hg⟩ (c_B_term0 l D g S _ o pa n eo ek en cap pz kf nf v2 v3 v4 v5 v6 v7 v8 v9 k v ab be h_o h_pa hE hz hcp hk hv hn hn0 hp hq) ⟨(callB_of 4 hg (wd_goodG q_628) rfl rfl rfl (hg _ q_1) (hg _ q_625) (by decide +kernel) ⟨Nat.le_of_ble_eq_true rfl, Nat.le_of_ble_eq_true rfl⟩), hg _ q_626, hg _ q_627⟩ (mp_preV (C := R_B) (T := F_B) hI hK h_o rfl [.int (nI k), .long ab, .long be, .int (nI v)]) rfl rfl hl.1 rfl (lv_room (Nat.le_of_ble_eq_true rfl)) d_L_term_10 ⟨Nat.le_of_ble_eq_true rfl, Nat.le_of_ble_eq_true rfl⟩) (fun r4 S1 H2 locs p_3 hI => ?_)
  obtain ⟨er4, fp⟩ := p_3
  have h_oa1 : S1 oa = some (9, .inl ((g 4), 1, .inr (.inl of))) := (fp oa (mp_in h_oa) (mp_ne h_oa y1 (by omega)) (mp_ne h_oa y2 (by omega)) (mp_ne h_oa y3 (by omega))).trans h_oa
  have hfr : ∀ b, S b ≠ none → b ≠ eo k → b ≠ ek k → b ≠ en k → b ≠ oa → S1 b = S b := fun b h9 k0 k1 k2 _ => fp b h9 k0 k1 k2
  rcases er4 with ⟨hz9, rfl⟩ | ⟨hz9, rfl⟩
  · refine lv_if_eq (tgt := 20) hx hb d_L_term_13 (by decide) (fun _ => ?_) (fun h9 => absurd (by decide) h9)
    refine lv_lconst (v := lN 0) hx hb d_L_term_20 (by decide) ?_
    refine mp_last hx hb hK.va hI 4 h_oa1 rfl (vp_in_nI (by decide) (by decide)) d_L_term_21 (fun S5 H6 locs e_7 hI => ?_)
    have e_7 : S5 = va_up S1 oa (some (9, .inl ((g 4), 1, .inr (.inl (vp_updL of (nI 0).toNatClampNeg (lN 0)))))) := e_7
    have h_oa1 : S5 oa = some (9, .inl ((g 4), 1, .inr (.inl (vp_updL of (nI 0).toNatClampNeg (lN 0))))) := by rw [e_7]; exact mp_us _ _ _
    have hfr : ∀ b, S b ≠ none → b ≠ eo k → b ≠ ek k → b ≠ en k → b ≠ oa → S5 b = S b := fun b h9 k0 k1 k2 k3 => by rw [e_7]; exact (mp_un k3).trans (hfr b h9 k0 k1 k2 k3)
    refine lv_goto (tgt := 37) hx hb d_L_term_22 (by decide) ?_
    refine lv_iconst (v := nI 0) hx hb d_L_term_37 (by decide) ?_
    refine mp_iret hx hb hr hlocks hI (by decide) (by decide) ?_ d_L_term_38
    exact ⟨rfl, hfr, _, h_oa1, (if_pos hz9).symm⟩
  · refine lv_if_eq (tgt := 20) hx hb d_L_term_13 (by decide) (fun h9 => absurd h9 (by decide)) (fun _ => ?_)
    refine lv_lconst (v := lN 1) hx hb d_L_term_16 (by decide) ?_
    refine lv_goto (tgt := 21) hx hb d_L_term_17 (by decide) ?_
    refine mp_last hx hb hK.va hI 4 h_oa1 rfl (vp_in_nI (by decide) (by decide)) d_L_term_21 (fun S8 H9 locs e_10 hI => ?_)
    have e_10 : S8 = va_up S1 oa (some (9, .inl ((g 4), 1, .inr (.inl (vp_updL of (nI 0).toNatClampNeg (lN 1)))))) := e_10
    have h_oa1 : S8 oa = some (9, .inl ((g 4), 1, .inr (.inl (vp_updL of (nI 0).toNatClampNeg (lN 1))))) := by rw [e_10]; exact mp_us _ _ _
    have hfr : ∀ b, S b ≠ none → b ≠ eo k → b ≠ ek k → b ≠ en k → b ≠ oa → S8 b = S b := fun b h9 k0 k1 k2 k3 => by rw [e_10]; exact (mp_un k3).trans (hfr b h9 k0 k1 k2 k3)
    refine lv_goto (tgt := 37) hx hb d_L_term_22 (by decide) ?_
    refine lv_iconst (v := nI 0) hx hb d_L_term_37 (by decide) ?_
    refine mp_iret hx hb hr hlocks hI (by decide) (by decide) ?_ d_L_term_38
    exact ⟨rfl, hfr, _, h_oa1, (if_neg hz9).symm⟩
set_option maxHeartbeats 4000000 in
set_option maxRecDepth 100000 in
/-- take of a polynomial that is 0 -/
theorem c_L_take0 (l : Launch) (D : mp_G) (g : Nat → ClassId) (S : mp_M) (sz : Nat) (o pa lo n tk : Nat) (eo ek en cap pz : Nat → Nat) (kf nf : Nat → Nat → Int32) (v3 v4 v6 v8 v9 u0 u1 u2 : Value) (an : Int32) (k : Nat) (oa : Nat) (of : Nat → Int64) (h_o : S o = some (0, .inr (0, [.int (nI n), .ref pa, .ref lo, v3, v4, .int (nI tk), v6, .int an, v8, v9]))) (h_pa : S pa = some (1, .inl ((g 2), 40, .inr (.inr (.inr (.inr (rfs eo 40))))))) (h_lo : S lo = some (2, .inr (9, [u0, u1, u2]))) (h_oa : S oa = some (9, .inl ((g 4), 1, .inr (.inl of)))) (hE : yS g 100 40 eo ek en cap pz kf nf S) (hz : pz k = 0) (hk : k < 40) (htk : tk < 12) : Met l y_L_take w_L_take ({ frames := 2, cells := 0, slots := 0, locals := 43 }) (va_Pc [.ref o, .int (nI k), .ref oa] (mp_B0 D classes (tys g) S sz)) (va_Qi (fun (r : Int32) (S1 : mp_M) => r = nI 0 ∧ S1 o = some (0, .inr (0, [.int (nI n), .ref pa, .ref lo, v3, v4, .int (nI (tk + 1)), v6, .int 0, v8, v9])) ∧ (∀ b, S b ≠ none → b ≠ o → b ≠ oa → S1 b = S b) ∧ ∃ f1 : Nat → Int64, S1 oa = some (9, .inl ((g 4), 1, .inr (.inl f1))) ∧ f1 0 = lN 1) (mp_B1 D classes S sz) (mp_A S sz)) 0 0 (mp_A S sz) := by
  refine va_MetW (hh := hh_L_take) (cc := b_L_take) (maxL := 4) (ret := (some .int)) (by decide) rfl ?_
  intro p e s m args below meth c s₁ B hml hv
  obtain ⟨rfl, hsz, hH, hK⟩ := hv
  have hx := B.exec
  have hb := B.bytes
  have hr := B.returns
  have hts := atoms_spec (ws := w_L_take) B.pre
  have hg : ∀ w ∈ gw, w.before _ s = true := fun w h => hts w (List.mem_cons_of_mem _ h)
  have hown : s.vm.findClass R_L = some m.cls := findClass_of_methodNamed B.named
  have hlocks := B.notSynchronized
  have hhh := lw_table B (hts _ List.mem_cons_self)
  subst hsz
  have hI := mp_I.start hH
  have hl := lv_entry ([.ref o, .int (nI k), .ref oa]) (n := 4) (Nat.le_of_ble_eq_true rfl)
  rw [lg_entry_eq]
  generalize (lg_sl ([.ref o, .int (nI k), .ref oa]) ++ List.replicate (4 - (lg_sl ([.ref o, .int (nI k), .ref oa])).length) Slot.unset).toArray = ls at hl ⊢
  have hl : lv_has ls 4 [(0, .ref o), (1, .int (nI k)), (2, .ref oa)] := hl
  have hfr : ∀ b, S b ≠ none → b ≠ o → b ≠ oa → S b = S b := fun _ _ _ _ => rfl
  refine lv_aload_n hx hb d_L_take_0 rfl (lv_at hl 2 rfl) ?_
  refine lv_iconst (v := nI 0) hx hb d_L_take_1 (by decide) ?_
  refine lv_aload_n hx hb d_L_take_2 rfl (lv_at hl 0 rfl) ?_
  refine lv_iload_n hx hb d_L_take_3 rfl (lv_at hl 1 rfl) ?_
  refine mp_calli hI (va_runV (As := [.int (nI k)]) (rest := [.int (nI 0), .ref oa]) ⟨hx, hb, hml, hown, hg⟩ (c_B_take0 l D g S _ o pa lo n tk eo ek en cap pz kf nf v3 v4 v6 v8 v9 u0 u1 u2 an k h_o h_pa h_lo hE hz hk htk) ⟨(callB_of 1 hg (wd_goodG q_722) rfl rfl rfl (hg _ q_1) (hg _ q_719) (by decide +kernel) ⟨Nat.le_of_ble_eq_true rfl, Nat.le_of_ble_eq_true rfl⟩), hg _ q_720, hg _ q_721⟩ (mp_preV (C := R_B) (T := F_B) hI hK h_o rfl [.int (nI k)]) rfl rfl hl.1 rfl (lv_room (Nat.le_of_ble_eq_true rfl)) d_L_take_4 ⟨Nat.le_of_ble_eq_true rfl, Nat.le_of_ble_eq_true rfl⟩) (fun r4 S1 H2 locs p_3 hI => ?_)
  obtain ⟨er4, hp_o, fp⟩ := p_3
  have er4 : r4 = 1 := er4
  subst er4
  have h_pa : S1 pa = some (1, .inl ((g 2), 40, .inr (.inr (.inr (.inr (rfs eo 40)))))) := (fp pa (mp_in h_pa) (mp_ne h_pa h_o (by decide))).trans h_pa
  have h_lo : S1 lo = some (2, .inr (9, [u0, u1, u2])) := (fp lo (mp_in h_lo) (mp_ne h_lo h_o (by decide))).trans h_lo
  have h_oa : S1 oa = some (9, .inl ((g 4), 1, .inr (.inl of))) := (fp oa (mp_in h_oa) (mp_ne h_oa h_o (by decide))).trans h_oa
  have hfr : ∀ b, S b ≠ none → b ≠ o → b ≠ oa → S1 b = S b := fun b h9 k0 k1 => (fp b (by rw [hfr b h9 k0 k1]; exact h9) k0).trans (hfr b h9 k0 k1)
  refine lv_if_eq (tgt := 14) hx hb d_L_take_7 (by decide) (fun h9 => absurd h9 (by decide)) (fun _ => ?_)
  refine lv_lconst (v := lN 1) hx hb d_L_take_10 (by decide) ?_
  refine lv_goto (tgt := 15) hx hb d_L_take_11 (by decide) ?_
  refine mp_last hx hb hK.va hI 4 h_oa rfl (vp_in_nI (by decide) (by decide)) d_L_take_15 (fun S5 H6 locs e_7 hI => ?_)
  have e_7 : S5 = va_up S1 oa (some (9, .inl ((g 4), 1, .inr (.inl (vp_updL of (nI 0).toNatClampNeg (lN 1)))))) := e_7
  have hp_o : S5 o = some (0, .inr (0, [.int (nI n), .ref pa, .ref lo, v3, v4, .int (nI (tk + 1)), v6, .int 0, v8, v9])) := by rw [e_7]; exact mp_keep hp_o h_oa (by decide)
  have h_pa : S5 pa = some (1, .inl ((g 2), 40, .inr (.inr (.inr (.inr (rfs eo 40)))))) := by rw [e_7]; exact mp_keep h_pa h_oa (by decide)
  have h_lo : S5 lo = some (2, .inr (9, [u0, u1, u2])) := by rw [e_7]; exact mp_keep h_lo h_oa (by decide)
  have h_oa : S5 oa = some (9, .inl ((g 4), 1, .inr (.inl (vp_updL of (nI 0).toNatClampNeg (lN 1))))) := by rw [e_7]; exact mp_us _ _ _
  have hfr : ∀ b, S b ≠ none → b ≠ o → b ≠ oa → S5 b = S b := fun b h9 k0 k1 => by rw [e_7]; exact (mp_un k1).trans (hfr b h9 k0 k1)
  refine lv_goto (tgt := 22) hx hb d_L_take_16 (by decide) ?_
  refine lv_iconst (v := nI 0) hx hb d_L_take_22 (by decide) ?_
  refine mp_iret hx hb hr hlocks hI (by decide) (by decide) ?_ d_L_take_23
  exact ⟨rfl, hp_o, hfr, _, h_oa, rfl⟩
set_option maxHeartbeats 4000000 in
set_option maxRecDepth 100000 in
/-- a cell of the script -/
theorem c_L_cell (l : Launch) (D : mp_G) (g : Nat → ClassId) (S : mp_M) (sz : Nat) (b L k : Nat) (xs : Nat → Int32)  (hX : va_X b L xs D.2.1 D.2.1.heap) (hL : L < 2 ^ 31) (hk : k < 2 ^ 31) : Met l y_L_cell w_L_cell ({ frames := 0, cells := 0, slots := 0, locals := 0 }) (va_Pc [.ref b, .int (nI k)] (mp_B0 D classes (tys g) S sz)) (va_Qi (fun (r : Int32) (S1 : mp_M) => r = (if k < L then xs k else 0) ∧ S1 = S) (mp_B1 D classes S sz) (mp_A S sz)) 0 0 (mp_A S sz) := by
  refine Met.ofW (cc := b_L_cell) (maxL := 2) (ret := (some .int)) (by decide) rfl ?_
  intro p e s m args below meth c s₁ B hml hv
  obtain ⟨rfl, hsz, hH, hK⟩ := hv
  have hx := B.exec
  have hb := B.bytes
  have hr := B.returns
  have hts := atoms_spec (ws := w_L_cell) B.pre
  have hg : ∀ w ∈ gw, w.before _ s = true := fun w h => hts w (List.mem_cons_of_mem _ h)
  have hown : s.vm.findClass R_L = some m.cls := findClass_of_methodNamed B.named
  have hlocks := B.notSynchronized
  subst hsz
  have hI := mp_I.start hH
  have hl := lv_entry ([.ref b, .int (nI k)]) (n := 2) (Nat.le_of_ble_eq_true rfl)
  rw [lg_entry_eq]
  generalize (lg_sl ([.ref b, .int (nI k)]) ++ List.replicate (2 - (lg_sl ([.ref b, .int (nI k)])).length) Slot.unset).toArray = ls at hl ⊢
  have hl : lv_has ls 2 [(0, .ref b), (1, .int (nI k))] := hl
  refine lv_iload_n hx hb d_L_cell_0 rfl (lv_at hl 1 rfl) ?_
  refine lv_aload_n hx hb d_L_cell_1 rfl (lv_at hl 0 rfl) ?_
  refine mp_slen hx hb hX hK hI d_L_cell_2 ?_
  refine lv_icmp_ge (tgt := 12) hx hb d_L_cell_3 (by decide) (fun c1 => ?_) (fun c1 => ?_)
  · rw [nI_leI (by omega) (by omega)] at c1
    refine lv_iconst (v := nI 0) hx hb d_L_cell_12 (by decide) ?_
    refine mp_iret hx hb hr hlocks hI (by decide) (by decide) ?_ d_L_cell_13
    exact ⟨by rw [if_neg (by omega)]; rfl, rfl⟩
  · rw [nI_leI (by omega) (by omega)] at c1
    refine lv_aload_n hx hb d_L_cell_6 rfl (lv_at hl 0 rfl) ?_
    refine lv_iload_n hx hb d_L_cell_7 rfl (lv_at hl 1 rfl) ?_
    refine mp_sld hx hb hX hK hI (vp_in_nI (by omega) (by omega)) d_L_cell_8 ?_
    refine lv_goto (tgt := 13) hx hb d_L_cell_9 (by decide) ?_
    refine mp_iret hx hb hr hlocks hI (by decide) (by decide) ?_ d_L_cell_13
    exact ⟨by rw [if_pos (by omega), nI_clamp (by omega)], rfl⟩
