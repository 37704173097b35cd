/-! Methods that only read: the heap is the same behind them. Methods that throw: of what class; their cells stay as they were. (Throws come before anything is written.) -/
def pp_Qr (post : Nat → Prop) : Array Value → State → Outcome → State → Prop := fun _ st o t => ∃ a : Nat, o = .returned (some (.ref a)) ∧ post a ∧ t.heap = st.heap
def pp_Qv : Array Value → State → Outcome → State → Prop := fun _ st o t => o = .returned none ∧ t.heap = st.heap
def xp_Q (cls : String) (D : mp_G) (cl : List vw_C) (S : mp_M) (mc ms : Nat) : Array Value → State → Outcome → State → Prop := fun _ st o t =>
  ∃ (q : Addr) (ce : Cell), o = .threw q ∧ mp_H D cl S t.heap ∧ t.heap[q]? = some ce ∧ ce.vm = .none ∧ st.vm.findClass cls = some ce.cls ∧ st.WarmedH t.vm ∧ st.sameButNew ({ t with vm := st.vm } : State) [] mc ms
def xp_Met (l : Launch) (y : MethodName) (ws : List Cond) (rm : Room) (Pc : Array Value → State → Prop) (cls : String) (D : mp_G) (cl : List vw_C) (S : mp_M) (mc ms : Nat) : Prop := MetFree l y (headSpec ws rm) Pc (fun _ _ _ _ _ => True) (xp_Q cls D cl S mc ms)
def xp_F (below : List Frame) (cls : String) (D : mp_G) (cl : List vw_C) (S : mp_M) (mc ms : Nat) (a : Array Value) (s : State) : State → Prop := fun t => ∃ o, t.status = .running ∧ Ended t below o ∧ xp_Q cls D cl S mc ms a s o t
theorem xp_kept {D : mp_G} {cl : List vw_C} {S : mp_M} {s t : State} {k n : Nat} (h : s.sameButNew t [] k n) (hH : mp_H D cl S s.heap) : mp_H D cl S t.heap := by
  refine ⟨fun a u e9 ha => ?_, fun a c9 ha => ?_⟩
  · have h1 := hH.1 a u e9 ha
    refine h1.kept ?_
    obtain ⟨c9, hc⟩ : ∃ c9, s.heap[a]? = some c9 := ⟨_, Array.getElem?_eq_getElem h1.lt⟩
    rw [h.old_cell hc, hc]
  · obtain ⟨g1, g2⟩ := hH.2 a c9 ha
    exact ⟨g1, h.old_cell g2⟩
section XP0
variable {l : Launch}
theorem xp_ofW {y : MethodName} {ws ws' : List Cond} {rm : Room} {Pc : Array Value → State → Prop} {cls : String} {D : mp_G} {cl : List vw_C} {S : mp_M} {mc ms : Nat} {cc : ByteArray} {maxL : Nat} {ret : Option FieldType}
    (hy : plainName y.cls = true) (hw : ws = Cond.code y cc maxL ret :: ws')
    (body : ∀ p e s m args below meth c s₁, BodyLoose p l y (headSpec ws rm) cc maxL ret e s m args below meth c s₁ → c.maxLocals = maxL → Pc args s →
      W p l e (headSpec ws rm).room s m args below meth c s.heap [] 0 0 (xp_F below cls D cl S mc ms args s) (entryFrame m args maxL)) : xp_Met l y ws rm Pc cls D cl S mc ms := by
  refine MetFree.of_bodyS (code := cc) (maxLocals := maxL) (ret := ret) hy ?_ ?_
  · intro args s m h hn
    obtain ⟨meth, c, h1, h2, h3, h4, h5, h6, -, -⟩ := Cond.code_spec hn (atoms_spec (ws := ws) h _ (by rw [hw]; exact List.mem_cons_self))
    exact ⟨meth, c, h1, h2, h3, h4, h5, h6⟩
  · intro p e s m args below meth c s₁ B hml hP _
    have hh0 : s₁.heap = s.heap := by rw [B.state]; rfl
    obtain ⟨t, a1, o, b1, b2, b3⟩ := body p e s m args below meth c s₁ B hml hP s₁ hh0 (Stand.of_body B)
    exact ⟨t, o, a1, b1, b2, b3⟩
end XP0
section XP1
variable {p : Program} {l : Launch} {e : Env} {R : Room} {s : State} {m : MethodId} {args : Array Value} {below : List Frame} {meth : Method} {c : Code} {H : Heap} {locs : List Loc} {cells slots : Nat} {Q : State → Prop}
variable {cc : ByteArray} {pc : Nat} {ls : Array Slot} {rest st0 : List Value} {D : mp_G} {cl : List vw_C} {tys : List (ClassId × FieldType)} {S : mp_M}
theorem pp_run {mc ms : Nat} {Qa : State → Outcome → State → Prop} (hr : va_Run p l e R s m args below meth c H locs cells slots 0 0 (F0 m pc ls st0) rest Qa (fun _ => False))
    (kk : ∀ (v : Option Value) (st t : State), st.heap = H → Qa st (.returned v) t → t.heap = H ∧ W p l e R s m args below meth c H locs cells slots Q (F0 m (pc + 3) ls (v.toList ++ rest))) : W p l e R s m args below meth c H locs cells slots Q (F0 m pc ls st0) := by
  intro T hT X
  obtain ⟨v, st₀, t, T', L, h0, X', hL, e1, e2, hq, st⟩ := hr T hT X
  obtain ⟨ht, k⟩ := kk v st₀ t h0 hq
  have hLn : L = [] := by
    cases L with
    | nil => rfl
    | cons q r => exact (hL q List.mem_cons_self).elim
  subst hLn
  rw [List.append_nil] at X'
  obtain ⟨t2, a1, b1⟩ := k T' (e1.trans ht) X'
  exact ⟨t2, st t2 a1, b1⟩
theorem pp_calli {av : Array Value} {post : Int32 → Prop} (hr : va_Run p l e R s m args below meth c H locs cells slots 0 0 (F0 m pc ls st0) rest (vp_Si post av) (fun _ => False))
    (kk : ∀ r : Int32, post r → W p l e R s m args below meth c H locs cells slots Q (F0 m (pc + 3) ls (.int r :: rest))) : W p l e R s m args below meth c H locs cells slots Q (F0 m pc ls st0) :=
  pp_run (mc := 0) (ms := 0) hr fun v st t h0 ⟨r, e1, hp, ht⟩ => by cases e1; exact ⟨ht.trans h0, kk r hp⟩
theorem pp_calll {av : Array Value} {post : Int64 → Prop} (hr : va_Run p l e R s m args below meth c H locs cells slots 0 0 (F0 m pc ls st0) rest (vp_Sl post av) (fun _ => False))
    (kk : ∀ r : Int64, post r → W p l e R s m args below meth c H locs cells slots Q (F0 m (pc + 3) ls (.long r :: rest))) : W p l e R s m args below meth c H locs cells slots Q (F0 m pc ls st0) :=
  pp_run (mc := 0) (ms := 0) hr fun v st t h0 ⟨r, e1, hp, ht⟩ => by cases e1; exact ⟨ht.trans h0, kk r hp⟩
theorem pp_callr {av : Array Value} {post : Nat → Prop} (hr : va_Run p l e R s m args below meth c H locs cells slots 0 0 (F0 m pc ls st0) rest (pp_Qr post av) (fun _ => False))
    (kk : ∀ r : Nat, post r → W p l e R s m args below meth c H locs cells slots Q (F0 m (pc + 3) ls (.ref r :: rest))) : W p l e R s m args below meth c H locs cells slots Q (F0 m pc ls st0) :=
  pp_run (mc := 0) (ms := 0) hr fun v st t h0 ⟨r, e1, hp, ht⟩ => by cases e1; exact ⟨ht.trans h0, kk r hp⟩
theorem pp_callv {av : Array Value} (hr : va_Run p l e R s m args below meth c H locs cells slots 0 0 (F0 m pc ls st0) rest (pp_Qv av) (fun _ => False))
    (kk : W p l e R s m args below meth c H locs cells slots Q (F0 m (pc + 3) ls rest)) : W p l e R s m args below meth c H locs cells slots Q (F0 m pc ls st0) :=
  pp_run (mc := 0) (ms := 0) hr fun v st t h0 ⟨e1, ht⟩ => by cases e1; exact ⟨ht.trans h0, kk⟩
theorem pp_iret {post : Int32 → Prop} {v : Int32} (hexec : p.tables.exec = Jvm.exec) (hb : c.code = cc) (hr : meth.sig.returnType = some .int) (hlocks : meth.locks = false) (hp : post v) (hdg : decode cc pc = .ok (.ireturn, 1)) :
    W p l e R s m args below meth c s.heap [] 0 0 (MQ below (vp_Si post) args s 0 0 (fun _ => False)) (F0 m pc ls [.int v]) :=
  W.iret (v := v) hexec hb hr (fun u hu _ => ⟨v, rfl, hp, hu⟩) (fun _ h => nomatch h) hdg hlocks
theorem pp_lret {post : Int64 → Prop} {v : Int64} (hexec : p.tables.exec = Jvm.exec) (hb : c.code = cc) (hr : meth.sig.returnType = some .long) (hlocks : meth.locks = false) (hp : post v) (hdg : decode cc pc = .ok (.lreturn, 1)) :
    W p l e R s m args below meth c s.heap [] 0 0 (MQ below (vp_Sl post) args s 0 0 (fun _ => False)) (F0 m pc ls [.long v]) :=
  W.lret (v := v) hexec hb hr (fun u hu _ => ⟨v, rfl, hp, hu⟩) (fun _ h => nomatch h) hdg hlocks
theorem pp_aret {post : Nat → Prop} {ra : Nat} {rt : FieldType} (hexec : p.tables.exec = Jvm.exec) (hb : c.code = cc) (hr : meth.sig.returnType = some rt) (hrt : (∃ n, rt = .object n) ∨ ∃ t, rt = .array t) (hlocks : meth.locks = false) (hp : post ra) (hdg : decode cc pc = .ok (.areturn, 1)) :
    W p l e R s m args below meth c s.heap [] 0 0 (MQ below (pp_Qr post) args s 0 0 (fun _ => False)) (F0 m pc ls [.ref ra]) :=
  W.aret (v := .ref ra) hexec hb hr hrt (Or.inr ⟨_, rfl⟩) (fun u hu _ => ⟨ra, rfl, hp, hu⟩) (fun _ h => nomatch h) hdg hlocks
theorem pp_vret (hexec : p.tables.exec = Jvm.exec) (hb : c.code = cc) (hr : meth.sig.returnType = none) (hlocks : meth.locks = false) (hdg : decode cc pc = .ok (.return_, 1)) :
    W p l e R s m args below meth c s.heap [] 0 0 (MQ below pp_Qv args s 0 0 (fun _ => False)) (F0 m pc ls []) :=
  W.vret hexec hb hr (fun u hu _ => ⟨rfl, hu⟩) (fun _ h => nomatch h) hdg hlocks
/-- throw new E("text"), where nothing has been written yet -/
theorem xp_throwS (hexec : p.tables.exec = Jvm.exec) (hb : c.code = cc) (hl : l.stackTraces = false) {own cls text : String} {names : List String} {ik is ic sa : Nat}
    (hown : s.vm.findClass own = some m.cls) (hcls : Bundle.fit cls = true) (hnames : ∀ n ∈ names, Bundle.fit n = true)
    (hk : (Cond.classLink own ik cls).before args s = true) (hini : (Cond.initialized cls).before args s = true) (hstr : vk_R own is text sa s) (hat : ∀ w ∈ Bundle.ownAtoms own ic cls names, w.before args s = true) (hH : mp_H D cl S s.heap) (hsize : ls.size = c.maxLocals)
    (d0 : decode cc pc = .ok (.new ik, 3)) (d3 : decode cc (pc + 3) = .ok (.dup, 1)) (d4 : decode cc (pc + 3 + 1) = .ok (.ldc is, 2)) (d6 : decode cc (pc + 6) = .ok (.invokespecial ic, 3)) (d9 : decode cc (pc + 9) = .ok (.athrow, 1))
    (hout : ∀ x ∈ c.exceptionTable.toList, covers x (pc + 9) = false)
    (hRframes : names.length + 3 < R.frames) (hRlocals : (rest.map fun v => v.category).sum + (13 * (names.length + 1) + 43) ≤ R.locals) (hRcells : 1 ≤ R.cells) (hRslots : 6 ≤ R.slots) (hlocks : meth.locks = false) :
    W p l e R s m args below meth c s.heap [] 0 0 (xp_F below cls D cl S 1 6 args s) (F0 m pc ls rest) := by
  have hins : (Cond.instantiable cls 6).before args s = true := hat _ (by simp [Bundle.ownAtoms])
  refine W.newc hexec hb hown hk hins hini rfl d0 (by omega) (by omega) fun cC kC h1 h2 h3 h4 => ?_
  refine lv_dup hexec hb d3 rfl ?_
  refine va_ldcS hexec hb hown hstr d4 ?_
  intro T hT X
  have htr : e.platform.stackTraces = false := (show e.platform.stackTraces = l.stackTraces by rw [X.admits.platform]).trans hl
  have hcat : (Value.ref s.heap.size).category = 1 := rfl
  obtain ⟨U, hst, hrun, hend, hW, hsame, ce, hce, hO⟩ := X.ctorThrowS hexec htr (own := own) (cls := cls) (names := names) (ic := ic) hown hcls hnames hat (fun x hx => nomatch hx) (a := s.heap.size) (cX := cC) (kX := kC) h1 h2 (by rw [hT, Array.getElem?_push_size]) (Nat.le_refl _) (msg := .ref sa) rfl
    (g := F0 m (pc + 6) ls (.ref sa :: .ref s.heap.size :: .ref s.heap.size :: rest)) rfl hsize rfl rfl (rest := rest) rfl (by rw [hb]; exact d6) (by rw [hb]; exact d9) hout hRframes (by
      simp only [List.map_cons, List.sum_cons, hcat]
      show 2 * 0 + _ + _ ≤ _
      omega) hlocks
  exact ⟨U, hst, .threw s.heap.size, hrun, hend, s.heap.size, ce, rfl, xp_kept (t := { U with vm := s.vm }) hsame hH, hce, hO.vm, hO.cls, hW, hsame⟩
end XP1
section XP2
variable {l : Launch} {R : Room} {p : Program} {e : Env} {below : List Frame} {s : State} {sargs : Array Value} {y : MethodName} {len W9 : Nat}
/-- a callee that throws: its exception stands above the caller's frame -/
theorem xp_back {ws : List Cond} {rm : Room} {Pc : Array Value → State → Prop} {cls : String} {D : mp_G} {cl : List vw_C} {S : mp_M} {mc ms : Nat} {bytes : ByteArray} {maxL : Nat} {ret : Option FieldType}
    (hM : xp_Met l y ws rm Pc cls D cl S mc ms) (hblind : FrameBlind Pc) (hrc : rm.cells = mc) (hrs : rm.slots = ms)
    (hframes : rm.frames + 1 ≤ R.frames) (hlocals : W9 + (maxL + 11) + rm.locals ≤ R.locals)
    (hws : ∀ w ∈ ws, ∀ a' U, s.WarmedH U.vm → w.before a' U = true) (hcode : Cond.code y bytes maxL ret ∈ ws) (hinit : ∀ a' U, s.WarmedH U.vm → (Cond.initialized y.cls).before a' U = true)
    {m : MethodId} {meth : Method} {c : Code} {U : State} {locs : List Loc} {cells slots : Nat} (X : Stand p l e R s m sargs below meth c U locs cells slots) {g : JFrame} {ig : Instr} {mk : MethodId} {a : Array Value}
    (hg : g.method = m) (hsize : g.locals.size = c.maxLocals) (hdg : decode c.code g.pc = .ok (ig, len)) (hW : 2 * g.monitorRoom + (g.stack.map fun v => v.category).sum ≤ W9) (hn : U.methodNamed? y = some mk) (hPc : Pc a U)
    (hcells : cells + mc ≤ R.cells) (hslots : slots + ms ≤ R.slots) :
    ∃ (q : Addr) (V : State) (ce : Cell), Stand p l e R s m sargs below meth c V locs (cells + mc) (slots + ms) ∧ mp_H D cl S V.heap ∧ V.heap[q]? = some ce ∧ ce.vm = .none ∧ s.vm.findClass cls = some ce.cls ∧ (∀ (b : Nat) (c9 : Cell), U.heap[b]? = some c9 → V.heap[b]? = some c9) ∧ U.heap.size ≤ V.heap.size ∧
      Steps p.tables e below (doInvoke e (U.setTop g) [] mk a).1 ((V.setTop g).pushFrame (.throwing q)) := by
  have h1 : (headSpec ws rm).pre.before a U = true := atoms_intro fun w hw => hws w hw _ _ X.warmed
  have h2 : (Cond.code y bytes maxL ret).before a U = true := hws _ hcode _ _ X.warmed
  have h3 : (Cond.initialized y.cls).before a U = true := hinit _ _ X.warmed
  have h4 : cells + (headSpec ws rm).room.cells ≤ R.cells := by rw [show (headSpec ws rm).room.cells = mc from hrc]; exact hcells
  have h5 : slots + (headSpec ws rm).room.slots ≤ R.slots := by rw [show (headSpec ws rm).room.slots = ms from hrs]; exact hslots
  obtain ⟨methY, cY, hmY, hcY, -, hlY, -, -, -, -⟩ := Cond.code_spec hn h2
  obtain ⟨kY, hkY, -⟩ := className_of_methodNamed hn
  have hinitY : kY.init = .initialized := Cond.initialized_spec (findClass_of_methodNamed hn) hkY h3
  have h : At U g.method c below := by rw [hg]; exact X.here
  have hl9 : W9 + (maxL + 11) + (headSpec ws rm).room.locals ≤ R.locals := hlocals
  have happ : (headSpec ws rm).appliesLoose y e.platform (U.calling g mk a) = true :=
    Spec.appliesLoose_calling (g := g) h hdg hn hkY hinitY (X.room_calling (g := g) (R' := (headSpec ws rm).room) hsize hmY hcY hframes (by rw [hlY]; omega) h4 h5) h1
  obtain ⟨mid, hmid⟩ := h.above
  have hfr : (U.setTop g).frames = (.java g :: mid) ++ below := by rw [State.frames_setTop' g h.top, hmid]; rfl
  obtain ⟨o, s₂, hsteps, -, hend, hq⟩ := Steps.callFree hM p X.admits X.cas X.clock (acts := []) hfr happ (hblind _ _ _ _ hPc) trivial
  have hq' : xp_Q cls D cl S mc ms a (U.calling g mk a) o s₂ := hq
  rw [State.frames_setTop' g h.top] at hend
  obtain ⟨q, ce, rfl, hH, hce, hcv, hcl, hW₂, hsm⟩ := hq'
  have hW' : U.WarmedH s₂.vm := hW₂
  have hold : ∀ (b : Nat) (c9 : Cell), U.heap[b]? = some c9 → s₂.heap[b]? = some c9 := fun b c9 hb => hsm.old_cell (s := U.calling g mk a) hb
  have hcl' : U.vm.findClass cls = some ce.cls := hcl
  obtain ⟨e2, q2, q3, q4, q5, q6⟩ := hsm
  have e3 : s₂ = ({ (U.calling g mk a).setFrames s₂.frames with heap := s₂.heap, slotsUsed := s₂.slotsUsed } : State).setVm s₂.vm := by
    have : s₂ = ({ s₂ with vm := (U.calling g mk a).vm } : State).setVm s₂.vm := rfl
    rw [e2] at this
    exact this
  obtain ⟨g₀, hg0⟩ := Option.isSome_iff_exists.mp h.top
  obtain ⟨r, hr⟩ := State.topJava?_eq_some.mp hg0
  have hsame : U.sameButNew ({ U with heap := s₂.heap, slotsUsed := s₂.slotsUsed } : State) [] mc ms := by
    refine ⟨?_, q2, q3, q4, q5, q6⟩
    obtain ⟨t, ht, -⟩ := State.frames_cons hr
    show ({ U with heap := s₂.heap, slotsUsed := s₂.slotsUsed } : State) = { U.setFrames U.frames with heap := s₂.heap, slotsUsed := s₂.slotsUsed }
    rw [State.setFrames_self ht]
  subst hg
  have X' : Stand p l e R s g.method sargs below meth c (({ U with heap := s₂.heap, slotsUsed := s₂.slotsUsed } : State).setVm s₂.vm) (locs ++ []) (cells + mc) (slots + ms) :=
    ⟨X.admits, X.cas, X.clock, X.frames, X.room, X.hears, X.method, X.code, (X.here.setHeapUsed s₂.heap s₂.slotsUsed).setVm hW'.alike, X.tail, State.WarmedH.trans X.warmed hW', X.limits, X.bytes, X.same.trans (hsame.setVm s.vm)⟩
  rw [List.append_nil] at X'
  refine ⟨q, _, ce, X', hH, hce, hcv, ?_, hold, q2, ?_⟩
  · have hal := X.warmed.alike
    rw [← hcl', hal.findClass]
  · have hs₂ : s₂ = ((({ U with heap := s₂.heap, slotsUsed := s₂.slotsUsed } : State).setVm s₂.vm).setTop g).pushFrame (.throwing q) := by
      rw [X'.pushThrowing_eq g q]
      refine e3.trans ?_
      have hend' : s₂.frames = .throwing q :: .java g :: U.frames.tail := hend
      rw [hend', State.calling_eq h.top, State.setFrames_setFrames, X.tail]
      rfl
    rw [← hs₂]
    exact hsteps
end XP2
section XP3
variable {p : Program} {l : Launch} {e : Env} {R : Room} {s : State} {m : MethodId} {args : Array Value} {below : List Frame} {meth : Method} {c : Code} {H : Heap} {locs : List Loc} {cells slots : Nat} {Q : State → Prop}
variable {cc : ByteArray} {pc : Nat} {ls : Array Slot} {rest : List Value} {D : mp_G} {cl : List vw_C} {tys : List (ClassId × FieldType)} {S : mp_M} {A : Nat → Prop}
variable {y : MethodName} {bytes : ByteArray} {maxL nL mc ms n index : Nat} {ret : Option FieldType} {ws : List Cond} {rm : Room} {Pc : Array Value → State → Prop} {Ts : List Cond} {own C cls : String} {b : Addr} {As : List Value}
/-- a call of a method that throws: where the machine then stands -/
theorem xp_runV (F : CallFix p m c cc nL s args Ts own) (hM : xp_Met l y ws rm Pc cls D cl S mc ms) (cw : CallW R s args own C index y bytes maxL ret ws rm mc ms n) (hp : PreV s H C b Pc As)
    (hn : As.length = n) (hsize : ls.size = nL) (hW : 2 * (F0 m pc ls rest).monitorRoom + (rest.map fun v => v.category).sum ≤ 8) (hdg : decode cc pc = .ok (.invokevirtual index, 3)) (hf : cells + mc ≤ R.cells ∧ slots + ms ≤ R.slots) :
    ∀ T : State, T.heap = H → Stand p l e R s m args below meth c T locs cells slots → ∃ (q : Addr) (V : State) (ce : Cell), Stand p l e R s m args below meth c V locs (cells + mc) (slots + ms) ∧ mp_H D cl S V.heap ∧ V.heap[q]? = some ce ∧ ce.vm = .none ∧ s.vm.findClass cls = some ce.cls ∧ (∀ (z : Nat) (c9 : Cell), H[z]? = some c9 → V.heap[z]? = some c9) ∧ H.size ≤ V.heap.size ∧
      ∀ target, Steps p.tables e below ((V.setTop (F0 m pc ls rest)).pushFrame (.throwing q)) target → Steps p.tables e below (T.setTop (F0 m pc ls (As.reverse ++ .ref b :: rest))) target := by
  obtain ⟨⟨hrc, hrs, hfr, hlo, hws, hcwd, hcode, hini, hy, hlen, hl⟩, hin, hse⟩ := cw
  obtain ⟨hx, hb, hml, ho, -⟩ := F
  obtain ⟨hbl, ⟨cellB, hcB, hoB, hclB⟩, hPc⟩ := hp
  intro T hT X
  obtain ⟨mk, methM, hnamed, hmethM, hstM, habM⟩ := Cond.instanceMethod_spec hin
  obtain ⟨methM', cM, hmethM', -, -, -, -, -, -, hsigM⟩ := Cond.code_spec hnamed hcode
  cases hmethM.symm.trans hmethM'
  obtain ⟨c2, r2, m2, q1, q2, q3, q4, kP, hkP, hkPi⟩ := Cond.selects_spec hse
  cases hclB.symm.trans q1
  cases (State.methodFound?_of_named hnamed hy).symm.trans q2
  cases hnamed.symm.trans q3
  have hselP : selectMethod e.platform s.vm cellB.cls mk = .method mk := by rw [Launch.admits_selectMethod X.admits]; exact q4
  obtain ⟨vm₁, X₁, hstep₁⟩ := X.invokevirtual hx ho hl hnamed hmethM hstM hkP hkPi hy (a := b) (cell := cellB) (by rw [hT]; exact hcB)
    (fun z h => by rw [h] at hoB; cases hoB) hselP hmethM habM hkP hkPi (g := F0 m pc ls (As.reverse ++ .ref b :: rest)) rfl (argsL := As) (rest := rest) (hn.trans (hlen _ hsigM)) rfl (by rw [hb]; exact hdg)
  obtain ⟨q, V, ce, X', hH, hce, hcv, hcl, hold, hsz, hsteps⟩ := xp_back (W9 := 8) (bytes := bytes) (maxL := maxL) (ret := ret) hM hbl hrc hrs hfr hlo hws hcwd (fun a' U hW => word_at hW (Or.inl (by first | rfl | simp [Cond.onTables, Cond.keeps, Cond.steady])) hini)
    X₁ (g := F0 m pc ls rest) (ig := .invokevirtual index) (len := 3) (mk := mk) (a := (Value.ref b :: As).toArray) rfl (hsize.trans hml.symm) (by rw [hb]; exact hdg) hW (X₁.named hnamed) (hPc _ hT X₁.warmed) hf.1 hf.2
  refine ⟨q, V, ce, X', hH, hce, hcv, hcl, fun z c9 hz => hold z c9 (by show (T.setVm vm₁).heap[z]? = _; rw [show (T.setVm vm₁).heap = H from hT]; exact hz), by rw [← hT]; exact hsz, fun target h => hstep₁ _ fun acts => by rw [doInvoke_state]; exact hsteps.trans h⟩
theorem xp_runS (F : CallFix p m c cc nL s args Ts own) (hM : xp_Met l y ws rm Pc cls D cl S mc ms) (cw : CallB R s args own index y bytes maxL ret ws rm mc ms n ∧ (Cond.static y).before args s = true) (hp : PreS s H Pc As)
    (hn : As.length = n) (hsize : ls.size = nL) (hW : 2 * (F0 m pc ls rest).monitorRoom + (rest.map fun v => v.category).sum ≤ 8) (hdg : decode cc pc = .ok (.invokestatic index, 3)) (hf : cells + mc ≤ R.cells ∧ slots + ms ≤ R.slots) :
    ∀ T : State, T.heap = H → Stand p l e R s m args below meth c T locs cells slots → ∃ (q : Addr) (V : State) (ce : Cell), Stand p l e R s m args below meth c V locs (cells + mc) (slots + ms) ∧ mp_H D cl S V.heap ∧ V.heap[q]? = some ce ∧ ce.vm = .none ∧ s.vm.findClass cls = some ce.cls ∧ (∀ (z : Nat) (c9 : Cell), H[z]? = some c9 → V.heap[z]? = some c9) ∧ H.size ≤ V.heap.size ∧
      ∀ target, Steps p.tables e below ((V.setTop (F0 m pc ls rest)).pushFrame (.throwing q)) target → Steps p.tables e below (T.setTop (F0 m pc ls (As.reverse ++ rest))) target := by
  obtain ⟨⟨hrc, hrs, hfr, hlo, hws, hcwd, hcode, hini, hy, hlen, hl⟩, hstat⟩ := cw
  obtain ⟨hx, hb, hml, ho, -⟩ := F
  intro T hT X
  obtain ⟨mk, hnamed⟩ := Cond.code_named hcode
  obtain ⟨methM, cM, hmethM, -, -, -, -, -, -, hsigM⟩ := Cond.code_spec hnamed hcode
  have hstatic : methM.isStatic = true := Cond.static_spec hnamed hmethM hstat
  obtain ⟨kP, hkP, -⟩ := className_of_methodNamed hnamed
  have hinitP : kP.init = .initialized := Cond.initialized_spec (findClass_of_methodNamed hnamed) hkP hini
  obtain ⟨vm₁, X₁, hstep₁⟩ := X.invokestatic hx ho hl hnamed hmethM hstatic hkP hinitP hy (g := F0 m pc ls (As.reverse ++ rest)) rfl (argsL := As) (rest := rest) (hn.trans (hlen _ hsigM)) rfl (by rw [hb]; exact hdg)
  obtain ⟨q, V, ce, X', hH, hce, hcv, hcl, hold, hsz, hsteps⟩ := xp_back (W9 := 8) (bytes := bytes) (maxL := maxL) (ret := ret) hM hp.1 hrc hrs hfr hlo hws hcwd (fun a' U hW => word_at hW (Or.inl (by first | rfl | simp [Cond.onTables, Cond.keeps, Cond.steady])) hini)
    X₁ (g := F0 m pc ls rest) (ig := .invokestatic index) (len := 3) (mk := mk) (a := As.toArray) rfl (hsize.trans hml.symm) (by rw [hb]; exact hdg) hW (X₁.named hnamed) (hp.2 _ hT X₁.warmed) hf.1 hf.2
  refine ⟨q, V, ce, X', hH, hce, hcv, hcl, fun z c9 hz => hold z c9 (by show (T.setVm vm₁).heap[z]? = _; rw [show (T.setVm vm₁).heap = H from hT]; exact hz), by rw [← hT]; exact hsz, fun target h => hstep₁ _ fun acts => by rw [doInvoke_state]; exact hsteps.trans h⟩
/-- .. and leaves this method too -/
theorem xp_out {st0 : List Value} (hout : ∀ x ∈ c.exceptionTable.toList, covers x pc = false) (hlocks : meth.locks = false)
    (hr : ∀ T : State, T.heap = s.heap → Stand p l e R s m args below meth c T [] 0 0 → ∃ (q : Addr) (V : State) (ce : Cell), Stand p l e R s m args below meth c V [] (0 + mc) (0 + ms) ∧ mp_H D cl S V.heap ∧ V.heap[q]? = some ce ∧ ce.vm = .none ∧ s.vm.findClass cls = some ce.cls ∧ (∀ (z : Nat) (c9 : Cell), s.heap[z]? = some c9 → V.heap[z]? = some c9) ∧ s.heap.size ≤ V.heap.size ∧
      ∀ target, Steps p.tables e below ((V.setTop (F0 m pc ls rest)).pushFrame (.throwing q)) target → Steps p.tables e below (T.setTop (F0 m pc ls st0)) target) :
    W p l e R s m args below meth c s.heap [] 0 0 (xp_F below cls D cl S mc ms args s) (F0 m pc ls st0) := by
  intro T hT X
  obtain ⟨q, V, ce, X', hH, hce, hcv, hcl, -, -, st⟩ := hr T hT X
  obtain ⟨hwalk, hrun, hend, hW, hsame⟩ := X'.leaveThrown q (g := F0 m pc ls rest) rfl rfl rfl hout hlocks
  rw [Nat.zero_add, Nat.zero_add] at hsame
  exact ⟨V.setFrames (.throwing q :: below), st _ hwalk, .threw q, hrun, hend, q, ce, rfl, hH, hce, hcv, hcl, hW, hsame⟩
/-- words at a method's start, out of the law's start -/
def xw_ok : Cond → Bool
  | .castable .. => true
  | .laysStatic .. => true
  | .declares .. => true
  | w => goodWord w
theorem xw_at {w : Cond} (hK : mp_K D cl tys s) (hH : mp_H D cl S s.heap) (hw : w ∈ lw_tbl) (hok : xw_ok w = true) : w.before args s = true := by
  have hz := hK.1.2.1 w hw
  have gen : goodWord w = true → w.before args s = true := fun h => word_at hK.2 (good_of_word h) hz
  cases w with
  | castable C T => exact va_Nw.use rfl (va_Nw.warmC hK.2 (va_Nw.of rfl hz))
  | declares x => exact va_Nw.use rfl (va_Nw.warmD hK.2 (va_Nw.of rfl hz))
  | laysStatic o n d =>
    obtain ⟨c9, k, i, f, a, cell, hc, hi, hst, ha, hcell, hs, hcls, hlt, hty⟩ := Cond.laysStatic_spec hz
    obtain ⟨k', hi', hek⟩ := State.fieldFound?_setVm hK.2.alike hi
    exact Cond.laysStatic_of (s := s) (by rw [hK.2.alike.findClass]; exact hc) hi' hst (by rw [hek]; exact ha) (hH.2 a cell hcell).2 hs hcls hlt (by rw [hek]; exact hty)
  | _ => exact gen hok
theorem xw_ref {C n d : String} (hK : mp_K D cl tys s) (hH : mp_H D cl S s.heap) (hl : Cond.laysStatic C n d ∈ lw_tbl) (hi : Cond.initialized C ∈ lw_tbl) (h : (Cond.isRef (.static C n d)).before D.2.2 D.2.1 = true) : (Cond.isRef (.static C n d)).before args s = true := by
  have h1 := va_Zqof (A := fun _ => False) (hK.1.2.1 _ hl) (hK.1.2.1 _ hi) h (fun _ _ h => h)
  have h2 := va_Zq.kept (va_Zq.moved hK.2.alike h1) (H1 := s.heap) (fun a ha _ => by
    obtain ⟨c9, hc⟩ : ∃ c9, D.2.1.heap[a]? = some c9 := ⟨_, Array.getElem?_eq_getElem ha⟩
    rw [hc, (hH.2 a c9 hc).2])
  have fin : ∀ v : Value, v.isRef = true → va_Z C n d v (fun _ => False) s s.heap → (Cond.isRef (.static C n d)).before args s = true := by
    intro v hv hz
    obtain ⟨cf, kf, fi, f, a, cell, g1, g2, g3, g4, g5, g6, g7, -⟩ := hz
    have he : (Term.static C n d).eval args s none [] s = some v := by
      simp [Term.eval, State.fieldNamed?, g1, g2, g4, g5, g6, g7]
    simp only [Cond.before, Cond.holds, Cond.value, he]
    cases v <;> simp_all [Value.isRef]
  rcases h2 with h2 | ⟨t, h2⟩
  · exact fin _ rfl h2
  · exact fin _ rfl h2
end XP3
