/-! Worlds as maps. An address has a label (a number, free) and an entry; labels tell cells apart. A contract speaks of ANY map that has the cells it needs: no cells are cut out before a call, none joined behind it. -/
abbrev mp_M : Type := Nat → Option (Nat × va_E)
/-- classes and slots; the law's own start and its arguments: whatever lay in that heap stays as it was, for good -/
abbrev mp_G : Type := va_G × State × Array Value
def mp_H (D : mp_G) (cl : List vw_C) (S : mp_M) (H : Heap) : Prop := (∀ (a t : Nat) (e : va_E), S a = some (t, e) → va_at D.1 cl (a, e) H) ∧ ∀ (a : Nat) (c : Cell), D.2.1.heap[a]? = some c → S a = none ∧ H[a]? = some c
/-- what a method may change: its map's cells and those that it makes -/
def mp_A (S : mp_M) (sz : Nat) : Nat → Prop := fun q => S q ≠ none ∨ sz ≤ q
def mp_I (D : mp_G) (cl : List vw_C) (A : Nat → Prop) (H0 : Heap) (S : mp_M) (H : Heap) (locs : List Loc) : Prop :=
  mp_H D cl S H ∧ (∀ q, S q ≠ none → A q) ∧ va_S A H0 H locs ∧ ∀ q, H0.size ≤ q → A q
def mp_nest : Cond → Bool
  | .fieldLinkNest .. => true
  | .methodLinkNest .. => true
  | .arrayOver (.object _) => true
  | .arrayOver (.array _) => true
  | _ => false
/-- what is known of the law's start -/
def mp_K0 (D : mp_G) (cl : List vw_C) (tys : List (ClassId × FieldType)) : Prop := va_K D.1 cl tys D.2.1 ∧ (∀ w ∈ lw_tbl, w.before D.2.2 D.2.1 = true) ∧ (Jvm.Cond.and given_1 narrow_1).before D.2.2 D.2.1 = true
/-- for all methods alike: the tables are the law's start's, warmed -/
def mp_K (D : mp_G) (cl : List vw_C) (tys : List (ClassId × FieldType)) (U : State) : Prop := mp_K0 D cl tys ∧ D.2.1.WarmedH U.vm
theorem mp_K.moved {D : mp_G} {cl : List vw_C} {tys : List (ClassId × FieldType)} {s U : State} (hW : s.WarmedH U.vm) (h : mp_K D cl tys s) : mp_K D cl tys U := ⟨h.1, State.WarmedH.trans h.2 hW⟩
theorem mp_K.same {D : mp_G} {cl : List vw_C} {tys : List (ClassId × FieldType)} {s U : State} (hv : s.vm = U.vm) (h : mp_K D cl tys s) : mp_K D cl tys U := ⟨h.1, by rw [← hv]; exact h.2⟩
theorem mp_K.va {D : mp_G} {cl : List vw_C} {tys : List (ClassId × FieldType)} {s : State} (h : mp_K D cl tys s) : va_K D.1 cl tys s := va_K.moved h.2.alike h.1.1
theorem mp_K.nw {D : mp_G} {cl : List vw_C} {tys : List (ClassId × FieldType)} {s : State} {w : Cond} (h : mp_K D cl tys s) (hw : w ∈ lw_tbl) (hn : mp_nest w = true) : va_Nw w s := by
  have hz := h.1.2.1 w hw
  cases w with
  | fieldLinkNest => exact va_Nw.warmF h.2 (va_Nw.of rfl hz)
  | methodLinkNest => exact va_Nw.warmM h.2 (va_Nw.of rfl hz)
  | arrayOver ty => cases ty with
    | object C => exact va_AO.moved h.2.alike (va_AO.of hz)
    | array t => exact over_moved h.2.alike hz
    | _ => cases hn
  | _ => cases hn
theorem mp_K.use {D : mp_G} {cl : List vw_C} {tys : List (ClassId × FieldType)} {s : State} {A : Array Value} {w : Cond} (h : mp_K D cl tys s) (hw : w ∈ lw_tbl) (hn : mp_nest w = true) : w.before A s = true := by
  have hz := h.nw hw hn
  cases w with
  | fieldLinkNest => exact va_Nw.use rfl hz
  | methodLinkNest => exact va_Nw.use rfl hz
  | arrayOver ty => cases ty with
    | object C => exact va_AO.use hz
    | array t => exact over_moved (Vm.Alike.refl _) hz
    | _ => cases hn
  | _ => cases hn
/-- a contract's start and what its end says of the world -/
def mp_B0 (D : mp_G) (cl : List vw_C) (tys : List (ClassId × FieldType)) (S : mp_M) (sz : Nat) (U : State) : Prop := U.heap.size = sz ∧ mp_H D cl S U.heap ∧ mp_K D cl tys U
def mp_B1 (D : mp_G) (cl : List vw_C) (S : mp_M) (sz : Nat) (S1 : mp_M) (t : State) : Prop := mp_H D cl S1 t.heap ∧ ∀ q, S1 q ≠ none → mp_A S sz q
theorem mp_in {S : mp_M} {a t : Nat} {e : va_E} (h : S a = some (t, e)) : S a ≠ none := by rw [h]; exact fun q => by cases q
theorem mp_ne {S : mp_M} {a b t u : Nat} {e f : va_E} (ha : S a = some (t, e)) (hb : S b = some (u, f)) (h : t ≠ u) : a ≠ b := by
  intro q
  subst q
  rw [ha] at hb
  cases hb
  exact h rfl
theorem mp_us {α : Type} (S : Nat → α) (a : Nat) (v : α) : va_up S a v a = v := by simp [va_up]
theorem mp_un {α : Type} {S : Nat → α} {a b : Nat} {v : α} (h : b ≠ a) : va_up S a v b = S b := by simp [va_up, h]
theorem mp_keep {S : mp_M} {a b t u : Nat} {e f : va_E} {g : Option (Nat × va_E)} (hb : S b = some (u, f)) (ha : S a = some (t, e)) (h : u ≠ t) : va_up S a g b = some (u, f) := by rw [mp_un (mp_ne hb ha h)]; exact hb
theorem mp_keepN {S : mp_M} {a b u : Nat} {f : va_E} {g : Option (Nat × va_E)} (hb : S b = some (u, f)) (ha : S a = none) : va_up S a g b = some (u, f) := by
  rw [mp_un (fun q => by rw [q, ha] at hb; cases hb)]; exact hb
theorem mp_H.one {D : mp_G} {cl : List vw_C} {S : mp_M} {H : Heap} (h : mp_H D cl S H) {a t : Nat} {e : va_E} (he : S a = some (t, e)) : va_P D.1 cl [(a, e)] H := by
  intro k q hk
  have hz : k < 1 := (List.getElem?_eq_some_iff.mp hk).1
  rw [show k = 0 by omega] at hk
  cases hk
  exact h.1 a t e he
theorem mp_I.lt {D : mp_G} {cl : List vw_C} {A : Nat → Prop} {H0 : Heap} {S : mp_M} {H : Heap} {locs : List Loc} (h : mp_I D cl A H0 S H locs) {a : Nat} (ha : S a ≠ none) : a < H.size := by
  cases hs : S a with
  | none => exact absurd hs ha
  | some x => obtain ⟨t, e⟩ := x; exact (h.1.1 a t e hs).lt
theorem mp_I.fresh {D : mp_G} {cl : List vw_C} {A : Nat → Prop} {H0 : Heap} {S : mp_M} {H : Heap} {locs : List Loc} (h : mp_I D cl A H0 S H locs) : S H.size = none := by
  cases hs : S H.size with
  | none => rfl
  | some x => exact absurd (h.lt (a := H.size) (by rw [hs]; exact fun q => by cases q)) (Nat.lt_irrefl _)
theorem mp_I.put {D : mp_G} {cl : List vw_C} {A : Nat → Prop} {H0 : Heap} {S : mp_M} {H H1 : Heap} {locs : List Loc} (h : mp_I D cl A H0 S H locs) {a t k : Nat} {e0 e : va_E} (ha : S a = some (t, e0)) (he : va_at D.1 cl (a, e) H1) (z : H1.size = H.size) (oq : ∀ q : Nat, q ≠ a → H1[q]? = H[q]?) :
    mp_I D cl A H0 (va_up S a (some (t, e))) H1 (locs ++ [⟨a, k⟩]) := by
  refine ⟨⟨fun b u f hb => ?_, fun b c9 hb9 => ?_⟩, fun q hq => ?_, h.2.2.1.put z oq (h.2.1 a (mp_in ha)), h.2.2.2⟩
  · by_cases hba : b = a
    · subst hba
      rw [mp_us] at hb
      cases hb
      exact he
    · rw [mp_un hba] at hb
      exact (h.1.1 b u f hb).kept (oq b hba)
  · obtain ⟨g1, g2⟩ := h.1.2 b c9 hb9
    have hba : b ≠ a := fun e9 => by rw [e9, ha] at g1; cases g1
    exact ⟨by rw [mp_un hba]; exact g1, by rw [oq b hba]; exact g2⟩
  · by_cases hqa : q = a
    · subst hqa; exact h.2.1 q (mp_in ha)
    · rw [mp_un hqa] at hq; exact h.2.1 q hq
theorem mp_I.push {D : mp_G} {cl : List vw_C} {A : Nat → Prop} {H0 : Heap} {S : mp_M} {H H1 : Heap} {locs : List Loc} (h : mp_I D cl A H0 S H locs) {t : Nat} {e : va_E} (he : va_at D.1 cl (H.size, e) H1) (z : H1.size = H.size + 1) (oq : ∀ q : Nat, q < H.size → H1[q]? = H[q]?) :
    mp_I D cl A H0 (va_up S H.size (some (t, e))) H1 locs := by
  refine ⟨⟨fun b u f hb => ?_, fun b c9 hb9 => ?_⟩, fun q hq => ?_, ⟨Nat.le_trans h.2.2.1.1 (by omega), fun x h1 h2 => (oq x (Nat.lt_of_lt_of_le h1 h.2.2.1.1)).trans (h.2.2.1.2.1 x h1 h2), h.2.2.1.2.2⟩, h.2.2.2⟩
  · by_cases hba : b = H.size
    · subst hba
      rw [mp_us] at hb
      cases hb
      exact he
    · rw [mp_un hba] at hb
      exact (h.1.1 b u f hb).kept (oq b (h.1.1 b u f hb).lt)
  · obtain ⟨g1, g2⟩ := h.1.2 b c9 hb9
    have hlt := (Array.getElem?_eq_some_iff.mp g2).1
    exact ⟨by rw [mp_un (Nat.ne_of_lt hlt)]; exact g1, by rw [oq b hlt]; exact g2⟩
  · by_cases hqa : q = H.size
    · subst hqa; exact h.2.2.2 _ h.2.2.1.1
    · rw [mp_un hqa] at hq; exact h.2.1 q hq
/-- where a method begins -/
theorem mp_I.start {D : mp_G} {cl : List vw_C} {S : mp_M} {H : Heap} (h : mp_H D cl S H) : mp_I D cl (mp_A S H.size) H S H [] := ⟨h, fun _ hq => Or.inl hq, va_S.rf, fun _ hq => Or.inr hq⟩
/-- where it ends -/
theorem mp_I.end {D : mp_G} {cl : List vw_C} {S S1 : mp_M} {s t : State} {H1 : Heap} {locs : List Loc} (h : mp_I D cl (mp_A S s.heap.size) s.heap S1 H1 locs) (ht : t.heap = H1) : mp_B1 D cl S s.heap.size S1 t ∧ va_F (mp_A S s.heap.size) s t :=
  ⟨⟨by rw [ht]; exact h.1, h.2.1⟩, h.2.2.1.F ht⟩
theorem mp_blind {D : mp_G} {cl : List vw_C} {tys : List (ClassId × FieldType)} {S : mp_M} {sz : Nat} {av : List Value} : FrameBlind (va_Pc av (mp_B0 D cl tys S sz)) := by
  intro a U g mk q
  obtain ⟨q0, q1, qP, qK⟩ := q
  exact ⟨q0, q1, qP, mp_K.same (s := U) (U := U.calling g mk a) rfl qK⟩
theorem mp_pre {D : mp_G} {cl : List vw_C} {tys : List (ClassId × FieldType)} {S : mp_M} {A : Nat → Prop} {s : State} {H0 H : Heap} {locs : List Loc} (h : mp_I D cl A H0 S H locs) (hK : mp_K D cl tys s) (av : List Value) : PreS s H (va_Pc av (mp_B0 D cl tys S H.size)) av :=
  ⟨mp_blind, fun U hU hW => ⟨rfl, by rw [hU], by rw [hU]; exact h.1, hK.moved hW⟩⟩
theorem mp_preV {D : mp_G} {cl : List vw_C} {tys : List (ClassId × FieldType)} {S : mp_M} {A : Nat → Prop} {s : State} {H0 H : Heap} {locs : List Loc} (h : mp_I D cl A H0 S H locs) (hK : mp_K D cl tys s) {b t ci : Nat} {fs : List Value} {C : String} {T : u_T} {N : Nat} (hb : S b = some (t, .inr (ci, fs))) (hc : cl[ci]? = some (C, T, N)) (As : List Value) : PreV s H C b (va_Pc (.ref b :: As) (mp_B0 D cl tys S H.size)) As :=
  ⟨mp_blind, va_recv (q := (C, T, N)) hK.va (h.1.one hb) (q0 := 0) hc rfl, fun U hU hW => ⟨rfl, by rw [hU], by rw [hU]; exact h.1, hK.moved hW⟩⟩
section MP1
variable {p : Program} {l : Launch} {e : Env} {R : Room} {s : State} {m : MethodId} {args : Array Value} {below : List Frame} {meth : Method} {c : Code} {H : Heap} {locs : List Loc} {cells slots : Nat} {Q : State → Prop}
variable {cc : ByteArray} {pc : Nat} {ls : Array Slot} {rest st0 : List Value} {D : mp_G} {cl : List vw_C} {A : Nat → Prop} {a t : Nat} {tys : List (ClassId × FieldType)} {S : mp_M} {H0 : Heap}
theorem mp_get (hexec : p.tables.exec = Jvm.exec) (hb : c.code = cc) {own ref C : String} {T : u_T} {N ci index : Nat} {Ts : List Cond} (hts : ∀ w ∈ Ts, w.before args s = true) (hin : ∀ w ∈ u_ws C T N, w ∈ Ts) (hown : s.vm.findClass own = some m.cls) (hK : va_K D.1 cl tys s) (hI : mp_I D cl A H0 S H locs) {fs : List Value} (he : S a = some (t, .inr (ci, fs))) (hc : cl[ci]? = some (C, T, N)) (k : Nat) (hk : k < N) (hlink : (Cond.fieldLink own index ref (T k).2.1 (T k).2.2.1).before args s = true) (hsame : ∀ x, s.fieldFound? (T k).1 (T k).2.1 (T k).2.2.1 = some x → s.fieldFound? ref (T k).2.1 (T k).2.2.1 = some x) {v : Value} (hv : fs[k]? = some v) (hdg : decode cc pc = .ok (.getfield index, 3))
    (kk : W p l e R s m args below meth c H locs cells slots Q (F0 m (pc + 3) ls (v :: rest))) : W p l e R s m args below meth c H locs cells slots Q (F0 m pc ls (.ref a :: rest)) :=
  va_get hexec hb hts hin hown hK (hI.1.one he) 0 rfl hc k hk hlink hsame hv hdg kk
theorem mp_getN (hexec : p.tables.exec = Jvm.exec) (hb : c.code = cc) {own ref C host : String} {T : u_T} {N ci index : Nat} {Ts : List Cond} (hts : ∀ w ∈ Ts, w.before args s = true) (hin : ∀ w ∈ u_ws C T N, w ∈ Ts) (hown : s.vm.findClass own = some m.cls) (hK : va_K D.1 cl tys s) (hI : mp_I D cl A H0 S H locs) {fs : List Value} (he : S a = some (t, .inr (ci, fs))) (hc : cl[ci]? = some (C, T, N)) (k : Nat) (hk : k < N) (hlink : (Cond.fieldLinkNest own index ref (T k).2.1 (T k).2.2.1 host).before args s = true) (hsame : ∀ x, s.fieldFound? (T k).1 (T k).2.1 (T k).2.2.1 = some x → s.fieldFound? ref (T k).2.1 (T k).2.2.1 = some x) {v : Value} (hv : fs[k]? = some v) (hdg : decode cc pc = .ok (.getfield index, 3))
    (kk : W p l e R s m args below meth c H locs cells slots Q (F0 m (pc + 3) ls (v :: rest))) : W p l e R s m args below meth c H locs cells slots Q (F0 m pc ls (.ref a :: rest)) :=
  va_getN hexec hb hts hin hown hK (hI.1.one he) 0 rfl hc k hk hlink hsame hv hdg kk
theorem mp_put (hexec : p.tables.exec = Jvm.exec) (hb : c.code = cc) {own ref C : String} {T : u_T} {N ci index : Nat} {Ts : List Cond} (hts : ∀ w ∈ Ts, w.before args s = true) (hin : ∀ w ∈ u_ws C T N, w ∈ Ts) (ty0 : Nat → FieldType) (hty : ∀ k, k < N → parseFieldDescriptor (T k).2.2.1 = some (ty0 k)) (hnm : ∀ a, a < N → ∀ b, b < N → a ≠ b → (T a).2.1 ≠ (T b).2.1) (hown : s.vm.findClass own = some m.cls) (hK : va_K D.1 cl tys s) (hI : mp_I D cl A H0 S H locs) {fs : List Value} (he : S a = some (t, .inr (ci, fs))) (hc : cl[ci]? = some (C, T, N)) (k : Nat) (hk : k < N) (hlink : (Cond.fieldLink own index ref (T k).2.1 (T k).2.2.1).before args s = true) (hsame : ∀ x, s.fieldFound? (T k).1 (T k).2.1 (T k).2.2.1 = some x → s.fieldFound? ref (T k).2.1 (T k).2.2.1 = some x) (hfin : (T k).2.2.2 = false) {ty : FieldType} {v : Value} (hd : parseFieldDescriptor (T k).2.2.1 = some ty) (hn : narrow ty v = v) (hfit : fits ty v = true) (hl : k < fs.length)
    (hdg : decode cc pc = .ok (.putfield index, 3)) (kk : ∀ (S1 : mp_M) (H1 : Heap) (locs1 : List Loc), S1 = va_up S a (some (t, .inr (ci, fs.set k v))) → mp_I D cl A H0 S1 H1 locs1 → W p l e R s m args below meth c H1 locs1 cells slots Q (F0 m (pc + 3) ls rest)) : W p l e R s m args below meth c H locs cells slots Q (F0 m pc ls (v :: .ref a :: rest)) := by
  have hap := va_apart (own := own) hts hin ty0 hty hnm hK hc
  obtain ⟨r, h1, cell, q1, q2, q3, q4⟩ := hI.1.1 a t _ he
  have hr : r = (C, T, N) := Option.some.inj (h1.symm.trans hc)
  subst hr
  obtain ⟨hS, hfc, kC, hkC, hkind⟩ := hK.1 ci _ hc
  obtain ⟨cf, kf, fi, f, hi, hsl⟩ := hS k hk
  have hlay := hts _ (hin _ (u_in_lay hk))
  unfold u_lay at hlay
  rw [if_neg (by rw [hfin]; decide)] at hlay
  have hst := (u_facts hfc hkC (u_lays hts hin hk) hi).1
  have h6 := u_store hfc hkC hkind hlay hi hd hn hfit
  refine W.putK hexec hb (f := f) ⟨hown, hlink, ⟨_, _, _, hsame _ hi⟩, hst⟩ (by rw [q2]; exact h6) q1 q3 (by rw [hsl]; exact k2_hasslot (q4 k hk)) rfl rfl hdg fun H' e1 e2 e3 => ?_
  rw [hsl] at e1 ⊢
  exact kk _ H' _ rfl (hI.put he ⟨_, hc, t_OB.to (V := updV (vp_V fs) k v) ⟨_, e1, q2, q3, t_set q4 hap hk v⟩ (fun j _ => vp_updV_set hl v j)⟩ e2 e3)
theorem mp_putF (hexec : p.tables.exec = Jvm.exec) (hb : c.code = cc) {own ref C : String} {T : u_T} {N ci index : Nat} {Ts : List Cond} (hts : ∀ w ∈ Ts, w.before args s = true) (hin : ∀ w ∈ u_ws C T N, w ∈ Ts) (ty0 : Nat → FieldType) (hty : ∀ k, k < N → parseFieldDescriptor (T k).2.2.1 = some (ty0 k)) (hnm : ∀ a, a < N → ∀ b, b < N → a ≠ b → (T a).2.1 ≠ (T b).2.1) (hown : s.vm.findClass own = some m.cls) (hK : va_K D.1 cl tys s) (hI : mp_I D cl A H0 S H locs) {fs : List Value} (he : S a = some (t, .inr (ci, fs))) (hc : cl[ci]? = some (C, T, N)) (k : Nat) (hk : k < N) (hlink : (Cond.fieldLink own index ref (T k).2.1 (T k).2.2.1).before args s = true) (hsame : ∀ x, s.fieldFound? (T k).1 (T k).2.1 (T k).2.2.1 = some x → s.fieldFound? ref (T k).2.1 (T k).2.2.1 = some x) (hfin : (T k).2.2.2 = true) (hin2 : meth.name = "<init>") (hdecl : (T k).1 = own) {ty : FieldType} {v : Value} (hd : parseFieldDescriptor (T k).2.2.1 = some ty) (hn : narrow ty v = v) (hfit : fits ty v = true) (hl : k < fs.length)
    (hdg : decode cc pc = .ok (.putfield index, 3)) (kk : ∀ (S1 : mp_M) (H1 : Heap) (locs1 : List Loc), S1 = va_up S a (some (t, .inr (ci, fs.set k v))) → mp_I D cl A H0 S1 H1 locs1 → W p l e R s m args below meth c H1 locs1 cells slots Q (F0 m (pc + 3) ls rest)) : W p l e R s m args below meth c H locs cells slots Q (F0 m pc ls (v :: .ref a :: rest)) := by
  have hap := va_apart (own := own) hts hin ty0 hty hnm hK hc
  obtain ⟨r, h1, cell, q1, q2, q3, q4⟩ := hI.1.1 a t _ he
  have hr : r = (C, T, N) := Option.some.inj (h1.symm.trans hc)
  subst hr
  obtain ⟨hS, hfc, kC, hkC, hkind⟩ := hK.1 ci _ hc
  obtain ⟨cf, kf, fi, f, hi, hsl⟩ := hS k hk
  have hlay := hts _ (hin _ (u_in_lay hk))
  unfold u_lay at hlay
  rw [if_pos hfin] at hlay
  have hst := (u_facts hfc hkC (u_lays hts hin hk) hi).1
  have hcf : m.cls = cf := by
    obtain ⟨_, _, c', _, _, _, -, -, hf', -, -, -, hown2, -⟩ := Cond.laysFinal_spec hlay
    have e1 : c' = cf := by have := hi.symm.trans hf'; simp at this; exact this.1.symm
    rw [hdecl] at hown2
    rw [← e1]; exact Option.some.inj (hown.symm.trans hown2)
  have h6 := u_fits hfc hkC hkind (Or.inr hlay) hi hd hn hfit
  refine W.putFinK hexec hb hown hlink (hsame _ hi) hst hcf hin2 (by rw [q2]; exact h6) q1 q3 (by rw [hsl]; exact k2_hasslot (q4 k hk)) rfl rfl hdg fun H' e1 e2 e3 => ?_
  rw [hsl] at e1 ⊢
  exact kk _ H' _ rfl (hI.put he ⟨_, hc, t_OB.to (V := updV (vp_V fs) k v) ⟨_, e1, q2, q3, t_set q4 hap hk v⟩ (fun j _ => vp_updV_set hl v j)⟩ e2 e3)
theorem mp_putN (hexec : p.tables.exec = Jvm.exec) (hb : c.code = cc) {own ref C host : String} {T : u_T} {N ci index : Nat} {Ts : List Cond} (hts : ∀ w ∈ Ts, w.before args s = true) (hin : ∀ w ∈ u_ws C T N, w ∈ Ts) (ty0 : Nat → FieldType) (hty : ∀ k, k < N → parseFieldDescriptor (T k).2.2.1 = some (ty0 k)) (hnm : ∀ a, a < N → ∀ b, b < N → a ≠ b → (T a).2.1 ≠ (T b).2.1) (hown : s.vm.findClass own = some m.cls) (hK : va_K D.1 cl tys s) (hI : mp_I D cl A H0 S H locs) {fs : List Value} (he : S a = some (t, .inr (ci, fs))) (hc : cl[ci]? = some (C, T, N)) (k : Nat) (hk : k < N) (hlink : (Cond.fieldLinkNest own index ref (T k).2.1 (T k).2.2.1 host).before args s = true) (hsame : ∀ x, s.fieldFound? (T k).1 (T k).2.1 (T k).2.2.1 = some x → s.fieldFound? ref (T k).2.1 (T k).2.2.1 = some x) (hfin : (T k).2.2.2 = false) {ty : FieldType} {v : Value} (hd : parseFieldDescriptor (T k).2.2.1 = some ty) (hn : narrow ty v = v) (hfit : fits ty v = true) (hl : k < fs.length)
    (hdg : decode cc pc = .ok (.putfield index, 3)) (kk : ∀ (S1 : mp_M) (H1 : Heap) (locs1 : List Loc), S1 = va_up S a (some (t, .inr (ci, fs.set k v))) → mp_I D cl A H0 S1 H1 locs1 → W p l e R s m args below meth c H1 locs1 cells slots Q (F0 m (pc + 3) ls rest)) : W p l e R s m args below meth c H locs cells slots Q (F0 m pc ls (v :: .ref a :: rest)) := by
  have hap := va_apart (own := own) hts hin ty0 hty hnm hK hc
  obtain ⟨r, h1, cell, q1, q2, q3, q4⟩ := hI.1.1 a t _ he
  have hr : r = (C, T, N) := Option.some.inj (h1.symm.trans hc)
  subst hr
  obtain ⟨hS, hfc, kC, hkC, hkind⟩ := hK.1 ci _ hc
  obtain ⟨cf, kf, fi, f, hi, hsl⟩ := hS k hk
  have hlay := hts _ (hin _ (u_in_lay hk))
  unfold u_lay at hlay
  rw [if_neg (by rw [hfin]; decide)] at hlay
  have hst := (u_facts hfc hkC (u_lays hts hin hk) hi).1
  have h6 := u_store hfc hkC hkind hlay hi hd hn hfit
  refine va_WputK hexec hb (f := f) hown hlink (hsame _ hi) hst (by rw [q2]; exact h6) q1 q3 (by rw [hsl]; exact k2_hasslot (q4 k hk)) rfl rfl hdg fun H' e1 e2 e3 => ?_
  rw [hsl] at e1 ⊢
  exact kk _ H' _ rfl (hI.put he ⟨_, hc, t_OB.to (V := updV (vp_V fs) k v) ⟨_, e1, q2, q3, t_set q4 hap hk v⟩ (fun j _ => vp_updV_set hl v j)⟩ e2 e3)
theorem mp_iald (hexec : p.tables.exec = Jvm.exec) (hb : c.code = cc) (hK : va_K D.1 cl tys s) (hI : mp_I D cl A H0 S H locs) (t0 : Nat) {cA : ClassId} {n : Nat} {f : Nat → Int32} (ha : S a = some (t, .inl (cA, n, .inl f))) (ht : tys[t0]? = some (cA, .int)) {i : Int32} (hin : vp_in i n) (hdg : decode cc pc = .ok (.iaload, 1))
    (kk : W p l e R s m args below meth c H locs cells slots Q (F0 m (pc + 1) ls (.int (f i.toNatClampNeg) :: rest))) : W p l e R s m args below meth c H locs cells slots Q (F0 m pc ls (.int i :: .ref a :: rest)) :=
  va_iald hexec hb hK (hI.1.one ha) 0 t0 rfl ht hin hdg kk
theorem mp_lald (hexec : p.tables.exec = Jvm.exec) (hb : c.code = cc) (hK : va_K D.1 cl tys s) (hI : mp_I D cl A H0 S H locs) (t0 : Nat) {cA : ClassId} {n : Nat} {f : Nat → Int64} (ha : S a = some (t, .inl (cA, n, .inr (.inl f)))) (ht : tys[t0]? = some (cA, .long)) {i : Int32} (hin : vp_in i n) (hdg : decode cc pc = .ok (.laload, 1))
    (kk : W p l e R s m args below meth c H locs cells slots Q (F0 m (pc + 1) ls (.long (f i.toNatClampNeg) :: rest))) : W p l e R s m args below meth c H locs cells slots Q (F0 m pc ls (.int i :: .ref a :: rest)) :=
  va_lald hexec hb hK (hI.1.one ha) 0 t0 rfl ht hin hdg kk
theorem mp_alen (hexec : p.tables.exec = Jvm.exec) (hb : c.code = cc) (hK : va_K D.1 cl tys s) (hI : mp_I D cl A H0 S H locs) (t0 : Nat) {cA : ClassId} {x : vp_A} (ha : S a = some (t, .inl (cA, x))) {ty : FieldType} (ht : tys[t0]? = some (cA, ty)) {v : Int32} (hv : Int32.ofNat x.1 = v) (hdg : decode cc pc = .ok (.arraylength, 1))
    (kk : W p l e R s m args below meth c H locs cells slots Q (F0 m (pc + 1) ls (.int v :: rest))) : W p l e R s m args below meth c H locs cells slots Q (F0 m pc ls (.ref a :: rest)) :=
  va_alen hexec hb hK (hI.1.one ha) 0 t0 rfl ht hv hdg kk
theorem mp_aldq (hexec : p.tables.exec = Jvm.exec) (hb : c.code = cc) (hK : va_K D.1 cl tys s) (hI : mp_I D cl A H0 S H locs) (t0 : Nat) {cA : ClassId} {C : String} {n : Nat} {f : Nat → Option Nat} (ha : S a = some (t, .inl (cA, n, .inr (.inr (.inr (.inr f)))))) (ht : tys[t0]? = some (cA, .object C)) {i : Int32} (hin : vp_in i n) {b : Nat} (hf : f i.toNatClampNeg = some b) (hdg : decode cc pc = .ok (.aaload, 1))
    (kk : W p l e R s m args below meth c H locs cells slots Q (F0 m (pc + 1) ls (.ref b :: rest))) : W p l e R s m args below meth c H locs cells slots Q (F0 m pc ls (.int i :: .ref a :: rest)) :=
  va_aldq hexec hb hK (hI.1.one ha) 0 t0 rfl ht hin hdg (by rw [hf]; exact kk)
/-- a row of an array of arrays of ints -/
theorem mp_ald2 (hexec : p.tables.exec = Jvm.exec) (hb : c.code = cc) (hK : va_K D.1 cl tys s) (hI : mp_I D cl A H0 S H locs) (t0 : Nat) {cA : ClassId} {t1 : FieldType} {n : Nat} {f : Nat → Option Nat} (ha : S a = some (t, .inl (cA, n, .inr (.inr (.inr (.inr f)))))) (ht : tys[t0]? = some (cA, .array t1)) {i : Int32} (hin : vp_in i n) {b : Nat} (hf : f i.toNatClampNeg = some b) (hdg : decode cc pc = .ok (.aaload, 1))
    (kk : W p l e R s m args below meth c H locs cells slots Q (F0 m (pc + 1) ls (.ref b :: rest))) : W p l e R s m args below meth c H locs cells slots Q (F0 m pc ls (.int i :: .ref a :: rest)) := by
  have hlt : i.toNatClampNeg < n := Nat.not_le.mp fun q => hin (Or.inr q)
  exact W.aald (v := .ref b) (ty := .array t1) hexec hb (hI.1.1 a t _ ha) ((hK.2 t0 _ ht).1 n (fun j => va_rf (f j))) rfl (fun q => by cases q) (by show ¬ (i < 0 ∨ (arrV _ _ _).slots.size ≤ _); rw [arrV_size]; exact hin) (by show (arrV _ _ _).slots[_]? = _; rw [arrV_read _ _ hlt, hf]; rfl) rfl rfl hdg kk
theorem mp_iast (hexec : p.tables.exec = Jvm.exec) (hb : c.code = cc) (hK : va_K D.1 cl tys s) (hI : mp_I D cl A H0 S H locs) (t0 : Nat) {cA : ClassId} {n : Nat} {f : Nat → Int32} (ha : S a = some (t, .inl (cA, n, .inl f))) (ht : tys[t0]? = some (cA, .int)) {i x : Int32} (hin : vp_in i n) (hdg : decode cc pc = .ok (.iastore, 1))
    (kk : ∀ (S1 : mp_M) (H1 : Heap) (locs1 : List Loc), S1 = va_up S a (some (t, .inl (cA, n, .inl (upd f i.toNatClampNeg x)))) → mp_I D cl A H0 S1 H1 locs1 → W p l e R s m args below meth c H1 locs1 cells slots Q (F0 m (pc + 1) ls rest)) : W p l e R s m args below meth c H locs cells slots Q (F0 m pc ls (.int x :: .int i :: .ref a :: rest)) := by
  refine W.iast hexec hb (hI.1.1 a t _ ha) ((hK.2 t0 _ ht).1 n (fun j => .int (f j))) (fun q => by cases q) (by show ¬ (i < 0 ∨ (arrV _ _ _).slots.size ≤ _); rw [arrV_size]; exact hin) rfl rfl hdg fun H1 e z oq => ?_
  refine kk _ H1 _ rfl (hI.put ha ?_ z oq)
  show H1[a]? = some (vp_cell _ _)
  rw [e]
  rw [vp_cell_i, vp_cell_i, arrV_store]
  congr 2
  funext q
  by_cases hq : q = i.toNatClampNeg
  · subst hq
    simp [updV, upd]
  · simp [updV, upd, hq]
theorem mp_last (hexec : p.tables.exec = Jvm.exec) (hb : c.code = cc) (hK : va_K D.1 cl tys s) (hI : mp_I D cl A H0 S H locs) (t0 : Nat) {cA : ClassId} {n : Nat} {f : Nat → Int64} (ha : S a = some (t, .inl (cA, n, .inr (.inl f)))) (ht : tys[t0]? = some (cA, .long)) {i : Int32} {x : Int64} (hin : vp_in i n) (hdg : decode cc pc = .ok (.lastore, 1))
    (kk : ∀ (S1 : mp_M) (H1 : Heap) (locs1 : List Loc), S1 = va_up S a (some (t, .inl (cA, n, .inr (.inl (vp_updL f i.toNatClampNeg x))))) → mp_I D cl A H0 S1 H1 locs1 → W p l e R s m args below meth c H1 locs1 cells slots Q (F0 m (pc + 1) ls rest)) : W p l e R s m args below meth c H locs cells slots Q (F0 m pc ls (.long x :: .int i :: .ref a :: rest)) := by
  refine W.last hexec hb (hI.1.1 a t _ ha) ((hK.2 t0 _ ht).1 n (fun j => .long (f j))) (fun q => by cases q) (by show ¬ (i < 0 ∨ (arrV _ _ _).slots.size ≤ _); rw [arrV_size]; exact hin) rfl rfl hdg fun H1 e z oq => ?_
  refine kk _ H1 _ rfl (hI.put ha ?_ z oq)
  show H1[a]? = some (vp_cell _ _)
  rw [e]
  rw [vp_cell_l, vp_cell_l, arrV_store]
  congr 2
  funext q
  by_cases hq : q = i.toNatClampNeg
  · subst hq
    simp [updV, vp_updL]
  · simp [updV, vp_updL, hq]
theorem mp_astq (hexec : p.tables.exec = Jvm.exec) (hb : c.code = cc) (hK : va_K D.1 cl tys s) (hI : mp_I D cl A H0 S H locs) (t0 : Nat) {cA : ClassId} (ci : Nat) {r : vw_C} {n v tv : Nat} {vs : List Value} {f : Nat → Option Nat} (ha : S a = some (t, .inl (cA, n, .inr (.inr (.inr (.inr f)))))) (ht : tys[t0]? = some (cA, .object r.1)) (hv : S v = some (tv, .inr (ci, vs))) (hc : cl[ci]? = some r) {i : Int32} (hin : vp_in i n) (hdg : decode cc pc = .ok (.aastore, 1))
    (kk : ∀ (S1 : mp_M) (H1 : Heap) (locs1 : List Loc), S1 = va_up S a (some (t, .inl (cA, n, .inr (.inr (.inr (.inr (va_up f i.toNatClampNeg (some v)))))))) → mp_I D cl A H0 S1 H1 locs1 → W p l e R s m args below meth c H1 locs1 cells slots Q (F0 m (pc + 1) ls rest)) : W p l e R s m args below meth c H locs cells slots Q (F0 m pc ls (.ref v :: .int i :: .ref a :: rest)) := by
  have hlt : i.toNatClampNeg < n := Nat.not_le.mp fun q => hin (Or.inr q)
  have h0 : ¬ i < 0 := fun q => hin (Or.inl q)
  obtain ⟨r', hr', cellV, g1, g2, g3, -⟩ := hI.1.1 v tv _ hv
  have hcls := (hK.1 ci r hc).2
  obtain ⟨kA, comp, k1, k2, k3, -⟩ := (hK.2 t0 _ ht).2
  have hcomp : comp = D.1.1 ci := Option.some.inj (k3.symm.trans hcls.1)
  subst hcomp
  obtain ⟨kC, hkC, -⟩ := hcls.2
  refine W.aast hexec hb (hI.1.1 a t _ ha) (fun q h => by cases h) (fun h => by cases h) k1 k2 rfl hkC ⟨h0, by show _ < (arrV _ _ _).slots.size; rw [arrV_size]; exact hlt⟩ g1 (fun q h => by rw [g3] at h; cases h) (by rw [g2]; exact hkC) (by rw [g2]; exact va_assign hcls) rfl rfl hdg fun H1 e z oq => ?_
  refine kk _ H1 _ rfl (hI.put ha ?_ z oq)
  show H1[a]? = some (vp_cell _ _)
  rw [e]
  rw [vp_cell_q, vp_cell_q, arrV_store]
  congr 2
  funext q
  by_cases hq : q = i.toNatClampNeg
  · subst hq
    simp [updV, va_up, va_rf]
  · simp [updV, va_up, hq]
theorem mp_newi (hexec : p.tables.exec = Jvm.exec) (hb : c.code = cc) (harr : (Cond.arrayClass (newarray.typeOf .int)).before args s = true) (hK : va_K D.1 cl tys s) (hI : mp_I D cl A H0 S H locs) (t0 tg : Nat) {cA : ClassId} (ht : tys[t0]? = some (cA, .int))
    {n : Int32} {N' : Nat} (hn : ¬ n < 0) (hN : n.toNatClampNeg = N') (hbytes : N' * componentBytes (newarray.typeOf .int) ≤ 536870912) (hcells : cells + 1 ≤ R.cells) (hslots : slots + N' ≤ R.slots) (hdg : decode cc pc = .ok (.newarray .int, 2))
    (kk : ∀ (S1 : mp_M) (H1 : Heap), S H.size = none → S1 = va_up S H.size (some (tg, .inl (cA, N', .inl (fun _ => 0)))) → mp_I D cl A H0 S1 H1 locs →
      W p l e R s m args below meth c H1 locs (cells + 1) (slots + N') Q (F0 m (pc + 2) ls (.ref H.size :: rest))) : W p l e R s m args below meth c H locs cells slots Q (F0 m pc ls (.int n :: rest)) := by
  refine va_newaK (atype := .int) hexec hb harr rfl hdg rfl hn hN hbytes hcells hslots rfl fun H1 cB e1 z1 o1 hAr hNm => ?_
  have hc : cB = cA := Option.some.inj (hNm.symm.trans (hK.2 t0 _ ht).2)
  subst hc
  exact kk _ H1 hI.fresh rfl (hI.push (by show H1[H.size]? = some (vp_cell _ _); rw [e1, vp_cell_i]; rfl) z1 o1)
theorem mp_newl (hexec : p.tables.exec = Jvm.exec) (hb : c.code = cc) (harr : (Cond.arrayClass (newarray.typeOf .long)).before args s = true) (hK : va_K D.1 cl tys s) (hI : mp_I D cl A H0 S H locs) (t0 tg : Nat) {cA : ClassId} (ht : tys[t0]? = some (cA, .long))
    {n : Int32} {N' : Nat} (hn : ¬ n < 0) (hN : n.toNatClampNeg = N') (hbytes : N' * componentBytes (newarray.typeOf .long) ≤ 536870912) (hcells : cells + 1 ≤ R.cells) (hslots : slots + N' ≤ R.slots) (hdg : decode cc pc = .ok (.newarray .long, 2))
    (kk : ∀ (S1 : mp_M) (H1 : Heap), S H.size = none → S1 = va_up S H.size (some (tg, .inl (cA, N', .inr (.inl (fun _ => 0))))) → mp_I D cl A H0 S1 H1 locs →
      W p l e R s m args below meth c H1 locs (cells + 1) (slots + N') Q (F0 m (pc + 2) ls (.ref H.size :: rest))) : W p l e R s m args below meth c H locs cells slots Q (F0 m pc ls (.int n :: rest)) := by
  refine va_newaK (atype := .long) hexec hb harr rfl hdg rfl hn hN hbytes hcells hslots rfl fun H1 cB e1 z1 o1 hAr hNm => ?_
  have hc : cB = cA := Option.some.inj (hNm.symm.trans (hK.2 t0 _ ht).2)
  subst hc
  exact kk _ H1 hI.fresh rfl (hI.push (by show H1[H.size]? = some (vp_cell _ _); rw [e1, vp_cell_l]; rfl) z1 o1)
theorem mp_newq (hexec : p.tables.exec = Jvm.exec) (hb : c.code = cc) {own C : String} {index : Nat} (hown : s.vm.findClass own = some m.cls) (hclink : (Cond.classLink own index C).before args s = true) (hover : va_AO C s) (hK : va_K D.1 cl tys s) (hI : mp_I D cl A H0 S H locs) (t0 tg : Nat) {cA : ClassId} (ht : tys[t0]? = some (cA, .object C))
    {n : Int32} {N' : Nat} (hn : ¬ n < 0) (hN : n.toNatClampNeg = N') (hbytes : N' * 4 ≤ 536870912) (hcells : cells + 1 ≤ R.cells) (hslots : slots + N' ≤ R.slots) (hdg : decode cc pc = .ok (.anewarray index, 3))
    (kk : ∀ (S1 : mp_M) (H1 : Heap), S H.size = none → S1 = va_up S H.size (some (tg, .inl (cA, N', .inr (.inr (.inr (.inr (fun _ => none))))))) → mp_I D cl A H0 S1 H1 locs →
      W p l e R s m args below meth c H1 locs (cells + 1) (slots + N') Q (F0 m (pc + 3) ls (.ref H.size :: rest))) : W p l e R s m args below meth c H locs cells slots Q (F0 m pc ls (.int n :: rest)) := by
  subst hN
  refine W.anew hexec hb hown hclink (va_AO.use hover) rfl hdg rfl hn hbytes hcells hslots fun cB kA comp f1 f2 f3 f4 => ?_
  obtain ⟨kA', comp', g1, g2, g3, g4⟩ := (hK.2 t0 _ ht).2
  have hc : cB = cA := Option.some.inj (f1.symm.trans g4)
  subst hc
  generalize hH1 : H.push ({ cls := cB, slots := Array.replicate n.toNatClampNeg .null, vm := .none } : Cell) = H1
  have z1 : H1.size = H.size + 1 := by rw [← hH1, Array.size_push]
  have e1 : H1[H.size]? = some (arrV cB n.toNatClampNeg (fun _ => .null)) := by rw [← hH1, Array.getElem?_push_size, ← arrV_new]
  have o1 : ∀ q : Nat, q < H.size → H1[q]? = H[q]? := fun q hq => by rw [← hH1, Array.getElem?_push, if_neg (Nat.ne_of_lt hq)]
  exact kk _ H1 hI.fresh rfl (hI.push (by show H1[H.size]? = some (vp_cell _ _); rw [e1, vp_cell_q]; rfl) z1 o1)
theorem mp_new {c0 : Code} (hexec : p.tables.exec = Jvm.exec) (hb : c0.code = cc) {own C : String} {T : u_T} {N ci index : Nat} {Ts : List Cond} (hts : ∀ w ∈ Ts, w.before args s = true) (hin : ∀ w ∈ u_ws C T N, w ∈ Ts) (ty : Nat → FieldType) (hty : ∀ k, k < N → parseFieldDescriptor (T k).2.2.1 = some (ty k)) (hown : s.vm.findClass own = some m.cls) (hcl : (Cond.classLink own index C).before args s = true) (hinst : (Cond.instantiable C N).before args s = true) (hini : (Cond.initialized C).before args s = true)
    (hK : va_K D.1 cl tys s) (hI : mp_I D cl A H0 S H locs) (tg : Nat) (hc : cl[ci]? = some (C, T, N)) {fs : List Value} (hfs : ∀ j, j < N → defaultValue (ty j) = vp_V fs j) (hcells : cells + 1 ≤ R.cells) (hslots : slots + N ≤ R.slots) (hdg : decode cc pc = .ok (.new index, 3))
    (kk : ∀ (S1 : mp_M) (H1 : Heap), S H.size = none → S1 = va_up S H.size (some (tg, .inr (ci, fs))) → mp_I D cl A H0 S1 H1 locs →
      W p l e R s m args below meth c0 H1 locs (cells + 1) (slots + N) Q (F0 m (pc + 3) ls (.ref H.size :: rest))) : W p l e R s m args below meth c0 H locs cells slots Q (F0 m pc ls rest) := by
  have hKn := hK.1 ci _ hc
  refine W.newcK hexec hb hown hcl hinst hini rfl hdg hcells hslots hKn.2.1 rfl fun H1 kC hkC e1 z1 o1 => ?_
  exact kk _ H1 hI.fresh rfl (hI.push ⟨_, hc, (u_born ty hts hin hKn hkC e1 hty).to hfs⟩ z1 o1)
/-- behind a call: the world that the callee's contract tells -/
theorem mp_back {S1 : mp_M} {u : State} {H1 : Heap} {locs1 : List Loc} (hI : mp_I D cl A H0 S H locs) (hB : mp_B1 D cl S H.size S1 u) (ht : u.heap = H1) (hS : va_S A H0 H1 locs1) : mp_I D cl A H0 S1 H1 locs1 :=
  ⟨by rw [← ht]; exact hB.1, fun q hq => (hB.2 q hq).elim (hI.2.1 q) (fun h => hI.2.2.2 q (Nat.le_trans hI.2.2.1.1 h)), hS, hI.2.2.2⟩
theorem mp_free (hI : mp_I D cl A H0 S H locs) : ∀ q, mp_A S H.size q → A q := fun q hq => hq.elim (hI.2.1 q) (fun h => hI.2.2.2 q (Nat.le_trans hI.2.2.1.1 h))
theorem mp_calli {av : Array Value} {mc ms : Nat} {post : Int32 → mp_M → Prop} (hI : mp_I D cl A H0 S H locs) (hr : va_Run p l e R s m args below meth c H locs cells slots mc ms (F0 m pc ls st0) rest (va_Qi post (mp_B1 D cl S H.size) (mp_A S H.size) av) (mp_A S H.size))
    (kk : ∀ (r : Int32) (S1 : mp_M) (H1 : Heap) (locs1 : List Loc), post r S1 → mp_I D cl A H0 S1 H1 locs1 → W p l e R s m args below meth c H1 locs1 (cells + mc) (slots + ms) Q (F0 m (pc + 3) ls (.int r :: rest))) : W p l e R s m args below meth c H locs cells slots Q (F0 m pc ls st0) :=
  va_calli hr hI.2.2.1 (fun q _ h => mp_free hI q h) (mp_free hI) fun r S1 u H1 locs1 ht _ hp hB _ _ hS => kk r S1 H1 locs1 hp (mp_back hI hB ht hS)
theorem mp_calll {av : Array Value} {mc ms : Nat} {post : Int64 → mp_M → Prop} (hI : mp_I D cl A H0 S H locs) (hr : va_Run p l e R s m args below meth c H locs cells slots mc ms (F0 m pc ls st0) rest (va_Ql post (mp_B1 D cl S H.size) (mp_A S H.size) av) (mp_A S H.size))
    (kk : ∀ (r : Int64) (S1 : mp_M) (H1 : Heap) (locs1 : List Loc), post r S1 → mp_I D cl A H0 S1 H1 locs1 → W p l e R s m args below meth c H1 locs1 (cells + mc) (slots + ms) Q (F0 m (pc + 3) ls (.long r :: rest))) : W p l e R s m args below meth c H locs cells slots Q (F0 m pc ls st0) :=
  va_calll hr hI.2.2.1 (fun q _ h => mp_free hI q h) (mp_free hI) fun r S1 u H1 locs1 ht _ hp hB _ _ hS => kk r S1 H1 locs1 hp (mp_back hI hB ht hS)
theorem mp_callv {av : Array Value} {mc ms : Nat} {post : mp_M → Prop} (hI : mp_I D cl A H0 S H locs) (hr : va_Run p l e R s m args below meth c H locs cells slots mc ms (F0 m pc ls st0) rest (va_Qv post (mp_B1 D cl S H.size) (mp_A S H.size) av) (mp_A S H.size))
    (kk : ∀ (S1 : mp_M) (H1 : Heap) (locs1 : List Loc), post S1 → mp_I D cl A H0 S1 H1 locs1 → W p l e R s m args below meth c H1 locs1 (cells + mc) (slots + ms) Q (F0 m (pc + 3) ls rest)) : W p l e R s m args below meth c H locs cells slots Q (F0 m pc ls st0) :=
  va_callv hr hI.2.2.1 (fun q _ h => mp_free hI q h) (mp_free hI) fun S1 u H1 locs1 ht _ hp hB _ _ hS => kk S1 H1 locs1 hp (mp_back hI hB ht hS)
theorem mp_callr {av : Array Value} {mc ms : Nat} {post : mp_M → Nat → Prop} (hI : mp_I D cl A H0 S H locs) (hr : va_Run p l e R s m args below meth c H locs cells slots mc ms (F0 m pc ls st0) rest (va_Qr (fun _ : mp_M => True) (fun S1 ra u => mp_B1 D cl S H.size S1 u ∧ post S1 ra) (mp_A S H.size) av) (mp_A S H.size))
    (kk : ∀ (ra : Nat) (S1 : mp_M) (H1 : Heap) (locs1 : List Loc), post S1 ra → mp_I D cl A H0 S1 H1 locs1 → W p l e R s m args below meth c H1 locs1 (cells + mc) (slots + ms) Q (F0 m (pc + 3) ls (.ref ra :: rest))) : W p l e R s m args below meth c H locs cells slots Q (F0 m pc ls st0) :=
  va_callr hr hI.2.2.1 (fun q _ h => mp_free hI q h) (mp_free hI) fun S1 ra u H1 locs1 ht _ _ hB _ _ hS => kk ra S1 H1 locs1 hB.2 (mp_back hI hB.1 ht hS)
/-- the ends of a method -/
theorem mp_iret {mc ms : Nat} {S0 : mp_M} {post : Int32 → mp_M → Prop} {v : Int32} (hexec : p.tables.exec = Jvm.exec) (hb : c.code = cc) (hr : meth.sig.returnType = some .int) (hlocks : meth.locks = false) (hI : mp_I D cl (mp_A S0 s.heap.size) s.heap S H locs) (hc : cells ≤ mc) (hs : slots ≤ ms) (hp : post v S) (hdg : decode cc pc = .ok (.ireturn, 1)) :
    W p l e R s m args below meth c H locs cells slots (MQ below (va_Qi post (mp_B1 D cl S0 s.heap.size) (mp_A S0 s.heap.size)) args s mc ms (mp_A S0 s.heap.size)) (F0 m pc ls [.int v]) :=
  W.widen (k := mc) (n := ms) hc hs (W.iret (v := v) hexec hb hr (fun u hu hW => ⟨⟨v, S, rfl, hp, (hI.end hu).1⟩, (hI.end hu).2⟩) hI.2.2.1.2.2 hdg hlocks)
theorem mp_zret {mc ms : Nat} {S0 : mp_M} {post : Int32 → mp_M → Prop} {v : Int32} (hexec : p.tables.exec = Jvm.exec) (hb : c.code = cc) (hr : meth.sig.returnType = some .boolean) (hlocks : meth.locks = false) (hI : mp_I D cl (mp_A S0 s.heap.size) s.heap S H locs) (hc : cells ≤ mc) (hs : slots ≤ ms) (hp : post v S) (hn : narrow .boolean (.int v) = .int v) (hdg : decode cc pc = .ok (.ireturn, 1)) :
    W p l e R s m args below meth c H locs cells slots (MQ below (va_Qi post (mp_B1 D cl S0 s.heap.size) (mp_A S0 s.heap.size)) args s mc ms (mp_A S0 s.heap.size)) (F0 m pc ls [.int v]) :=
  W.widen (k := mc) (n := ms) hc hs (W.zret (v := v) hexec hb hr hn (fun u hu hW => ⟨⟨v, S, rfl, hp, (hI.end hu).1⟩, (hI.end hu).2⟩) hI.2.2.1.2.2 hdg hlocks)
theorem mp_vret {mc ms : Nat} {S0 : mp_M} {post : mp_M → Prop} (hexec : p.tables.exec = Jvm.exec) (hb : c.code = cc) (hr : meth.sig.returnType = none) (hlocks : meth.locks = false) (hI : mp_I D cl (mp_A S0 s.heap.size) s.heap S H locs) (hc : cells ≤ mc) (hs : slots ≤ ms) (hp : post S) (hdg : decode cc pc = .ok (.return_, 1)) :
    W p l e R s m args below meth c H locs cells slots (MQ below (va_Qv post (mp_B1 D cl S0 s.heap.size) (mp_A S0 s.heap.size)) args s mc ms (mp_A S0 s.heap.size)) (F0 m pc ls []) :=
  W.widen (k := mc) (n := ms) hc hs (W.vret hexec hb hr (fun u hu hW => ⟨⟨S, rfl, hp, (hI.end hu).1⟩, (hI.end hu).2⟩) hI.2.2.1.2.2 hdg hlocks)
theorem mp_aret {mc ms ra : Nat} {S0 : mp_M} {post : mp_M → Nat → Prop} {rt : FieldType} (hexec : p.tables.exec = Jvm.exec) (hb : c.code = cc) (hr : meth.sig.returnType = some rt) (hrt : (∃ n, rt = .object n) ∨ ∃ t, rt = .array t) (hlocks : meth.locks = false) (hI : mp_I D cl (mp_A S0 s.heap.size) s.heap S H locs) (hc : cells ≤ mc) (hs : slots ≤ ms) (hp : post S ra) (hdg : decode cc pc = .ok (.areturn, 1)) :
    W p l e R s m args below meth c H locs cells slots (MQ below (va_Qr (fun _ : mp_M => True) (fun S1 ra u => mp_B1 D cl S0 s.heap.size S1 u ∧ post S1 ra) (mp_A S0 s.heap.size)) args s mc ms (mp_A S0 s.heap.size)) (F0 m pc ls [.ref ra]) :=
  W.widen (k := mc) (n := ms) hc hs (W.aret (v := .ref ra) hexec hb hr hrt (Or.inr ⟨_, rfl⟩) (fun u hu hW => ⟨⟨S, ra, rfl, trivial, (hI.end hu).1, hp⟩, (hI.end hu).2⟩) hI.2.2.1.2.2 hdg hlocks)
end MP1
section MP2
variable {p : Program} {l : Launch} {e : Env} {R : Room} {s : State} {m : MethodId} {args : Array Value} {below : List Frame} {meth : Method} {c : Code} {H : Heap} {locs : List Loc} {cells slots : Nat} {Q : State → Prop}
variable {cc : ByteArray} {pc : Nat} {ls : Array Slot} {rest st0 : List Value} {D : mp_G} {cl : List vw_C} {A : Nat → Prop} {a t : Nat} {tys : List (ClassId × FieldType)} {S : mp_M} {H0 : Heap}
theorem mp_lret {mc ms : Nat} {S0 : mp_M} {post : Int64 → mp_M → Prop} {v : Int64} (hexec : p.tables.exec = Jvm.exec) (hb : c.code = cc) (hr : meth.sig.returnType = some .long) (hlocks : meth.locks = false) (hI : mp_I D cl (mp_A S0 s.heap.size) s.heap S H locs) (hc : cells ≤ mc) (hs : slots ≤ ms) (hp : post v S) (hdg : decode cc pc = .ok (.lreturn, 1)) :
    W p l e R s m args below meth c H locs cells slots (MQ below (va_Ql post (mp_B1 D cl S0 s.heap.size) (mp_A S0 s.heap.size)) args s mc ms (mp_A S0 s.heap.size)) (F0 m pc ls [.long v]) :=
  W.widen (k := mc) (n := ms) hc hs (W.lret (v := v) hexec hb hr (fun u hu hW => ⟨⟨v, S, rfl, hp, (hI.end hu).1⟩, (hI.end hu).2⟩) hI.2.2.1.2.2 hdg hlocks)
end MP2
