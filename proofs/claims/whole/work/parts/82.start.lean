/-! THE CLAIM OUT OF ONE WALK OF THE LAW'S BODY. Your part is whole_start (and what it stands on); all else here is the same for every law, but numbers. -/
def R_law : String := "SolutionBoxesLaw"
def lw_P (b : Addr) (xs : List Int32) (args : Array Value) (s : State) : Prop := args = #[.ref b] ∧ s.IntsAt b xs ∧ xs.length ≤ 3585 ∧ (Jvm.Cond.and given_1 narrow_1).before args s = true
def lw_Q (_ : Array Value) (s : State) (o : Outcome) (t : State) : Prop := o = .returned (some (.int 1)) ∧ Framed s o t [] 164015 8604026
def lw_Z (below : List Frame) (a : Array Value) (s : State) : State → Prop := fun t => ∃ o, t.status = .running ∧ Ended t below o ∧ lw_Q a s o t
/-- the law's own end, with 1 on the stack, nothing written that was there before, its room as the claim has it -/
theorem lw_ret {p : Program} {l : Launch} {e : Env} {s : State} {m : MethodId} {below : List Frame} {meth : Method} {c : Code} {b : Nat} (hx : p.tables.exec = Jvm.exec) (hb : c.code = code) (hr : meth.sig.returnType = ret) (hlocks : meth.locks = false) {pc : Nat} {H : Heap} {ls : Array Slot} (hdg : decode code pc = .ok (.ireturn, 1)) : W p l e room_1 s m #[Value.ref b] below meth c H [] 164015 8604026 (lw_Z below #[Value.ref b] s) (F0 m pc ls [.int 1]) := by
  intro T hT X
  obtain ⟨fs, hret, hrun, hended, hW, hframe⟩ := X.leave (v := some (.int 1)) (hlocks := hlocks) (fun h => by rw [hr] at h; cases h)
  have hmeth' : T.vm.method? m = some meth := X.method'
  refine ⟨T.setFrames fs, ?_, .returned (some (.int 1)), hrun, hended, rfl, ⟨_, rfl⟩, hW, hframe⟩
  jvm_step X.here [X.here.top, hx, hb, hdg, hmeth', hr, ret, narrow_b1]
  (try refine ⟨rfl, ?_⟩); (try refine ⟨rfl, ?_⟩)
  first | (intro acts; rw [hret _ acts rfl rfl rfl]) | rw [hret _ _ rfl rfl rfl]
  exact Steps.refl _
/-- what holds at the law's entry: the machine, the code, the tables' words (any of lw_tbl by 'hts w (by decide +kernel)'), the script of L ints xs at the cell b, what the Statement gives of the start (any of its parts by flat_of_before) -/
def lw_At (p : Program) (s : State) (m : MethodId) (meth : Method) (c : Code) (b L : Nat) (xs : Nat → Int32) : Prop :=
  p.tables.exec = Jvm.exec ∧ c.code = code ∧ meth.sig.returnType = ret ∧ c.maxLocals = 7 ∧ s.vm.findClass R_law = some m.cls ∧ (∀ w ∈ lw_tbl, w.before #[Value.ref b] s = true) ∧ va_X b L xs s s.heap ∧ b < s.heap.size ∧ meth.locks = false ∧ (Jvm.Cond.and given_1 narrow_1).before #[Value.ref b] s = true
theorem d_L_law_0 : decode b_L_law 0 = .ok (.new 8, 3) := by decide +kernel
theorem d_L_law_3 : decode b_L_law 3 = .ok (.dup, 1) := by decide +kernel
theorem d_L_law_4 : decode b_L_law 4 = .ok (.aload_n 0, 1) := by decide +kernel
theorem d_L_law_5 : decode b_L_law 5 = .ok (.iconst 0, 1) := by decide +kernel
theorem d_L_law_6 : decode b_L_law 6 = .ok (.invokestatic 49, 3) := by decide +kernel
theorem d_L_law_9 : decode b_L_law 9 = .ok (.invokespecial 55, 3) := by decide +kernel
theorem d_L_law_12 : decode b_L_law 12 = .ok (.astore_n 1, 1) := by decide +kernel
theorem d_L_law_13 : decode b_L_law 13 = .ok (.new 58, 3) := by decide +kernel
theorem d_L_law_16 : decode b_L_law 16 = .ok (.dup, 1) := by decide +kernel
theorem d_L_law_17 : decode b_L_law 17 = .ok (.aload_n 0, 1) := by decide +kernel
theorem d_L_law_18 : decode b_L_law 18 = .ok (.iconst 0, 1) := by decide +kernel
theorem d_L_law_19 : decode b_L_law 19 = .ok (.invokestatic 49, 3) := by decide +kernel
theorem d_L_law_22 : decode b_L_law 22 = .ok (.invokespecial 60, 3) := by decide +kernel
theorem d_L_law_25 : decode b_L_law 25 = .ok (.astore_n 2, 1) := by decide +kernel
theorem d_L_law_26 : decode b_L_law 26 = .ok (.iconst 1, 1) := by decide +kernel
theorem d_L_law_27 : decode b_L_law 27 = .ok (.newarray .long, 2) := by decide +kernel
theorem d_L_law_29 : decode b_L_law 29 = .ok (.astore_n 3, 1) := by decide +kernel
theorem d_L_law_30 : decode b_L_law 30 = .ok (.iconst 1, 1) := by decide +kernel
theorem d_L_law_31 : decode b_L_law 31 = .ok (.istore 4, 2) := by decide +kernel
theorem d_L_law_33 : decode b_L_law 33 = .ok (.iload 4, 2) := by decide +kernel
theorem d_L_law_35 : decode b_L_law 35 = .ok (.aload_n 0, 1) := by decide +kernel
theorem d_L_law_36 : decode b_L_law 36 = .ok (.arraylength, 1) := by decide +kernel
theorem d_L_law_37 : decode b_L_law 37 = .ok (.bipush 7, 2) := by decide +kernel
theorem d_L_law_39 : decode b_L_law 39 = .ok (.isub, 1) := by decide +kernel
theorem d_L_law_40 : decode b_L_law 40 = .ok (.if_icmp .gt 788, 3) := by decide +kernel
theorem d_L_law_43 : decode b_L_law 43 = .ok (.aload_n 0, 1) := by decide +kernel
theorem d_L_law_44 : decode b_L_law 44 = .ok (.iload 4, 2) := by decide +kernel
theorem d_L_law_46 : decode b_L_law 46 = .ok (.iaload, 1) := by decide +kernel
theorem d_L_law_47 : decode b_L_law 47 = .ok (.bipush 15, 2) := by decide +kernel
theorem d_L_law_49 : decode b_L_law 49 = .ok (.iand, 1) := by decide +kernel
theorem d_L_law_50 : decode b_L_law 50 = .ok (.tableswitch 772 0 12 #[66, 110, 275, 338, 351, 395, 451, 519, 575, 643, 711, 736, 747], 66) := by decide +kernel
theorem d_L_law_822 : decode b_L_law 822 = .ok (.iinc 4 7, 3) := by decide +kernel
theorem d_L_law_825 : decode b_L_law 825 = .ok (.goto (-792), 3) := by decide +kernel
theorem d_L_law_828 : decode b_L_law 828 = .ok (.iconst 1, 1) := by decide +kernel
theorem d_L_law_829 : decode b_L_law 829 = .ok (.ireturn, 1) := by decide +kernel
theorem lt_7 {L i : Nat} (hL : L ≤ 3585) (hi : i < 2 ^ 30) : nI L - nI 7 < nI i ↔ L < i + 7 := by
  by_cases e : 7 ≤ L
  · rw [pk_sub e, nI_ltI (by omega) (by omega)]; omega
  · have h1 : nI L - nI 7 < 0 := by
      have : ∀ q : Nat, q < 7 → nI q - nI 7 < 0 := by decide +kernel
      exact this L (by omega)
    exact ⟨fun _ => by omega, fun _ => Int32.lt_of_lt_of_le h1 (nI_pos' (by omega))⟩
set_option maxHeartbeats 16000000 in
set_option maxRecDepth 100000 in
/-- call by call -/
theorem lw_loop {p : Program} {l : Launch} {e : Env} {s : State} {m : MethodId} {below : List Frame} {meth : Method} {c : Code} {D : mp_G} {g : Nat → ClassId} {b L : Nat} {xs : Nat → Int32} {nl o mo oa : Nat} (hx : p.tables.exec = Jvm.exec) (hb : c.code = b_L_law) (hr : meth.sig.returnType = ret) (hml : c.maxLocals = 7) (hts : ∀ w ∈ lw_tbl, w.before #[Value.ref b] s = true) (hg : ∀ w ∈ gw, w.before #[Value.ref b] s = true) (hown : s.vm.findClass R_L = some m.cls) (hlocks : meth.locks = false) (hK : mp_K D classes (tys g) s) (hX : va_X b L xs D.2.1 D.2.1.heap) (hL9 : L ≤ 3585) (hl9 : l.stackTraces = false) (hnl : nl ≤ 3) (hn1 : 1 ≤ nl) : ∀ (k j cells slots : Nat) (S : mp_M) (H : Heap) (locs : List Loc) (ls : Array Slot), j + k = 512 → cells ≤ 200 + 189 * j → slots ≤ 90100 + 11130 * j → lawI g nl o mo oa S → mp_I D classes (fun q => s.heap.size ≤ q) s.heap S H locs → lv_has ls 7 [(4, .int (nI (1 + 7 * j))), (3, .ref oa), (2, .ref mo), (1, .ref o), (0, .ref b)] → W p l e room_1 s m #[Value.ref b] below meth c H locs (cells) (slots) (lw_Z below #[Value.ref b] s) (F0 m 33 ls []) := by
  intro k
  induction k with
  | zero =>
    intro j cells slots S H locs ls hj hc hs hV hI hl
    refine lv_iload hx hb d_L_law_33 (lv_at hl 0 rfl) ?_
    refine lv_aload_n hx hb d_L_law_35 rfl (lv_at hl 4 rfl) ?_
    refine mp_slen hx hb hX hK hI d_L_law_36 ?_
    refine lv_bipush (v := nI 7) hx hb d_L_law_37 (by decide) ?_
    refine lv_isub hx hb d_L_law_39 ?_
    refine lv_icmp_gt (tgt := 828) hx hb d_L_law_40 (by decide) (fun _ => ?_) (fun h9 => absurd ((lt_7 hL9 (by omega)).mpr (by omega)) h9)
    refine lv_iconst (v := nI 1) hx hb d_L_law_828 (by decide) ?_
    refine va_forget (fun q hq => hI.2.2.1.2.2 q hq) ?_
    refine W.widen (k := 164015) (n := 8604026) (by omega) (by omega) ?_
    exact lw_ret hx hb hr hlocks d_L_law_829
  | succ k ih =>
    intro j cells slots S H locs ls hj hc hs hV hI hl
    have nxt : ∀ (S : mp_M) (H : Heap) (locs : List Loc) (ls : Array Slot), lawI g nl o mo oa S → mp_I D classes (fun q => s.heap.size ≤ q) s.heap S H locs → lv_has ls 7 [(4, .int (nI (1 + 7 * j))), (3, .ref oa), (2, .ref mo), (1, .ref o), (0, .ref b)] → W p l e room_1 s m #[Value.ref b] below meth c H locs (cells + 189) (slots + 11130) (lw_Z below #[Value.ref b] s) (F0 m 822 ls []) := by
      intro S H locs ls hV hI hl
      refine lv_iinc (v := nI (1 + 7 * (j + 1))) (lv' := [(4, .int (nI (1 + 7 * (j + 1)))), (3, .ref oa), (2, .ref mo), (1, .ref o), (0, .ref b)]) hx hb d_L_law_822 hl (k := 0) rfl (by rw [show (Int32.ofInt 7) = nI 7 from by decide, nI_add, show 1 + 7 * j + 7 = 1 + 7 * (j + 1) by omega]) (by decide) rfl (fun ls hl => ?_)
      refine lv_goto (tgt := 33) hx hb d_L_law_825 (by decide) ?_
      exact ih (j + 1) _ _ S _ _ ls (by omega) (by omega) (by omega) hV hI (lv_sub hl [0, 1, 2, 3, 4] rfl)
    refine lv_iload hx hb d_L_law_33 (lv_at hl 0 rfl) ?_
    refine lv_aload_n hx hb d_L_law_35 rfl (lv_at hl 4 rfl) ?_
    refine mp_slen hx hb hX hK hI d_L_law_36 ?_
    refine lv_bipush (v := nI 7) hx hb d_L_law_37 (by decide) ?_
    refine lv_isub hx hb d_L_law_39 ?_
    by_cases hq : L < 1 + 7 * j + 7
    · refine lv_icmp_gt (tgt := 828) hx hb d_L_law_40 (by decide) (fun _ => ?_) (fun h9 => absurd ((lt_7 hL9 (by omega)).mpr hq) h9)
      refine lv_iconst (v := nI 1) hx hb d_L_law_828 (by decide) ?_
      refine va_forget (fun q hq => hI.2.2.1.2.2 q hq) ?_
      refine W.widen (k := 164015) (n := 8604026) (by omega) (by omega) ?_
      exact lw_ret hx hb hr hlocks d_L_law_829
    · refine lv_icmp_gt (tgt := 828) hx hb d_L_law_40 (by decide) (fun h9 => absurd h9 (fun h9 => hq ((lt_7 hL9 (by omega)).mp h9))) (fun _ => ?_)
      refine lv_aload_n hx hb d_L_law_43 rfl (lv_at hl 4 rfl) ?_
      refine lv_iload hx hb d_L_law_44 (lv_at hl 0 rfl) ?_
      refine mp_sld hx hb hX hK hI (vp_in_nI (show (1 + 7 * j) < L by omega) (by omega)) d_L_law_46 ?_
      refine lv_topi (fun v1 ev1 => ?_)
      obtain rfl : v1 = xs (1 + 7 * j) := ev1.trans (by rw [nI_clamp (by omega)])
      refine lv_bipush (v := nI 15) hx hb d_L_law_47 (by decide) ?_
      refine lv_iand hx hb d_L_law_49 ?_
      obtain ⟨t9, ht9, et9⟩ := and15 (xs (1 + 7 * j))
      rw [et9]
      rcases (show t9 = 0 ∨ t9 = 1 ∨ t9 = 2 ∨ t9 = 3 ∨ t9 = 4 ∨ t9 = 5 ∨ t9 = 6 ∨ t9 = 7 ∨ t9 = 8 ∨ t9 = 9 ∨ t9 = 10 ∨ t9 = 11 ∨ t9 = 12 ∨ t9 = 13 ∨ t9 = 14 ∨ t9 = 15 by omega) with rfl | rfl | rfl | rfl | rfl | rfl | rfl | rfl | rfl | rfl | rfl | rfl | rfl | rfl | rfl | rfl
      · refine lv_tableIn (off := 66) (tgt := 116) hx hb d_L_law_50 (by decide) (by decide) (by decide) (by decide) ?_
        exact lk_poly hx hb hml hts hg hown hK hX hL9 (by omega) (show cells + 189 ≤ 164015 by omega) (show slots + 11130 ≤ 8604026 by omega) hl9 hnl hn1 hV hI (lv_sub hl [0, 1, 2, 3, 4] rfl) nxt
      · refine lv_tableIn (off := 110) (tgt := 160) hx hb d_L_law_50 (by decide) (by decide) (by decide) (by decide) ?_
        exact lk_term hx hb hml hts hg hown hK hX hL9 (by omega) (show cells + 189 ≤ 164015 by omega) (show slots + 11130 ≤ 8604026 by omega) hl9 hnl hn1 hV hI (lv_sub hl [0, 1, 2, 3, 4] rfl) nxt
      · refine lv_tableIn (off := 275) (tgt := 325) hx hb d_L_law_50 (by decide) (by decide) (by decide) (by decide) ?_
        exact lk_take hx hb hml hts hg hown hK hX hL9 (by omega) (show cells + 189 ≤ 164015 by omega) (show slots + 11130 ≤ 8604026 by omega) hl9 hnl hn1 hV hI (lv_sub hl [0, 1, 2, 3, 4] rfl) nxt
      · refine lv_tableIn (off := 338) (tgt := 388) hx hb d_L_law_50 (by decide) (by decide) (by decide) (by decide) ?_
        exact lk_run hx hb hml hts hg hown hK hX hL9 (by omega) (show cells + 189 ≤ 164015 by omega) (show slots + 11130 ≤ 8604026 by omega) hl9 hnl hn1 hV hI (lv_sub hl [0, 1, 2, 3, 4] rfl) nxt
      · refine lv_tableIn (off := 351) (tgt := 401) hx hb d_L_law_50 (by decide) (by decide) (by decide) (by decide) ?_
        exact lk_total hx hb hml hts hg hown hK hX hL9 (by omega) (show cells + 189 ≤ 164015 by omega) (show slots + 11130 ≤ 8604026 by omega) hl9 hnl hn1 hV hI (lv_sub hl [0, 1, 2, 3, 4] rfl) nxt
      · refine lv_tableIn (off := 395) (tgt := 445) hx hb d_L_law_50 (by decide) (by decide) (by decide) (by decide) ?_
        exact lk_left hx hb hml hts hg hown hK hX hL9 (by omega) (show cells + 189 ≤ 164015 by omega) (show slots + 11130 ≤ 8604026 by omega) hl9 hnl hn1 hV hI (lv_sub hl [0, 1, 2, 3, 4] rfl) nxt
      · refine lv_tableIn (off := 451) (tgt := 501) hx hb d_L_law_50 (by decide) (by decide) (by decide) (by decide) ?_
        exact lk_at hx hb hml hts hg hown hK hX hL9 (by omega) (show cells + 189 ≤ 164015 by omega) (show slots + 11130 ≤ 8604026 by omega) hl9 hnl hn1 hV hI (lv_sub hl [0, 1, 2, 3, 4] rfl) nxt
      · refine lv_tableIn (off := 519) (tgt := 569) hx hb d_L_law_50 (by decide) (by decide) (by decide) (by decide) ?_
        exact lk_multiplicity hx hb hml hts hg hown hK hX hL9 (by omega) (show cells + 189 ≤ 164015 by omega) (show slots + 11130 ≤ 8604026 by omega) hl9 hnl hn1 hV hI (lv_sub hl [0, 1, 2, 3, 4] rfl) nxt
      · refine lv_tableIn (off := 575) (tgt := 625) hx hb d_L_law_50 (by decide) (by decide) (by decide) (by decide) ?_
        exact lk_minimal hx hb hml hts hg hown hK hX hL9 (by omega) (show cells + 189 ≤ 164015 by omega) (show slots + 11130 ≤ 8604026 by omega) hl9 hnl hn1 hV hI (lv_sub hl [0, 1, 2, 3, 4] rfl) nxt
      · refine lv_tableIn (off := 643) (tgt := 693) hx hb d_L_law_50 (by decide) (by decide) (by decide) (by decide) ?_
        exact lk_value hx hb hml hts hg hown hK hX hL9 (by omega) (show cells + 189 ≤ 164015 by omega) (show slots + 11130 ≤ 8604026 by omega) hl9 hnl hn1 hV hI (lv_sub hl [0, 1, 2, 3, 4] rfl) nxt
      · refine lv_tableIn (off := 711) (tgt := 761) hx hb d_L_law_50 (by decide) (by decide) (by decide) (by decide) ?_
        exact lk_free hx hb hml hts hg hown hK hX hL9 (by omega) (show cells + 189 ≤ 164015 by omega) (show slots + 11130 ≤ 8604026 by omega) hl9 hnl hn1 hV hI (lv_sub hl [0, 1, 2, 3, 4] rfl) nxt
      · refine lv_tableIn (off := 736) (tgt := 786) hx hb d_L_law_50 (by decide) (by decide) (by decide) (by decide) ?_
        exact lk_clear hx hb hml hts hg hown hK hX hL9 (by omega) (show cells + 189 ≤ 164015 by omega) (show slots + 11130 ≤ 8604026 by omega) hl9 hnl hn1 hV hI (lv_sub hl [0, 1, 2, 3, 4] rfl) nxt
      · refine lv_tableIn (off := 747) (tgt := 797) hx hb d_L_law_50 (by decide) (by decide) (by decide) (by decide) ?_
        exact lk_count hx hb hml hts hg hown hK hX hL9 (by omega) (show cells + 189 ≤ 164015 by omega) (show slots + 11130 ≤ 8604026 by omega) hl9 hnl hn1 hV hI (lv_sub hl [0, 1, 2, 3, 4] rfl) nxt
      · refine lv_tableOut (tgt := 822) hx hb d_L_law_50 (by decide) (by decide) ?_
        refine W.widen (k := cells + 189) (n := slots + 11130) (by omega) (by omega) ?_
        exact nxt S H locs ls hV hI (lv_sub hl [0, 1, 2, 3, 4] rfl)
      · refine lv_tableOut (tgt := 822) hx hb d_L_law_50 (by decide) (by decide) ?_
        refine W.widen (k := cells + 189) (n := slots + 11130) (by omega) (by omega) ?_
        exact nxt S H locs ls hV hI (lv_sub hl [0, 1, 2, 3, 4] rfl)
      · refine lv_tableOut (tgt := 822) hx hb d_L_law_50 (by decide) (by decide) ?_
        refine W.widen (k := cells + 189) (n := slots + 11130) (by omega) (by omega) ?_
        exact nxt S H locs ls hV hI (lv_sub hl [0, 1, 2, 3, 4] rfl)
set_option maxHeartbeats 16000000 in
set_option maxRecDepth 100000 in
theorem whole_start {p : Program} {e : Env} {s : State} {m : MethodId} {below : List Frame} {meth : Method} {c : Code} (l : Launch) (hl9 : l.stackTraces = false) {b L : Nat} {xs : Nat → Int32} (hL : L ≤ 3585) (C0 : lw_At p s m meth c b L xs) : W p l e room_1 s m #[Value.ref b] below meth c s.heap [] 0 0 (lw_Z below #[Value.ref b] s) (entryFrame m ([Value.ref b] : List Value).toArray 7) := by
  obtain ⟨hx, hb, hr, hml, hown, hts, hX, hbl, hlocks, hgv⟩ := id C0
  obtain ⟨D0, g, hK⟩ := lw_mpK hts hgv
  have hb : c.code = b_L_law := hb
  have hown : s.vm.findClass R_L = some m.cls := hown
  have hg : ∀ w ∈ gw, w.before #[Value.ref b] s = true := fun w h => hts w (gw_in h)
  obtain ⟨D, hD⟩ : ∃ D : mp_G, D = (D0, s, #[Value.ref b]) := ⟨_, rfl⟩
  rw [← hD] at hK
  have hX : va_X b L xs D.2.1 D.2.1.heap := by rw [hD]; exact hX
  obtain ⟨S0, hI⟩ : ∃ S0 : mp_M, mp_I D classes (fun q => s.heap.size ≤ q) s.heap S0 s.heap [] := ⟨fun _ => none, ⟨fun a t e9 h => (by cases h), fun a c9 h => ⟨rfl, by rw [hD] at h; exact h⟩⟩, fun q h => absurd rfl h, va_S.rf, fun _ h => h⟩
  have hl := lv_entry ([.ref b]) (n := 7) (Nat.le_of_ble_eq_true rfl)
  rw [lg_entry_eq]
  generalize (lg_sl ([.ref b]) ++ List.replicate (7 - (lg_sl ([.ref b])).length) Slot.unset).toArray = ls at hl ⊢
  have hl : lv_has ls 7 [(0, .ref b)] := hl
  refine mp_new (C := R_B) (T := F_B) (N := 10) (ci := 0) (fs := [.int 0, .null, .null, .null, .int 0, .int 0, .int 0, .int 0, .int 0, .null]) hx hb hg i_B t_B t_B_ok hown (hg _ q_23) (hg _ q_24) (hg _ q_1) hK.va hI 0 rfl (fun j hj => by rcases (show j = 0 ∨ j = 1 ∨ j = 2 ∨ j = 3 ∨ j = 4 ∨ j = 5 ∨ j = 6 ∨ j = 7 ∨ j = 8 ∨ j = 9 by omega) with rfl | rfl | rfl | rfl | rfl | rfl | rfl | rfl | rfl | rfl <;> rfl) (Nat.le_of_ble_eq_true rfl) (Nat.le_of_ble_eq_true rfl) d_L_law_0 (fun S1 H2 z_4 e_3 hI => ?_)
  obtain ⟨a5, ea5⟩ : ∃ z, z = s.heap.size := ⟨_, rfl⟩
  rw [← ea5] at z_4 e_3
  refine W.eq (g2 := F0 m 3 ls [.ref a5]) (by rw [ea5]) ?_
  have h_6 : S1 a5 = some (0, .inr (0, [.int 0, .null, .null, .null, .int 0, .int 0, .int 0, .int 0, .int 0, .null])) := by rw [e_3]; exact mp_us _ _ _
  refine lv_dup hx hb d_L_law_3 rfl ?_
  refine lv_aload_n hx hb d_L_law_4 rfl (lv_at hl 0 rfl) ?_
  refine lv_iconst (v := nI 0) hx hb d_L_law_5 (by decide) ?_
  refine mp_calli hI (va_runS (As := [.ref b, .int (nI 0)]) (rest := [.ref a5, .ref a5]) ⟨hx, hb, hml, hown, hg⟩ (c_L_cell l D g S1 _ b L 0 xs hX (by omega) (by decide)) ⟨(callB_of 2 hg (wd_goodG q_541) rfl rfl rfl (hg _ q_0) (hg _ q_539) (by decide +kernel) ⟨Nat.le_of_ble_eq_true rfl, Nat.le_of_ble_eq_true rfl⟩), hg _ q_540⟩ (mp_pre hI hK [.ref b, .int (nI 0)]) rfl rfl hl.1 rfl (lv_room (Nat.le_of_ble_eq_true rfl)) d_L_law_6 ⟨Nat.le_of_ble_eq_true rfl, Nat.le_of_ble_eq_true rfl⟩) (fun r10 S7 H8 locs p_9 hI => ?_)
  obtain ⟨er10, eS11⟩ := p_9
  rw [eS11] at hI
  have er10 : r10 = (if 0 < L then xs 0 else 0) := er10
  subst er10
  refine mp_callv hI (va_runI (As := [.int (if 0 < L then xs 0 else 0)]) (rest := [.ref a5]) ⟨hx, hb, hml, hown, hg⟩ (c_B_init l D g S1 _ a5 (if 0 < L then xs 0 else 0) h_6) ⟨(callB_of 1 hg (wd_goodG q_27) rfl rfl rfl (hg _ q_1) (hg _ q_25) (by decide +kernel) ⟨Nat.le_of_ble_eq_true rfl, Nat.le_of_ble_eq_true rfl⟩), rfl, hg _ q_26⟩ (mp_pre hI hK ([.ref a5, .int (if 0 < L then xs 0 else 0)])) rfl rfl hl.1 rfl (lv_room (Nat.le_of_ble_eq_true rfl)) d_L_law_9 ⟨Nat.le_of_ble_eq_true rfl, Nat.le_of_ble_eq_true rfl⟩) (fun S12 H13 locs p_14 hI => ?_)
  obtain ⟨pa, lo, fa, ma, hd, eo, ek, en, bo, bk, bn, h_o, h_pa, h_lo, h_fa, h_ma, h_hd, hE, hE2, fB⟩ := p_14
  refine lv_astore_n (lv' := [(1, .ref a5), (0, .ref b)]) hx hb d_L_law_12 rfl hl (by decide) rfl (fun ls hl => ?_)
  refine mp_new (C := R_M) (T := F_M) (N := 31) (ci := 10) (fs := [.int 0, .int 0, .int 0, .int 0, .null, .int 0, .null, .null, .null, .null, .null, .null, .int 0, .int 0, .int 0, .null, .null, .null, .null, .null, .null, .int 0, .null, .null, .null, .null, .null, .null, .null, .null, .null]) hx hb hg i_M t_M t_M_ok hown (hg _ q_797) (hg _ q_798) (hg _ q_5) hK.va hI 2000 rfl (fun j hj => by rcases (show j = 0 ∨ j = 1 ∨ j = 2 ∨ j = 3 ∨ j = 4 ∨ j = 5 ∨ j = 6 ∨ j = 7 ∨ j = 8 ∨ j = 9 ∨ j = 10 ∨ j = 11 ∨ j = 12 ∨ j = 13 ∨ j = 14 ∨ j = 15 ∨ j = 16 ∨ j = 17 ∨ j = 18 ∨ j = 19 ∨ j = 20 ∨ j = 21 ∨ j = 22 ∨ j = 23 ∨ j = 24 ∨ j = 25 ∨ j = 26 ∨ j = 27 ∨ j = 28 ∨ j = 29 ∨ j = 30 by omega) with rfl | rfl | rfl | rfl | rfl | rfl | rfl | rfl | rfl | rfl | rfl | rfl | rfl | rfl | rfl | rfl | rfl | rfl | rfl | rfl | rfl | rfl | rfl | rfl | rfl | rfl | rfl | rfl | rfl | rfl | rfl <;> rfl) (Nat.le_of_ble_eq_true rfl) (Nat.le_of_ble_eq_true rfl) d_L_law_13 (fun S16 H17 z_19 e_18 hI => ?_)
  obtain ⟨a20, ea20⟩ : ∃ z, z = H13.size := ⟨_, rfl⟩
  rw [← ea20] at z_19 e_18
  refine W.eq (g2 := F0 m 16 ls [.ref a20]) (by rw [ea20]) ?_
  have h_o : S16 a5 = some (0, .inr (0, [.int (nI (lcN (if 0 < L then xs 0 else 0))), .ref pa, .ref lo, .ref fa, .int 0, .int 0, .int 0, .int 0, .int 0, .null])) := by rw [e_18]; exact mp_keepN h_o z_19
  have h_pa : S16 pa = some (1, .inl ((g 2), 40, .inr (.inr (.inr (.inr (rfs eo 40)))))) := by rw [e_18]; exact mp_keepN h_pa z_19
  have h_lo : S16 lo = some (2, .inr (9, [.ref ma, .ref hd, .int 0])) := by rw [e_18]; exact mp_keepN h_lo z_19
  have h_fa : S16 fa = some (3, .inl ((g 0), 3, .inl (fun _ => 0))) := by rw [e_18]; exact mp_keepN h_fa z_19
  have h_ma : S16 ma = some (4, .inl ((g 2), 12, .inr (.inr (.inr (.inr (rfs bo 12)))))) := by rw [e_18]; exact mp_keepN h_ma z_19
  have h_hd : S16 hd = some (5, .inl ((g 0), 12, .inl (fun _ => 0))) := by rw [e_18]; exact mp_keepN h_hd z_19
  have h_21 : S16 a20 = some (2000, .inr (10, [.int 0, .int 0, .int 0, .int 0, .null, .int 0, .null, .null, .null, .null, .null, .null, .int 0, .int 0, .int 0, .null, .null, .null, .null, .null, .null, .int 0, .null, .null, .null, .null, .null, .null, .null, .null, .null])) := by rw [e_18]; exact mp_us _ _ _
  have hE := yS_kept hE (S1 := S16) (fun b t9 e9 hb9 h1 h2 => by rw [e_18]; exact mp_un (fun z9 => by rw [z9, z_19] at hb9; cases hb9))
  have hE2 := yS_kept hE2 (S1 := S16) (fun b t9 e9 hb9 h1 h2 => by rw [e_18]; exact mp_un (fun z9 => by rw [z9, z_19] at hb9; cases hb9))
  refine lv_dup hx hb d_L_law_16 rfl ?_
  refine lv_aload_n hx hb d_L_law_17 rfl (lv_at hl 1 rfl) ?_
  refine lv_iconst (v := nI 0) hx hb d_L_law_18 (by decide) ?_
  refine mp_calli hI (va_runS (As := [.ref b, .int (nI 0)]) (rest := [.ref a20, .ref a20]) ⟨hx, hb, hml, hown, hg⟩ (c_L_cell l D g S16 _ b L 0 xs hX (by omega) (by decide)) ⟨(callB_of 2 hg (wd_goodG q_541) rfl rfl rfl (hg _ q_0) (hg _ q_539) (by decide +kernel) ⟨Nat.le_of_ble_eq_true rfl, Nat.le_of_ble_eq_true rfl⟩), hg _ q_540⟩ (mp_pre hI hK [.ref b, .int (nI 0)]) rfl rfl hl.1 rfl (lv_room (Nat.le_of_ble_eq_true rfl)) d_L_law_19 ⟨Nat.le_of_ble_eq_true rfl, Nat.le_of_ble_eq_true rfl⟩) (fun r25 S22 H23 locs p_24 hI => ?_)
  obtain ⟨er25, eS26⟩ := p_24
  rw [eS26] at hI
  have er25 : r25 = (if 0 < L then xs 0 else 0) := er25
  subst er25
  refine mp_callv hI (va_runI (As := [.int (if 0 < L then xs 0 else 0)]) (rest := [.ref a20]) ⟨hx, hb, hml, hown, hg⟩ (c_M_init l D g S16 _ a20 (if 0 < L then xs 0 else 0) h_21) ⟨(callB_of 1 hg (wd_goodG q_801) rfl rfl rfl (hg _ q_5) (hg _ q_799) (by decide +kernel) ⟨Nat.le_of_ble_eq_true rfl, Nat.le_of_ble_eq_true rfl⟩), rfl, hg _ q_800⟩ (mp_pre hI hK ([.ref a20, .int (if 0 < L then xs 0 else 0)])) rfl rfl hl.1 rfl (lv_room (Nat.le_of_ble_eq_true rfl)) d_L_law_22 ⟨Nat.le_of_ble_eq_true rfl, Nat.le_of_ble_eq_true rfl⟩) (fun S27 H28 locs p_29 hI => ?_)
  obtain ⟨ad, hmF, fM⟩ := p_29
  obtain ⟨h_mo, hm2001, hm2002, hm2003, hm2004, hm2005, hm2006, hm2007, hm2008, hm2009, hm2010, hm2011, hm2012, hm2013, hm2014, hm2015, hm2016, hm2017, hm2018, hm2019, hm2020, hm2021, hm2022⟩ := hmF
  have h_o : S27 a5 = some (0, .inr (0, [.int (nI (lcN (if 0 < L then xs 0 else 0))), .ref pa, .ref lo, .ref fa, .int 0, .int 0, .int 0, .int 0, .int 0, .null])) := (fM a5 (mp_in h_o) (mp_ne h_o h_21 (by omega))).trans h_o
  have h_pa : S27 pa = some (1, .inl ((g 2), 40, .inr (.inr (.inr (.inr (rfs eo 40)))))) := (fM pa (mp_in h_pa) (mp_ne h_pa h_21 (by omega))).trans h_pa
  have h_lo : S27 lo = some (2, .inr (9, [.ref ma, .ref hd, .int 0])) := (fM lo (mp_in h_lo) (mp_ne h_lo h_21 (by omega))).trans h_lo
  have h_fa : S27 fa = some (3, .inl ((g 0), 3, .inl (fun _ => 0))) := (fM fa (mp_in h_fa) (mp_ne h_fa h_21 (by omega))).trans h_fa
  have h_ma : S27 ma = some (4, .inl ((g 2), 12, .inr (.inr (.inr (.inr (rfs bo 12)))))) := (fM ma (mp_in h_ma) (mp_ne h_ma h_21 (by omega))).trans h_ma
  have h_hd : S27 hd = some (5, .inl ((g 0), 12, .inl (fun _ => 0))) := (fM hd (mp_in h_hd) (mp_ne h_hd h_21 (by omega))).trans h_hd
  have hE := yS_kept hE (S1 := S27) (fun b t9 e9 hb9 h1 h2 => by have h8 : S27 b = some (t9, e9) := (fM b (mp_in hb9) (mp_ne hb9 h_21 (by omega))).trans hb9; rw [h8, hb9])
  have hE2 := yS_kept hE2 (S1 := S27) (fun b t9 e9 hb9 h1 h2 => by have h8 : S27 b = some (t9, e9) := (fM b (mp_in hb9) (mp_ne hb9 h_21 (by omega))).trans hb9; rw [h8, hb9])
  refine lv_astore_n (lv' := [(2, .ref a20), (1, .ref a5), (0, .ref b)]) hx hb d_L_law_25 rfl hl (by decide) rfl (fun ls hl => ?_)
  refine lv_iconst (v := nI 1) hx hb d_L_law_26 (by decide) ?_
  refine mp_newl (N' := 1) hx hb (hg _ q_1108) hK.va hI 4 9 rfl (by decide) (by decide) (Nat.le_of_ble_eq_true rfl) (Nat.le_of_ble_eq_true rfl) (Nat.le_of_ble_eq_true rfl) d_L_law_27 (fun S31 H32 z_34 e_33 hI => ?_)
  obtain ⟨a35, ea35⟩ : ∃ z, z = H28.size := ⟨_, rfl⟩
  rw [← ea35] at z_34 e_33
  refine W.eq (g2 := F0 m 29 ls [.ref a35]) (by rw [ea35]) ?_
  have h_o : S31 a5 = some (0, .inr (0, [.int (nI (lcN (if 0 < L then xs 0 else 0))), .ref pa, .ref lo, .ref fa, .int 0, .int 0, .int 0, .int 0, .int 0, .null])) := by rw [e_33]; exact mp_keepN h_o z_34
  have h_pa : S31 pa = some (1, .inl ((g 2), 40, .inr (.inr (.inr (.inr (rfs eo 40)))))) := by rw [e_33]; exact mp_keepN h_pa z_34
  have h_lo : S31 lo = some (2, .inr (9, [.ref ma, .ref hd, .int 0])) := by rw [e_33]; exact mp_keepN h_lo z_34
  have h_fa : S31 fa = some (3, .inl ((g 0), 3, .inl (fun _ => 0))) := by rw [e_33]; exact mp_keepN h_fa z_34
  have h_ma : S31 ma = some (4, .inl ((g 2), 12, .inr (.inr (.inr (.inr (rfs bo 12)))))) := by rw [e_33]; exact mp_keepN h_ma z_34
  have h_hd : S31 hd = some (5, .inl ((g 0), 12, .inl (fun _ => 0))) := by rw [e_33]; exact mp_keepN h_hd z_34
  have h_mo : S31 a20 = some (2000, .inr (10, [.int (nI (lcN (if 0 < L then xs 0 else 0))), .int 0, .int 0, .int 0, .ref (ad 2001), .int 0, .ref (ad 2002), .ref (ad 2003), .ref (ad 2004), .ref (ad 2005), .ref (ad 2006), .ref (ad 2007), .int 0, .int 0, .int 0, .ref (ad 2008), .ref (ad 2009), .ref (ad 2010), .ref (ad 2011), .ref (ad 2012), .ref (ad 2013), .int 0, .ref (ad 2014), .ref (ad 2015), .ref (ad 2016), .ref (ad 2017), .ref (ad 2018), .ref (ad 2019), .ref (ad 2020), .ref (ad 2021), .ref (ad 2022)])) := by rw [e_33]; exact mp_keepN h_mo z_34
  have hm2001 : S31 (ad 2001) = some (2001, .inl ((g 0), 40000, .inl (fun _ => 0))) := by rw [e_33]; exact mp_keepN hm2001 z_34
  have hm2002 : S31 (ad 2002) = some (2002, .inl ((g 0), 12, .inl (fun _ => 0))) := by rw [e_33]; exact mp_keepN hm2002 z_34
  have hm2003 : S31 (ad 2003) = some (2003, .inl ((g 0), 12000, .inl (fun _ => 0))) := by rw [e_33]; exact mp_keepN hm2003 z_34
  have hm2004 : S31 (ad 2004) = some (2004, .inl ((g 0), 12000, .inl (fun _ => 0))) := by rw [e_33]; exact mp_keepN hm2004 z_34
  have hm2005 : S31 (ad 2005) = some (2005, .inl ((g 0), 12, .inl (fun _ => 0))) := by rw [e_33]; exact mp_keepN hm2005 z_34
  have hm2006 : S31 (ad 2006) = some (2006, .inl ((g 0), 12, .inl (fun _ => 0))) := by rw [e_33]; exact mp_keepN hm2006 z_34
  have hm2007 : S31 (ad 2007) = some (2007, .inl ((g 0), 21952, .inl (fun _ => 0))) := by rw [e_33]; exact mp_keepN hm2007 z_34
  have hm2008 : S31 (ad 2008) = some (2008, .inl ((g 0), 17, .inl (fun _ => 0))) := by rw [e_33]; exact mp_keepN hm2008 z_34
  have hm2009 : S31 (ad 2009) = some (2009, .inl ((g 0), 768, .inl (fun _ => 0))) := by rw [e_33]; exact mp_keepN hm2009 z_34
  have hm2010 : S31 (ad 2010) = some (2010, .inl ((g 0), 3, .inl (fun _ => 0))) := by rw [e_33]; exact mp_keepN hm2010 z_34
  have hm2011 : S31 (ad 2011) = some (2011, .inl ((g 0), 51, .inl (fun _ => 0))) := by rw [e_33]; exact mp_keepN hm2011 z_34
  have hm2012 : S31 (ad 2012) = some (2012, .inl ((g 0), 3, .inl (fun _ => 0))) := by rw [e_33]; exact mp_keepN hm2012 z_34
  have hm2013 : S31 (ad 2013) = some (2013, .inl ((g 0), 51, .inl (fun _ => 0))) := by rw [e_33]; exact mp_keepN hm2013 z_34
  have hm2014 : S31 (ad 2014) = some (2014, .inl ((g 0), 51, .inl (fun _ => 0))) := by rw [e_33]; exact mp_keepN hm2014 z_34
  have hm2015 : S31 (ad 2015) = some (2015, .inl ((g 0), 17, .inl (fun _ => 0))) := by rw [e_33]; exact mp_keepN hm2015 z_34
  have hm2016 : S31 (ad 2016) = some (2016, .inl ((g 5), 3, .inl (fun _ => 0))) := by rw [e_33]; exact mp_keepN hm2016 z_34
  have hm2017 : S31 (ad 2017) = some (2017, .inl ((g 0), 16, .inl (fun _ => 0))) := by rw [e_33]; exact mp_keepN hm2017 z_34
  have hm2018 : S31 (ad 2018) = some (2018, .inl ((g 0), 16, .inl (fun _ => 0))) := by rw [e_33]; exact mp_keepN hm2018 z_34
  have hm2019 : S31 (ad 2019) = some (2019, .inl ((g 0), 1700, .inl (fun _ => 0))) := by rw [e_33]; exact mp_keepN hm2019 z_34
  have hm2020 : S31 (ad 2020) = some (2020, .inl ((g 0), 64, .inl (fun _ => 0))) := by rw [e_33]; exact mp_keepN hm2020 z_34
  have hm2021 : S31 (ad 2021) = some (2021, .inl ((g 0), 256, .inl (fun _ => 0))) := by rw [e_33]; exact mp_keepN hm2021 z_34
  have hm2022 : S31 (ad 2022) = some (2022, .inl ((g 0), 256, .inl (fun _ => 0))) := by rw [e_33]; exact mp_keepN hm2022 z_34
  have h_36 : S31 a35 = some (9, .inl ((g 4), 1, .inr (.inl (fun _ => 0)))) := by rw [e_33]; exact mp_us _ _ _
  have hE := yS_kept hE (S1 := S31) (fun b t9 e9 hb9 h1 h2 => by rw [e_33]; exact mp_un (fun z9 => by rw [z9, z_34] at hb9; cases hb9))
  have hE2 := yS_kept hE2 (S1 := S31) (fun b t9 e9 hb9 h1 h2 => by rw [e_33]; exact mp_un (fun z9 => by rw [z9, z_34] at hb9; cases hb9))
  refine lv_astore_n (lv' := [(3, .ref a35), (2, .ref a20), (1, .ref a5), (0, .ref b)]) hx hb d_L_law_29 rfl hl (by decide) rfl (fun ls hl => ?_)
  refine lv_iconst (v := nI 1) hx hb d_L_law_30 (by decide) ?_
  refine lv_istore (lv' := [(4, .int (nI 1)), (3, .ref a35), (2, .ref a20), (1, .ref a5), (0, .ref b)]) hx hb d_L_law_31 hl (by decide) rfl (fun ls hl => ?_)
  have hn3 := lc_3 (if 0 < L then xs 0 else 0)
  have hn1 := lc_1 (if 0 < L then xs 0 else 0)
  have hV : lawI g (lcN (if 0 < L then xs 0 else 0)) a5 a20 a35 S31 := ⟨(pa), (lo), (fa), (ma), (hd), (eo), (bo), (ad), (fun _ _ => 0), (0), (0), (0), (0), (0), (0), (.null), (fun _ => 0), (fun _ => (0, 0, 0)), (fun _ => 0), (fun _ _ => (0, 0, 0)), (fun _ _ => 0), (0), (0), (0), (0), (0), (fun _ => 0), (fun _ => 0), (fun _ => 0), (fun _ => 0), (fun _ => 0), (fun _ => 0), (fun _ => 0), ((fun _ => 0)), h_o, h_pa, h_fa, h_36, h_mo, hm2001, hm2008, hm2010, hm2011, hm2014, hm2015, hm2016, (⟨ek, en, fun _ => 4, fun _ => 0, fun _ _ => 0, fun _ _ => 0, hE, fun i hi => ⟨pY_0 _ _, fun k q => absurd rfl q, Nat.zero_le _, Nat.le_refl _, show 4 ≤ 2048 by decide⟩⟩), (⟨bk, bn, fun _ => 4, fun _ => 0, fun _ _ => 0, fun _ _ => 0, fun _ => 0, h_lo, h_ma, h_hd, hE2, fun i hi => show 4 ≤ 2048 by decide, fun i hi => absurd hi (Nat.not_lt_zero i), Nat.zero_le _, fun i hi => absurd hi (Nat.not_lt_zero i)⟩), (⟨fun _ => 0, fun _ => 0, fun _ => 0, fun _ => 0, fun _ => 0, fun _ => 0, fun _ _ => (0, 0, 0), fun _ _ => 0, fun _ => 0, hm2002, hm2003, hm2004, hm2005, hm2006, fun i hi => absurd hi (Nat.not_lt_zero i), Nat.zero_le _, fun i hi => absurd hi (Nat.not_lt_zero i)⟩), (⟨fun _ => 0, fun _ => 0, fun _ => 0, fun _ => 0, fun _ => 0, fun _ => 0, fun _ => 0, fun _ => 0, fun _ => 0, fun _ => 0, fun _ _ => rfl, hm2007, hm2009, hm2012, hm2013, hm2017, hm2018, hm2019, hm2020, hm2021, hm2022⟩), (Or.inl ⟨rfl, by decide, Or.inl rfl⟩), (Nat.zero_le _), (Nat.zero_le _), (Nat.le_refl _), (fun k hk u hu => rfl), (fun k hk u hu hc => absurd rfl hc), (fun i hi => absurd hi (Nat.not_lt_zero i)), (Or.inl ⟨by decide, by decide, rfl⟩)⟩
  exact lw_loop hx hb hr hml hts hg hown hlocks hK hX hL hl9 hn3 hn1 512 0 _ _ S31 _ _ ls (by omega) (by omega) (by omega) hV hI (lv_sub hl [0, 1, 2, 3, 4] rfl)

set_option maxHeartbeats 4000000 in
theorem lw_walk (l : Launch) (hl9 : l.stackTraces = false) (b : Addr) (xs : List Int32) : MetFree l x (headSpec (Jvm.Cond.code x code maxLocals ret :: tables_1) room_1) (lw_P b xs) (fun _ _ _ _ _ => True) lw_Q := by
  refine MetFree.of_bodyS (code := code) (maxLocals := maxLocals) (ret := ret) (by decide) ?_ ?_
  · intro args s m h hn
    obtain ⟨meth, c, h1, h2, h3, h4, h5, h6, -, -⟩ := Cond.code_spec hn (atoms_spec (ws := Jvm.Cond.code x code maxLocals ret :: tables_1) h _ List.mem_cons_self)
    exact ⟨meth, c, h1, h2, h3, h4, h5, h6⟩
  · intro p e s m args below meth c s₁ B hml0 hP _
    obtain ⟨rfl, hx, hbd, hgv⟩ := hP
    obtain ⟨scr, harrAt, hlist, hof, hsmall⟩ := hx
    obtain ⟨hcb, hkn, -, -⟩ := State.arrayAt?_spec harrAt
    have hown : s.vm.findClass R_law = some m.cls := findClass_of_methodNamed B.named
    have hts0 : ∀ c ∈ (Jvm.Cond.code x code maxLocals ret :: tables_1), c.before #[Value.ref b] s = true := atoms_spec (ws := Jvm.Cond.code x code maxLocals ret :: tables_1) B.pre
    have hts : ∀ w ∈ lw_tbl, w.before #[Value.ref b] s = true := k2_hts_sels lw_privs (fun w hw => hts0 w (List.mem_cons_of_mem _ hw)) lw_privs_ok
    have hml : c.maxLocals = 7 := B.maxLocals_eq (hts0 _ List.mem_cons_self)
    have X₀ : Stand p l e room_1 s m #[Value.ref b] below meth c s₁ [] 0 0 := Stand.of_body B
    have hh0 : s₁.heap = s.heap := by rw [B.state]; rfl
    have hsz : scr.slots.size = xs.length := by rw [← Array.length_toList, hlist, List.length_map]
    have hval : ∀ j : Nat, j < xs.length → scr.slots[j]? = some (.int (xs.getD j 0)) := fun j hj => by
      rw [← Array.getElem?_toList, hlist]
      simp [hj]
    have hbl : b < s.heap.size := (Array.getElem?_eq_some_iff.mp hcb).1
    have hX : va_X b xs.length (fun j => xs.getD j 0) s s.heap := ⟨scr, hcb, hof, hkn, hsz, hval⟩
    have K : W p l e room_1 s m #[Value.ref b] below meth c s₁.heap [] 0 0 (lw_Z below #[Value.ref b] s) (entryFrame m ([Value.ref b] : List Value).toArray 7) := by
      rw [hh0]
      exact whole_start l hl9 hbd ⟨B.exec, B.bytes, B.returns, hml, hown, hts, hX, hbl, B.notSynchronized, hgv⟩
    obtain ⟨t, a1, o, b1, b2, b3⟩ := K s₁ rfl X₀
    exact ⟨t, o, a1, b1, b2, b3⟩
theorem lw_pre_spec {args : Array Value} {s : State} (h : (Jvm.Cond.and given_1 narrow_1).before args s = true) (hr : rest_1_c.before args s = true) : ∃ (b : Addr) (xs : List Int32), lw_P b xs args s := by
  have hs := flat_of_before _ h
  have hq := flat_of_before _ hr
  have hc : (Cond.count 1).before args s = true := hs _ (by decide +kernel)
  have harr : (Cond.arrayOf (.arg 0) .int).before args s = true := hs _ (by decide +kernel)
  have hle : (Cond.le (.length (.arg 0)) (.int 3585)).before args s = true := hs _ (by decide +kernel)
  have hlen : (Cond.isInt (.length (.arg 0))).before args s = true := hq _ (by decide +kernel)
  have hall : (Cond.all (.arg 0) (.isInt (.elem (.arg 0) (.index 0)))).before args s = true := hq _ (by decide +kernel)
  obtain ⟨b, xs, hb, hx⟩ := State.ints_of_pre rfl harr hlen hall
  have hsm : xs.length < 2 ^ 31 := hx.choose_spec.2.2.2
  have hev : (Term.length (.arg 0)).eval args s none [] s = some (.int xs.length.toInt32) := hx.length_eval hb
  have hv := Cond.le_ints hev (show (Term.int 3585).eval args s none [] s = some (.int 3585) from rfl)
  have hd : xs.length.toInt32 ≤ 3585 := by
    simpa [Cond.before, Cond.holds, hv] using hle
  have hN : xs.length ≤ 3585 := (Int32.ofNat_le_ofNat hsm (by decide)).mp (show Int32.ofNat xs.length ≤ Int32.ofNat 3585 from hd)
  exact ⟨b, xs, Cond.one_arg hc (show args[0]? = some (.ref b) from hb), hx, hN, h⟩
theorem lw_comes (l : Launch) (hl9 : l.stackTraces = false) : Comes l x (Jvm.Cond.code x code maxLocals ret :: tables_1) room_1 (fun tb e args s => Calls_1 tb e args s ∧ rest_1 tb e args s ∧ Pre_1 tb e args s)
    (fun _ _ args s o t => lw_Q args s o t) := by
  intro p e ha hc hk s m args below hf hfit hheap happ hpre
  obtain ⟨b, xs, hP⟩ := lw_pre_spec hpre.2.2 hpre.2.1
  obtain ⟨k, o, h1, h2, h3, hQ⟩ := lw_walk l hl9 b xs p e ha hc hk s m args below hf ((Spec.applies_iff_loose hf).mp happ).1 hP trivial
  exact ⟨k, o, h1, h2, h3, hQ⟩
theorem lw_frame {s t : State} {o : Outcome} {args : Array Value} (h : Framed s o t [] 164015 8604026) :
    Framed s o t (fieldLocs frame_1_writes args s ++ arrayLocs frame_1_arrays args s ++ staticLocs frame_1_statics s) 164015 8604026 := h
theorem lw_limb (L : Cond) (hL : ∀ (args : Array Value) (s t : State), L.after args s (.returned (some (.int 1))) t = true) :
    ArmFor flags0 classFile x code maxLocals ret World_1 tables_1 room_1 Calls_1 rest_1 Pre_1
      (fun tb e a s o t => postC L tb e a s o t ∧ Framed s o t (fieldLocs frame_1_writes a s ++ arrayLocs frame_1_arrays a s ++ staticLocs frame_1_statics s) 164015 8604026) := by
  intro l hfl _ _ p e ha hc hk s m args below hf hfit hheap happ hpre
  obtain ⟨k, o, h1, h2, h3, rfl, hF⟩ := lw_comes l (by unfold Launch.stackTraces; rw [hfl]; decide) p e ha hc hk s m args below hf hfit hheap happ hpre
  exact ⟨k, _, h1, h2, h3, hL args s _, lw_frame hF⟩
theorem i_vc : Claimed_1_1 ∧ Claimed_1_2 := ⟨lw_limb limb_1_1 (fun args s t => by simp [limb_1_1, Cond.after, Cond.holds, Cond.value]), lw_limb limb_1_2 (fun args s t => Cond.after_iff.mpr (by
  first | (rw [show limb_1_2 = Cond.eq .result (.int 1) from rfl, Cond.eq_ints (x := 1) (y := 1) rfl rfl]; simp; done) | (simp [limb_1_2, Cond.value, Term.eval]; done)))⟩
