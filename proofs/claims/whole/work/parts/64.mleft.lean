/-- the powers that are left, below Q, as the reference holds them -/
def flI (n : Nat) (h : Nat → m3) (L Q sz : Nat) (LF : Nat → Nat) : Prop := ∃ lf, colS (lfP n h L) Q sz lf ∧ ∀ k, k < sz → LF k = pN (Ep (lf k)).1 (Ep (lf k)).2.1 (Ep (lf k)).2.2
theorem flI_no {n : Nat} {h : Nat → m3} {L Q sz : Nat} {LF : Nat → Nat} (H : flI n h L Q sz LF) (hn : ¬ lfP n h L Q) : flI n h L (Q + 1) sz LF := by
  obtain ⟨lf, h1, h2⟩ := H
  exact ⟨lf, colS_no h1 hn, h2⟩
theorem flI_yes {n : Nat} {h : Nat → m3} {L Q sz v : Nat} {LF : Nat → Nat} (H : flI n h L Q sz LF) (hy : lfP n h L Q) (hv : v = pN (Ep Q).1 (Ep Q).2.1 (Ep Q).2.2) : flI n h L (Q + 1) (sz + 1) (va_up LF sz v) := by
  obtain ⟨lf, h1, h2⟩ := H
  refine ⟨va_up lf sz Q, colS_yes h1 hy (fun k hk => mp_un (by omega)) (mp_us _ _ _), fun k hk => ?_⟩
  by_cases e : k = sz
  · rw [e, mp_us, mp_us]; exact hv
  · rw [mp_un e, mp_un e]; exact h2 k (by omega)
theorem flI_17 {n : Nat} {h : Nat → m3} {L Q : Nat} {LF : Nat → Nat} (H : flI n h L Q 16 LF) (hy : lfP n h L Q) : ∃ Q9 lf, colS (lfP n h L) Q9 17 lf := by
  obtain ⟨lf, h1, h2⟩ := H
  exact ⟨Q + 1, va_up lf 16 Q, colS_yes h1 hy (fun k hk => mp_un (by omega)) (mp_us _ _ _)⟩

theorem d_M_findLeft_0 : decode b_M_findLeft 0 = .ok (.aload_n 0, 1) := by decide +kernel
theorem d_M_findLeft_1 : decode b_M_findLeft 1 = .ok (.iconst 0, 1) := by decide +kernel
theorem d_M_findLeft_2 : decode b_M_findLeft 2 = .ok (.putfield 171, 3) := by decide +kernel
theorem d_M_findLeft_5 : decode b_M_findLeft 5 = .ok (.iconst 0, 1) := by decide +kernel
theorem d_M_findLeft_6 : decode b_M_findLeft 6 = .ok (.istore_n 1, 1) := by decide +kernel
theorem d_M_findLeft_7 : decode b_M_findLeft 7 = .ok (.iload_n 1, 1) := by decide +kernel
theorem d_M_findLeft_8 : decode b_M_findLeft 8 = .ok (.bipush 28, 2) := by decide +kernel
theorem d_M_findLeft_10 : decode b_M_findLeft 10 = .ok (.if_icmp .ge 135, 3) := by decide +kernel
theorem d_M_findLeft_13 : decode b_M_findLeft 13 = .ok (.iconst 0, 1) := by decide +kernel
theorem d_M_findLeft_14 : decode b_M_findLeft 14 = .ok (.istore_n 2, 1) := by decide +kernel
theorem d_M_findLeft_15 : decode b_M_findLeft 15 = .ok (.iload_n 2, 1) := by decide +kernel
theorem d_M_findLeft_16 : decode b_M_findLeft 16 = .ok (.iload_n 1, 1) := by decide +kernel
theorem d_M_findLeft_17 : decode b_M_findLeft 17 = .ok (.if_icmp .gt 122, 3) := by decide +kernel
theorem d_M_findLeft_20 : decode b_M_findLeft 20 = .ok (.iconst 0, 1) := by decide +kernel
theorem d_M_findLeft_21 : decode b_M_findLeft 21 = .ok (.istore_n 3, 1) := by decide +kernel
theorem d_M_findLeft_22 : decode b_M_findLeft 22 = .ok (.iload_n 3, 1) := by decide +kernel
theorem d_M_findLeft_23 : decode b_M_findLeft 23 = .ok (.iload_n 1, 1) := by decide +kernel
theorem d_M_findLeft_24 : decode b_M_findLeft 24 = .ok (.iload_n 2, 1) := by decide +kernel
theorem d_M_findLeft_25 : decode b_M_findLeft 25 = .ok (.isub, 1) := by decide +kernel
theorem d_M_findLeft_26 : decode b_M_findLeft 26 = .ok (.if_icmp .gt 107, 3) := by decide +kernel
theorem d_M_findLeft_29 : decode b_M_findLeft 29 = .ok (.iload_n 1, 1) := by decide +kernel
theorem d_M_findLeft_30 : decode b_M_findLeft 30 = .ok (.iload_n 2, 1) := by decide +kernel
theorem d_M_findLeft_31 : decode b_M_findLeft 31 = .ok (.isub, 1) := by decide +kernel
theorem d_M_findLeft_32 : decode b_M_findLeft 32 = .ok (.iload_n 3, 1) := by decide +kernel
theorem d_M_findLeft_33 : decode b_M_findLeft 33 = .ok (.isub, 1) := by decide +kernel
theorem d_M_findLeft_34 : decode b_M_findLeft 34 = .ok (.istore 4, 2) := by decide +kernel
theorem d_M_findLeft_36 : decode b_M_findLeft 36 = .ok (.aload_n 0, 1) := by decide +kernel
theorem d_M_findLeft_37 : decode b_M_findLeft 37 = .ok (.getfield 78, 3) := by decide +kernel
theorem d_M_findLeft_40 : decode b_M_findLeft 40 = .ok (.iconst 1, 1) := by decide +kernel
theorem d_M_findLeft_41 : decode b_M_findLeft 41 = .ok (.if_icmp .gt 7, 3) := by decide +kernel
theorem d_M_findLeft_44 : decode b_M_findLeft 44 = .ok (.iload_n 3, 1) := by decide +kernel
theorem d_M_findLeft_45 : decode b_M_findLeft 45 = .ok (.ifCond .ne 20, 3) := by decide +kernel
theorem d_M_findLeft_48 : decode b_M_findLeft 48 = .ok (.aload_n 0, 1) := by decide +kernel
theorem d_M_findLeft_49 : decode b_M_findLeft 49 = .ok (.getfield 78, 3) := by decide +kernel
theorem d_M_findLeft_52 : decode b_M_findLeft 52 = .ok (.iconst 2, 1) := by decide +kernel
theorem d_M_findLeft_53 : decode b_M_findLeft 53 = .ok (.if_icmp .gt 8, 3) := by decide +kernel
theorem d_M_findLeft_56 : decode b_M_findLeft 56 = .ok (.iload 4, 2) := by decide +kernel
theorem d_M_findLeft_58 : decode b_M_findLeft 58 = .ok (.ifCond .ne 7, 3) := by decide +kernel
theorem d_M_findLeft_61 : decode b_M_findLeft 61 = .ok (.iconst 1, 1) := by decide +kernel
theorem d_M_findLeft_62 : decode b_M_findLeft 62 = .ok (.goto 4, 3) := by decide +kernel
theorem d_M_findLeft_65 : decode b_M_findLeft 65 = .ok (.iconst 0, 1) := by decide +kernel
theorem d_M_findLeft_66 : decode b_M_findLeft 66 = .ok (.istore 5, 2) := by decide +kernel
theorem d_M_findLeft_68 : decode b_M_findLeft 68 = .ok (.iload 5, 2) := by decide +kernel
theorem d_M_findLeft_70 : decode b_M_findLeft 70 = .ok (.ifCond .eq 57, 3) := by decide +kernel
theorem d_M_findLeft_73 : decode b_M_findLeft 73 = .ok (.aload_n 0, 1) := by decide +kernel
theorem d_M_findLeft_74 : decode b_M_findLeft 74 = .ok (.iload_n 2, 1) := by decide +kernel
theorem d_M_findLeft_75 : decode b_M_findLeft 75 = .ok (.iload_n 3, 1) := by decide +kernel
theorem d_M_findLeft_76 : decode b_M_findLeft 76 = .ok (.iload 4, 2) := by decide +kernel
theorem d_M_findLeft_78 : decode b_M_findLeft 78 = .ok (.invokevirtual 145, 3) := by decide +kernel
theorem d_M_findLeft_81 : decode b_M_findLeft 81 = .ok (.iconst (-1), 1) := by decide +kernel
theorem d_M_findLeft_82 : decode b_M_findLeft 82 = .ok (.if_icmp .ne 45, 3) := by decide +kernel
theorem d_M_findLeft_85 : decode b_M_findLeft 85 = .ok (.aload_n 0, 1) := by decide +kernel
theorem d_M_findLeft_86 : decode b_M_findLeft 86 = .ok (.getfield 171, 3) := by decide +kernel
theorem d_M_findLeft_89 : decode b_M_findLeft 89 = .ok (.bipush 16, 2) := by decide +kernel
theorem d_M_findLeft_91 : decode b_M_findLeft 91 = .ok (.if_icmp .ne 5, 3) := by decide +kernel
theorem d_M_findLeft_94 : decode b_M_findLeft 94 = .ok (.iconst 0, 1) := by decide +kernel
theorem d_M_findLeft_95 : decode b_M_findLeft 95 = .ok (.ireturn, 1) := by decide +kernel
theorem d_M_findLeft_96 : decode b_M_findLeft 96 = .ok (.aload_n 0, 1) := by decide +kernel
theorem d_M_findLeft_97 : decode b_M_findLeft 97 = .ok (.getfield 32, 3) := by decide +kernel
theorem d_M_findLeft_100 : decode b_M_findLeft 100 = .ok (.aload_n 0, 1) := by decide +kernel
theorem d_M_findLeft_101 : decode b_M_findLeft 101 = .ok (.getfield 171, 3) := by decide +kernel
theorem d_M_findLeft_104 : decode b_M_findLeft 104 = .ok (.iload_n 2, 1) := by decide +kernel
theorem d_M_findLeft_105 : decode b_M_findLeft 105 = .ok (.bipush 10, 2) := by decide +kernel
theorem d_M_findLeft_107 : decode b_M_findLeft 107 = .ok (.iload_n 3, 1) := by decide +kernel
theorem d_M_findLeft_108 : decode b_M_findLeft 108 = .ok (.imul, 1) := by decide +kernel
theorem d_M_findLeft_109 : decode b_M_findLeft 109 = .ok (.iadd, 1) := by decide +kernel
theorem d_M_findLeft_110 : decode b_M_findLeft 110 = .ok (.bipush 100, 2) := by decide +kernel
theorem d_M_findLeft_112 : decode b_M_findLeft 112 = .ok (.iload 4, 2) := by decide +kernel
theorem d_M_findLeft_114 : decode b_M_findLeft 114 = .ok (.imul, 1) := by decide +kernel
theorem d_M_findLeft_115 : decode b_M_findLeft 115 = .ok (.iadd, 1) := by decide +kernel
theorem d_M_findLeft_116 : decode b_M_findLeft 116 = .ok (.iastore, 1) := by decide +kernel
theorem d_M_findLeft_117 : decode b_M_findLeft 117 = .ok (.aload_n 0, 1) := by decide +kernel
theorem d_M_findLeft_118 : decode b_M_findLeft 118 = .ok (.dup, 1) := by decide +kernel
theorem d_M_findLeft_119 : decode b_M_findLeft 119 = .ok (.getfield 171, 3) := by decide +kernel
theorem d_M_findLeft_122 : decode b_M_findLeft 122 = .ok (.iconst 1, 1) := by decide +kernel
theorem d_M_findLeft_123 : decode b_M_findLeft 123 = .ok (.iadd, 1) := by decide +kernel
theorem d_M_findLeft_124 : decode b_M_findLeft 124 = .ok (.putfield 171, 3) := by decide +kernel
theorem d_M_findLeft_127 : decode b_M_findLeft 127 = .ok (.iinc 3 1, 3) := by decide +kernel
theorem d_M_findLeft_130 : decode b_M_findLeft 130 = .ok (.goto (-108), 3) := by decide +kernel
theorem d_M_findLeft_133 : decode b_M_findLeft 133 = .ok (.iinc 2 1, 3) := by decide +kernel
theorem d_M_findLeft_136 : decode b_M_findLeft 136 = .ok (.goto (-121), 3) := by decide +kernel
theorem d_M_findLeft_139 : decode b_M_findLeft 139 = .ok (.iinc 1 1, 3) := by decide +kernel
theorem d_M_findLeft_142 : decode b_M_findLeft 142 = .ok (.goto (-135), 3) := by decide +kernel
theorem d_M_findLeft_145 : decode b_M_findLeft 145 = .ok (.iconst 1, 1) := by decide +kernel
theorem d_M_findLeft_146 : decode b_M_findLeft 146 = .ok (.ireturn, 1) := by decide +kernel
set_option maxHeartbeats 4000000 in
set_option maxRecDepth 100000 in
theorem lp_M_left3 {p : Program} {l : Launch} {e : Env} {R : Room} {s : State} {m : MethodId} {args : Array Value} {below : List Frame} {meth : Method} {c : Code} {Q : State → Prop} {D : mp_G} {g : Nat → ClassId} {A : Nat → Prop} {cells slots : Nat} (hx : p.tables.exec = Jvm.exec) (hb : c.code = b_M_findLeft) (hml : c.maxLocals = 6) (hg : ∀ w ∈ gw, w.before args s = true) (hown : s.vm.findClass R_M = some m.cls) (hK : mp_K D classes (tys g) s) (hRf : 2 ≤ R.frames) (hRl : 45 ≤ R.locals) (hRc : cells ≤ R.cells) (hRs : slots ≤ R.slots) {B : mp_M} {o hd le n nl : Nat} {mv1 mv2 mv3 mv4 mv6 mv7 mv8 mv10 mv11 mv12 mv13 mv16 mv17 mv18 mv19 mv20 mv21 mv22 mv23 mv24 mv25 mv26 mv27 mv28 mv29 mv30 : Value} {hf : Nat → Int32} {h : Nat → m3} {a9 d9 : Nat} (hh : mhS n (fun i => (h i).1) (fun i => (h i).2.1) (fun i => (h i).2.2) hf) (hn : n ≤ 12) (hnl : nl ≤ 3) (hd9 : d9 < 28) (ha9 : a9 ≤ d9) : ∀ (k : Nat) (i : Nat) (s9 : Nat) (LF : Nat → Nat) (S : mp_M) (H : Heap) (locs : List Loc) (ls : Array Slot), i + k = d9 - a9 + 1 → (s9 ≤ 16) → (flI n h nl (plN a9 0 (d9 - a9) + i) s9 LF) → S o = some (2000, .inr (10, [.int (nI nl), mv1, mv2, mv3, mv4, .int (nI n), mv6, mv7, mv8, .ref hd, mv10, mv11, mv12, mv13, .int (nI s9), .ref le, mv16, mv17, mv18, mv19, mv20, mv21, mv22, mv23, mv24, mv25, mv26, mv27, mv28, mv29, mv30])) → S hd = some (2005, .inl ((g 0), 12, .inl hf)) → S le = some (2008, .inl ((g 0), 17, .inl (fun j => nI (LF j)))) → (∀ b t e9, B b = some (t, e9) → (t ≠ 2000) → (t ≠ 2008) → S b = some (t, e9)) → mp_I D classes A s.heap S H locs → lv_has ls 6 [(3, .int (nI i)), (2, .int (nI a9)), (1, .int (nI d9)), (0, .ref o)] → (∀ (s9 : Nat) (LF : Nat → Nat) (S : mp_M) (H : Heap) (locs : List Loc) (ls : Array Slot), (s9 ≤ 16) → (flI n h nl (plN a9 0 (d9 - a9) + (d9 - a9 + 1)) s9 LF) → S o = some (2000, .inr (10, [.int (nI nl), mv1, mv2, mv3, mv4, .int (nI n), mv6, mv7, mv8, .ref hd, mv10, mv11, mv12, mv13, .int (nI s9), .ref le, mv16, mv17, mv18, mv19, mv20, mv21, mv22, mv23, mv24, mv25, mv26, mv27, mv28, mv29, mv30])) → S hd = some (2005, .inl ((g 0), 12, .inl hf)) → S le = some (2008, .inl ((g 0), 17, .inl (fun j => nI (LF j)))) → (∀ b t e9, B b = some (t, e9) → (t ≠ 2000) → (t ≠ 2008) → S b = some (t, e9)) → mp_I D classes A s.heap S H locs → lv_has ls 6 [(3, .int (nI (d9 - a9 + 1))), (2, .int (nI a9)), (1, .int (nI d9)), (0, .ref o)] → W p l e R s m args below meth c H locs cells slots Q (F0 m 133 ls [])) → (∀ (LF : Nat → Nat) (S : mp_M) (H : Heap) (locs : List Loc) (ls : Array Slot), (∃ Q9 lf, colS (lfP n h nl) Q9 17 lf) → S o = some (2000, .inr (10, [.int (nI nl), mv1, mv2, mv3, mv4, .int (nI n), mv6, mv7, mv8, .ref hd, mv10, mv11, mv12, mv13, .int (nI 16), .ref le, mv16, mv17, mv18, mv19, mv20, mv21, mv22, mv23, mv24, mv25, mv26, mv27, mv28, mv29, mv30])) → S hd = some (2005, .inl ((g 0), 12, .inl hf)) → S le = some (2008, .inl ((g 0), 17, .inl (fun j => nI (LF j)))) → (∀ b t e9, B b = some (t, e9) → (t ≠ 2000) → (t ≠ 2008) → S b = some (t, e9)) → mp_I D classes A s.heap S H locs → lv_has ls 6 [(0, .ref o)] → W p l e R s m args below meth c H locs cells slots Q (F0 m 94 ls [])) → W p l e R s m args below meth c H locs cells slots Q (F0 m 22 ls []) := by
  intro k
  induction k with
  | zero =>
    intro i s9 LF S H locs ls hi hs9 hfl h_o h_hd h_le hfr hI hl kx ky
    refine lv_iload_n hx hb d_M_findLeft_22 rfl (lv_at hl 0 rfl) ?_
    refine lv_iload_n hx hb d_M_findLeft_23 rfl (lv_at hl 2 rfl) ?_
    refine lv_iload_n hx hb d_M_findLeft_24 rfl (lv_at hl 1 rfl) ?_
    refine lv_isub hx hb d_M_findLeft_25 ?_
    refine lv_topi (fun v1 ev1 => ?_)
    obtain rfl : v1 = nI (d9 - a9) := ev1.trans (pk_sub (by omega))
    refine lv_icmp_gt (tgt := 133) hx hb d_M_findLeft_26 (by decide) (fun _ => ?_) (fun h9 => absurd ((nI_ltI (by omega) (by omega)).mpr (by omega)) h9)
    obtain rfl : i = d9 - a9 + 1 := by omega
    exact kx s9 LF S H locs ls hs9 hfl h_o h_hd h_le hfr hI (lv_sub hl [0, 1, 2, 3] rfl)
  | succ k ih =>
    intro i s9 LF S H locs ls hi hs9 hfl h_o h_hd h_le hfr hI hl kx ky
    have hpl : pl3 (a9, i, d9 - a9 - i) = (plN a9 0 (d9 - a9) + i) := plN_b (a := a9) (b := i) (d := d9) (by omega)
    have hEp : Ep (plN a9 0 (d9 - a9) + i) = (a9, i, d9 - a9 - i) := by rw [← hpl, Ep_pl3]
    refine lv_iload_n hx hb d_M_findLeft_22 rfl (lv_at hl 0 rfl) ?_
    refine lv_iload_n hx hb d_M_findLeft_23 rfl (lv_at hl 2 rfl) ?_
    refine lv_iload_n hx hb d_M_findLeft_24 rfl (lv_at hl 1 rfl) ?_
    refine lv_isub hx hb d_M_findLeft_25 ?_
    refine lv_topi (fun v1 ev1 => ?_)
    obtain rfl : v1 = nI (d9 - a9) := ev1.trans (pk_sub (by omega))
    refine lv_icmp_gt (tgt := 133) hx hb d_M_findLeft_26 (by decide) (fun h9 => absurd h9 (by rw [nI_ltI (by omega) (by omega)]; omega)) (fun _ => ?_)
    refine lv_iload_n hx hb d_M_findLeft_29 rfl (lv_at hl 2 rfl) ?_
    refine lv_iload_n hx hb d_M_findLeft_30 rfl (lv_at hl 1 rfl) ?_
    refine lv_isub hx hb d_M_findLeft_31 ?_
    refine lv_topi (fun v2 ev2 => ?_)
    obtain rfl : v2 = nI (d9 - a9) := ev2.trans (pk_sub (by omega))
    refine lv_iload_n hx hb d_M_findLeft_32 rfl (lv_at hl 0 rfl) ?_
    refine lv_isub hx hb d_M_findLeft_33 ?_
    refine lv_topi (fun v3 ev3 => ?_)
    obtain rfl : v3 = nI ((d9 - a9) - i) := ev3.trans (pk_sub (by omega))
    refine lv_istore (lv' := [(4, .int (nI ((d9 - a9) - i))), (3, .int (nI i)), (2, .int (nI a9)), (1, .int (nI d9)), (0, .ref o)]) hx hb d_M_findLeft_34 hl (by decide) rfl (fun ls hl => ?_)
    refine lv_aload_n hx hb d_M_findLeft_36 rfl (lv_at hl 4 rfl) ?_
    refine mp_get (C := R_M) (T := F_M) (N := 31) (v := .int (nI nl)) hx hb hg i_M hown hK.va hI h_o rfl 0 (by decide) (hg _ q_804) (fun _ h9 => h9) rfl d_M_findLeft_37 ?_
    refine lv_iconst (v := nI 1) hx hb d_M_findLeft_40 (by decide) ?_
    refine lv_icmp_gt (tgt := 48) hx hb d_M_findLeft_41 (by decide) (fun c1 => ?_) (fun c1 => ?_)
    · rw [nI_ltI (by omega) (by omega)] at c1
      refine lv_aload_n hx hb d_M_findLeft_48 rfl (lv_at hl 4 rfl) ?_
      refine mp_get (C := R_M) (T := F_M) (N := 31) (v := .int (nI nl)) hx hb hg i_M hown hK.va hI h_o rfl 0 (by decide) (hg _ q_804) (fun _ h9 => h9) rfl d_M_findLeft_49 ?_
      refine lv_iconst (v := nI 2) hx hb d_M_findLeft_52 (by decide) ?_
      refine lv_icmp_gt (tgt := 61) hx hb d_M_findLeft_53 (by decide) (fun c2 => ?_) (fun c2 => ?_)
      · rw [nI_ltI (by omega) (by omega)] at c2
        have hIn : InL nl (Ep (plN a9 0 (d9 - a9) + i)) := by rw [hEp]; show (1 < nl ∨ i = 0) ∧ (2 < nl ∨ d9 - a9 - i = 0); omega
        refine lv_iconst (v := nI 1) hx hb d_M_findLeft_61 (by decide) ?_
        refine lv_goto (tgt := 66) hx hb d_M_findLeft_62 (by decide) ?_
        refine lv_istore (lv' := [(5, .int (nI 1)), (4, .int (nI ((d9 - a9) - i))), (3, .int (nI i)), (2, .int (nI a9)), (1, .int (nI d9)), (0, .ref o)]) hx hb d_M_findLeft_66 hl (by decide) rfl (fun ls hl => ?_)
        refine lv_iload hx hb d_M_findLeft_68 (lv_at hl 0 rfl) ?_
        refine lv_if_eq (tgt := 127) hx hb d_M_findLeft_70 (by decide) (fun h9 => absurd h9 (by decide)) (fun _ => ?_)
        refine lv_aload_n hx hb d_M_findLeft_73 rfl (lv_at hl 5 rfl) ?_
        refine lv_iload_n hx hb d_M_findLeft_74 rfl (lv_at hl 3 rfl) ?_
        refine lv_iload_n hx hb d_M_findLeft_75 rfl (lv_at hl 2 rfl) ?_
        refine lv_iload hx hb d_M_findLeft_76 (lv_at hl 1 rfl) ?_
        refine mp_calli hI (va_runV (As := [.int (nI a9), .int (nI i), .int (nI ((d9 - a9) - i))]) (rest := []) ⟨hx, hb, hml, hown, hg⟩ (c_M_divider l D g S _ o hd n a9 i (d9 - a9 - i) (.int (nI nl)) mv1 mv2 mv3 mv4 mv6 mv7 mv8 mv10 mv11 mv12 mv13 (.int (nI s9)) (.ref le) mv16 mv17 mv18 mv19 mv20 mv21 mv22 mv23 mv24 mv25 mv26 mv27 mv28 mv29 mv30 hf (fun i => (h i).1) (fun i => (h i).2.1) (fun i => (h i).2.2) h_o h_hd hh hn (by omega) (by omega) (by omega)) ⟨(callB_of 3 hg (wd_goodG q_998) rfl rfl rfl (hg _ q_5) (hg _ q_995) (by decide +kernel) ⟨Nat.le_trans (Nat.le_of_ble_eq_true rfl) hRf, Nat.le_trans (Nat.le_of_ble_eq_true rfl) hRl⟩), hg _ q_997, hg _ qs_33⟩ (mp_preV (C := R_M) (T := F_M) hI hK h_o rfl [.int (nI a9), .int (nI i), .int (nI ((d9 - a9) - i))]) rfl rfl hl.1 rfl (lv_room (Nat.le_of_ble_eq_true rfl)) d_M_findLeft_78 ⟨by omega, by omega⟩) (fun r7 S4 H5 locs p_6 hI => ?_)
        obtain ⟨er7, eS8⟩ := p_6
        rw [eS8] at hI
        rcases fd_fi (h := h) (u := (a9, i, d9 - a9 - i)) er7 with ⟨hlt, rfl⟩ | ⟨hlt, rfl⟩
        · have hf12 : fi h (a9, i, d9 - a9 - i) n < 12 := by omega
          refine lv_iconst (v := (-1)) hx hb d_M_findLeft_81 (by decide) ?_
          refine lv_icmp_ne (tgt := 127) hx hb d_M_findLeft_82 (by decide) (fun _ => ?_) (fun h9 => absurd h9 (nI_nm1 hf12))
          refine lv_iinc (v := nI (i + 1)) (lv' := [(3, .int (nI (i + 1))), (5, .int (nI 1)), (4, .int (nI ((d9 - a9) - i))), (2, .int (nI a9)), (1, .int (nI d9)), (0, .ref o)]) hx hb d_M_findLeft_127 hl (k := 2) rfl (nI_1 _) (by decide) rfl (fun ls hl => ?_)
          refine lv_goto (tgt := 22) hx hb d_M_findLeft_130 (by decide) ?_
          exact ih (i + 1) s9 LF S H5 locs ls (by omega) hs9 (flI_no (Q := plN a9 0 (d9 - a9) + i) hfl (fun ⟨_, q9⟩ => q9 (by rw [hEp]; exact hlt))) h_o h_hd h_le hfr hI (lv_sub hl [0, 3, 4, 5] rfl) kx ky
        · have hlf : lfP n h nl (plN a9 0 (d9 - a9) + i) := ⟨hIn, by rw [hEp]; exact hlt⟩
          refine lv_iconst (v := (-1)) hx hb d_M_findLeft_81 (by decide) ?_
          refine lv_icmp_ne (tgt := 127) hx hb d_M_findLeft_82 (by decide) (fun h9 => absurd h9 (fun h9 => h9 rfl)) (fun _ => ?_)
          refine lv_aload_n hx hb d_M_findLeft_85 rfl (lv_at hl 5 rfl) ?_
          refine mp_get (C := R_M) (T := F_M) (N := 31) (v := .int (nI s9)) hx hb hg i_M hown hK.va hI h_o rfl 14 (by decide) (hg _ q_818) (fun _ h9 => h9) rfl d_M_findLeft_86 ?_
          refine lv_bipush (v := nI 16) hx hb d_M_findLeft_89 (by decide) ?_
          refine lv_icmp_ne (tgt := 96) hx hb d_M_findLeft_91 (by decide) (fun c3 => ?_) (fun c3 => ?_)
          · rw [nI_eq (by omega) (by omega)] at c3
            refine lv_aload_n hx hb d_M_findLeft_96 rfl (lv_at hl 5 rfl) ?_
            refine mp_get (C := R_M) (T := F_M) (N := 31) (v := .ref le) hx hb hg i_M hown hK.va hI h_o rfl 15 (by decide) (hg _ q_819) (fun _ h9 => h9) rfl d_M_findLeft_97 ?_
            refine lv_aload_n hx hb d_M_findLeft_100 rfl (lv_at hl 5 rfl) ?_
            refine mp_get (C := R_M) (T := F_M) (N := 31) (v := .int (nI s9)) hx hb hg i_M hown hK.va hI h_o rfl 14 (by decide) (hg _ q_818) (fun _ h9 => h9) rfl d_M_findLeft_101 ?_
            refine lv_iload_n hx hb d_M_findLeft_104 rfl (lv_at hl 3 rfl) ?_
            refine lv_bipush (v := nI 10) hx hb d_M_findLeft_105 (by decide) ?_
            refine lv_iload_n hx hb d_M_findLeft_107 rfl (lv_at hl 2 rfl) ?_
            refine lv_imul hx hb d_M_findLeft_108 ?_
            refine lv_topi (fun v9 ev9 => ?_)
            obtain rfl : v9 = nI (10 * i) := ev9.trans (pk_mul _ _)
            refine lv_iadd hx hb d_M_findLeft_109 ?_
            refine lv_topi (fun v10 ev10 => ?_)
            obtain rfl : v10 = nI (a9 + (10 * i)) := ev10.trans (nI_add _ _)
            refine lv_bipush (v := nI 100) hx hb d_M_findLeft_110 (by decide) ?_
            refine lv_iload hx hb d_M_findLeft_112 (lv_at hl 1 rfl) ?_
            refine lv_imul hx hb d_M_findLeft_114 ?_
            refine lv_topi (fun v11 ev11 => ?_)
            obtain rfl : v11 = nI (100 * ((d9 - a9) - i)) := ev11.trans (pk_mul _ _)
            refine lv_iadd hx hb d_M_findLeft_115 ?_
            refine lv_topi (fun v12 ev12 => ?_)
            obtain rfl : v12 = nI ((a9 + (10 * i)) + (100 * ((d9 - a9) - i))) := ev12.trans (nI_add _ _)
            refine mp_iast hx hb hK.va hI 0 h_le rfl (vp_in_nI (show s9 < 17 by omega) (by omega)) d_M_findLeft_116 (fun S13 H14 locs e_15 hI => ?_)
            have h_le_o := h_le
            have e_15 : S13 = va_up S le (some (2008, .inl ((g 0), 17, .inl (upd (fun j => nI (LF j)) (nI s9).toNatClampNeg (nI ((a9 + (10 * i)) + (100 * ((d9 - a9) - i)))))))) := e_15
            have h_o : S13 o = some (2000, .inr (10, [.int (nI nl), mv1, mv2, mv3, mv4, .int (nI n), mv6, mv7, mv8, .ref hd, mv10, mv11, mv12, mv13, .int (nI s9), .ref le, mv16, mv17, mv18, mv19, mv20, mv21, mv22, mv23, mv24, mv25, mv26, mv27, mv28, mv29, mv30])) := by rw [e_15]; exact mp_keep h_o h_le (by decide)
            have h_hd : S13 hd = some (2005, .inl ((g 0), 12, .inl hf)) := by rw [e_15]; exact mp_keep h_hd h_le (by decide)
            have h_le : S13 le = some (2008, .inl ((g 0), 17, .inl (upd (fun j => nI (LF j)) (nI s9).toNatClampNeg (nI ((a9 + (10 * i)) + (100 * ((d9 - a9) - i))))))) := by rw [e_15]; exact mp_us _ _ _
            have hfr : ∀ b t e9, B b = some (t, e9) → (t ≠ 2000) → (t ≠ 2008) → S13 b = some (t, e9) := fun b t e9 h9 k0 k1 => by rw [e_15]; exact mp_keep (hfr b t e9 h9 k0 k1) h_le_o (by omega)
            rw [nI_clamp (by omega), nIf_up] at h_le
            refine lv_aload_n hx hb d_M_findLeft_117 rfl (lv_at hl 5 rfl) ?_
            refine lv_dup hx hb d_M_findLeft_118 rfl ?_
            refine mp_get (C := R_M) (T := F_M) (N := 31) (v := .int (nI s9)) hx hb hg i_M hown hK.va hI h_o rfl 14 (by decide) (hg _ q_818) (fun _ h9 => h9) rfl d_M_findLeft_119 ?_
            refine lv_iconst (v := nI 1) hx hb d_M_findLeft_122 (by decide) ?_
            refine lv_iadd hx hb d_M_findLeft_123 ?_
            refine lv_topi (fun v16 ev16 => ?_)
            obtain rfl : v16 = nI (s9 + 1) := ev16.trans (nI_add _ _)
            refine mp_put (C := R_M) (T := F_M) (N := 31) (v := .int (nI (s9 + 1))) (ty := .int) hx hb hg i_M t_M t_M_ok n_M hown hK.va hI h_o rfl 14 (by decide) (hg _ q_818) (fun _ h9 => h9) rfl (by decide +kernel) (rfl) rfl (Nat.le_of_ble_eq_true rfl) d_M_findLeft_124 (fun S17 H18 locs e_19 hI => ?_)
            have h_o_o := h_o
            have e_19 : S17 = va_up S13 o (some (2000, .inr (10, [.int (nI nl), mv1, mv2, mv3, mv4, .int (nI n), mv6, mv7, mv8, .ref hd, mv10, mv11, mv12, mv13, .int (nI (s9 + 1)), .ref le, mv16, mv17, mv18, mv19, mv20, mv21, mv22, mv23, mv24, mv25, mv26, mv27, mv28, mv29, mv30]))) := e_19
            have h_hd : S17 hd = some (2005, .inl ((g 0), 12, .inl hf)) := by rw [e_19]; exact mp_keep h_hd h_o (by decide)
            have h_le : S17 le = some (2008, .inl ((g 0), 17, .inl (fun j => nI (va_up LF s9 ((a9 + (10 * i)) + (100 * ((d9 - a9) - i))) j)))) := by rw [e_19]; exact mp_keep h_le h_o (by decide)
            have h_o : S17 o = some (2000, .inr (10, [.int (nI nl), mv1, mv2, mv3, mv4, .int (nI n), mv6, mv7, mv8, .ref hd, mv10, mv11, mv12, mv13, .int (nI (s9 + 1)), .ref le, mv16, mv17, mv18, mv19, mv20, mv21, mv22, mv23, mv24, mv25, mv26, mv27, mv28, mv29, mv30])) := by rw [e_19]; exact mp_us _ _ _
            have hfr : ∀ b t e9, B b = some (t, e9) → (t ≠ 2000) → (t ≠ 2008) → S17 b = some (t, e9) := fun b t e9 h9 k0 k1 => by rw [e_19]; exact mp_keep (hfr b t e9 h9 k0 k1) h_o_o (by omega)
            refine lv_iinc (v := nI (i + 1)) (lv' := [(3, .int (nI (i + 1))), (5, .int (nI 1)), (4, .int (nI ((d9 - a9) - i))), (2, .int (nI a9)), (1, .int (nI d9)), (0, .ref o)]) hx hb d_M_findLeft_127 hl (k := 2) rfl (nI_1 _) (by decide) rfl (fun ls hl => ?_)
            refine lv_goto (tgt := 22) hx hb d_M_findLeft_130 (by decide) ?_
            exact ih (i + 1) (s9 + 1) (va_up LF s9 ((a9 + (10 * i)) + (100 * ((d9 - a9) - i)))) S17 H18 locs ls (by omega) (by omega) (flI_yes (Q := plN a9 0 (d9 - a9) + i) hfl hlf (by rw [hEp]; rfl)) h_o h_hd h_le hfr hI (lv_sub hl [0, 3, 4, 5] rfl) kx ky
          · rw [nI_eq (by omega) (by omega)] at c3
            obtain rfl : s9 = 16 := c3
            exact ky LF S H5 locs ls (flI_17 hfl hlf) h_o h_hd h_le hfr hI (lv_sub hl [5] rfl)
      · rw [nI_ltI (by omega) (by omega)] at c2
        refine lv_iload hx hb d_M_findLeft_56 (lv_at hl 0 rfl) ?_
        refine lv_if_ne (tgt := 65) hx hb d_M_findLeft_58 (by decide) (fun c4 => ?_) (fun c4 => ?_)
        · rw [zI_eq (by omega)] at c4
          refine lv_iconst (v := nI 0) hx hb d_M_findLeft_65 (by decide) ?_
          refine lv_istore (lv' := [(5, .int (nI 0)), (4, .int (nI ((d9 - a9) - i))), (3, .int (nI i)), (2, .int (nI a9)), (1, .int (nI d9)), (0, .ref o)]) hx hb d_M_findLeft_66 hl (by decide) rfl (fun ls hl => ?_)
          refine lv_iload hx hb d_M_findLeft_68 (lv_at hl 0 rfl) ?_
          refine lv_if_eq (tgt := 127) hx hb d_M_findLeft_70 (by decide) (fun _ => ?_) (fun h9 => absurd (by decide) h9)
          refine lv_iinc (v := nI (i + 1)) (lv' := [(3, .int (nI (i + 1))), (5, .int (nI 0)), (4, .int (nI ((d9 - a9) - i))), (2, .int (nI a9)), (1, .int (nI d9)), (0, .ref o)]) hx hb d_M_findLeft_127 hl (k := 2) rfl (nI_1 _) (by decide) rfl (fun ls hl => ?_)
          refine lv_goto (tgt := 22) hx hb d_M_findLeft_130 (by decide) ?_
          exact ih (i + 1) s9 LF S H locs ls (by omega) hs9 (flI_no (Q := plN a9 0 (d9 - a9) + i) hfl (fun ⟨q9, _⟩ => by rw [hEp] at q9; have q8 : (1 < nl ∨ i = 0) ∧ (2 < nl ∨ d9 - a9 - i = 0) := q9; omega)) h_o h_hd h_le hfr hI (lv_sub hl [0, 3, 4, 5] rfl) kx ky
        · rw [zI_eq (by omega)] at c4
          have hIn : InL nl (Ep (plN a9 0 (d9 - a9) + i)) := by rw [hEp]; show (1 < nl ∨ i = 0) ∧ (2 < nl ∨ d9 - a9 - i = 0); omega
          refine lv_iconst (v := nI 1) hx hb d_M_findLeft_61 (by decide) ?_
          refine lv_goto (tgt := 66) hx hb d_M_findLeft_62 (by decide) ?_
          refine lv_istore (lv' := [(5, .int (nI 1)), (4, .int (nI ((d9 - a9) - i))), (3, .int (nI i)), (2, .int (nI a9)), (1, .int (nI d9)), (0, .ref o)]) hx hb d_M_findLeft_66 hl (by decide) rfl (fun ls hl => ?_)
          refine lv_iload hx hb d_M_findLeft_68 (lv_at hl 0 rfl) ?_
          refine lv_if_eq (tgt := 127) hx hb d_M_findLeft_70 (by decide) (fun h9 => absurd h9 (by decide)) (fun _ => ?_)
          refine lv_aload_n hx hb d_M_findLeft_73 rfl (lv_at hl 5 rfl) ?_
          refine lv_iload_n hx hb d_M_findLeft_74 rfl (lv_at hl 3 rfl) ?_
          refine lv_iload_n hx hb d_M_findLeft_75 rfl (lv_at hl 2 rfl) ?_
          refine lv_iload hx hb d_M_findLeft_76 (lv_at hl 1 rfl) ?_
          refine mp_calli hI (va_runV (As := [.int (nI a9), .int (nI i), .int (nI ((d9 - a9) - i))]) (rest := []) ⟨hx, hb, hml, hown, hg⟩ (c_M_divider l D g S _ o hd n a9 i (d9 - a9 - i) (.int (nI nl)) mv1 mv2 mv3 mv4 mv6 mv7 mv8 mv10 mv11 mv12 mv13 (.int (nI s9)) (.ref le) mv16 mv17 mv18 mv19 mv20 mv21 mv22 mv23 mv24 mv25 mv26 mv27 mv28 mv29 mv30 hf (fun i => (h i).1) (fun i => (h i).2.1) (fun i => (h i).2.2) h_o h_hd hh hn (by omega) (by omega) (by omega)) ⟨(callB_of 3 hg (wd_goodG q_998) rfl rfl rfl (hg _ q_5) (hg _ q_995) (by decide +kernel) ⟨Nat.le_trans (Nat.le_of_ble_eq_true rfl) hRf, Nat.le_trans (Nat.le_of_ble_eq_true rfl) hRl⟩), hg _ q_997, hg _ qs_33⟩ (mp_preV (C := R_M) (T := F_M) hI hK h_o rfl [.int (nI a9), .int (nI i), .int (nI ((d9 - a9) - i))]) rfl rfl hl.1 rfl (lv_room (Nat.le_of_ble_eq_true rfl)) d_M_findLeft_78 ⟨by omega, by omega⟩) (fun r23 S20 H21 locs p_22 hI => ?_)
          obtain ⟨er23, eS24⟩ := p_22
          rw [eS24] at hI
          rcases fd_fi (h := h) (u := (a9, i, d9 - a9 - i)) er23 with ⟨hlt, rfl⟩ | ⟨hlt, rfl⟩
          · have hf12 : fi h (a9, i, d9 - a9 - i) n < 12 := by omega
            refine lv_iconst (v := (-1)) hx hb d_M_findLeft_81 (by decide) ?_
            refine lv_icmp_ne (tgt := 127) hx hb d_M_findLeft_82 (by decide) (fun _ => ?_) (fun h9 => absurd h9 (nI_nm1 hf12))
            refine lv_iinc (v := nI (i + 1)) (lv' := [(3, .int (nI (i + 1))), (5, .int (nI 1)), (4, .int (nI ((d9 - a9) - i))), (2, .int (nI a9)), (1, .int (nI d9)), (0, .ref o)]) hx hb d_M_findLeft_127 hl (k := 2) rfl (nI_1 _) (by decide) rfl (fun ls hl => ?_)
            refine lv_goto (tgt := 22) hx hb d_M_findLeft_130 (by decide) ?_
            exact ih (i + 1) s9 LF S H21 locs ls (by omega) hs9 (flI_no (Q := plN a9 0 (d9 - a9) + i) hfl (fun ⟨_, q9⟩ => q9 (by rw [hEp]; exact hlt))) h_o h_hd h_le hfr hI (lv_sub hl [0, 3, 4, 5] rfl) kx ky
          · have hlf : lfP n h nl (plN a9 0 (d9 - a9) + i) := ⟨hIn, by rw [hEp]; exact hlt⟩
            refine lv_iconst (v := (-1)) hx hb d_M_findLeft_81 (by decide) ?_
            refine lv_icmp_ne (tgt := 127) hx hb d_M_findLeft_82 (by decide) (fun h9 => absurd h9 (fun h9 => h9 rfl)) (fun _ => ?_)
            refine lv_aload_n hx hb d_M_findLeft_85 rfl (lv_at hl 5 rfl) ?_
            refine mp_get (C := R_M) (T := F_M) (N := 31) (v := .int (nI s9)) hx hb hg i_M hown hK.va hI h_o rfl 14 (by decide) (hg _ q_818) (fun _ h9 => h9) rfl d_M_findLeft_86 ?_
            refine lv_bipush (v := nI 16) hx hb d_M_findLeft_89 (by decide) ?_
            refine lv_icmp_ne (tgt := 96) hx hb d_M_findLeft_91 (by decide) (fun c3 => ?_) (fun c3 => ?_)
            · rw [nI_eq (by omega) (by omega)] at c3
              refine lv_aload_n hx hb d_M_findLeft_96 rfl (lv_at hl 5 rfl) ?_
              refine mp_get (C := R_M) (T := F_M) (N := 31) (v := .ref le) hx hb hg i_M hown hK.va hI h_o rfl 15 (by decide) (hg _ q_819) (fun _ h9 => h9) rfl d_M_findLeft_97 ?_
              refine lv_aload_n hx hb d_M_findLeft_100 rfl (lv_at hl 5 rfl) ?_
              refine mp_get (C := R_M) (T := F_M) (N := 31) (v := .int (nI s9)) hx hb hg i_M hown hK.va hI h_o rfl 14 (by decide) (hg _ q_818) (fun _ h9 => h9) rfl d_M_findLeft_101 ?_
              refine lv_iload_n hx hb d_M_findLeft_104 rfl (lv_at hl 3 rfl) ?_
              refine lv_bipush (v := nI 10) hx hb d_M_findLeft_105 (by decide) ?_
              refine lv_iload_n hx hb d_M_findLeft_107 rfl (lv_at hl 2 rfl) ?_
              refine lv_imul hx hb d_M_findLeft_108 ?_
              refine lv_topi (fun v25 ev25 => ?_)
              obtain rfl : v25 = nI (10 * i) := ev25.trans (pk_mul _ _)
              refine lv_iadd hx hb d_M_findLeft_109 ?_
              refine lv_topi (fun v26 ev26 => ?_)
              obtain rfl : v26 = nI (a9 + (10 * i)) := ev26.trans (nI_add _ _)
              refine lv_bipush (v := nI 100) hx hb d_M_findLeft_110 (by decide) ?_
              refine lv_iload hx hb d_M_findLeft_112 (lv_at hl 1 rfl) ?_
              refine lv_imul hx hb d_M_findLeft_114 ?_
              refine lv_topi (fun v27 ev27 => ?_)
              obtain rfl : v27 = nI (100 * ((d9 - a9) - i)) := ev27.trans (pk_mul _ _)
              refine lv_iadd hx hb d_M_findLeft_115 ?_
              refine lv_topi (fun v28 ev28 => ?_)
              obtain rfl : v28 = nI ((a9 + (10 * i)) + (100 * ((d9 - a9) - i))) := ev28.trans (nI_add _ _)
              refine mp_iast hx hb hK.va hI 0 h_le rfl (vp_in_nI (show s9 < 17 by omega) (by omega)) d_M_findLeft_116 (fun S29 H30 locs e_31 hI => ?_)
              have h_le_o := h_le
              have e_31 : S29 = va_up S le (some (2008, .inl ((g 0), 17, .inl (upd (fun j => nI (LF j)) (nI s9).toNatClampNeg (nI ((a9 + (10 * i)) + (100 * ((d9 - a9) - i)))))))) := e_31
              have h_o : S29 o = some (2000, .inr (10, [.int (nI nl), mv1, mv2, mv3, mv4, .int (nI n), mv6, mv7, mv8, .ref hd, mv10, mv11, mv12, mv13, .int (nI s9), .ref le, mv16, mv17, mv18, mv19, mv20, mv21, mv22, mv23, mv24, mv25, mv26, mv27, mv28, mv29, mv30])) := by rw [e_31]; exact mp_keep h_o h_le (by decide)
              have h_hd : S29 hd = some (2005, .inl ((g 0), 12, .inl hf)) := by rw [e_31]; exact mp_keep h_hd h_le (by decide)
              have h_le : S29 le = some (2008, .inl ((g 0), 17, .inl (upd (fun j => nI (LF j)) (nI s9).toNatClampNeg (nI ((a9 + (10 * i)) + (100 * ((d9 - a9) - i))))))) := by rw [e_31]; exact mp_us _ _ _
              have hfr : ∀ b t e9, B b = some (t, e9) → (t ≠ 2000) → (t ≠ 2008) → S29 b = some (t, e9) := fun b t e9 h9 k0 k1 => by rw [e_31]; exact mp_keep (hfr b t e9 h9 k0 k1) h_le_o (by omega)
              rw [nI_clamp (by omega), nIf_up] at h_le
              refine lv_aload_n hx hb d_M_findLeft_117 rfl (lv_at hl 5 rfl) ?_
              refine lv_dup hx hb d_M_findLeft_118 rfl ?_
              refine mp_get (C := R_M) (T := F_M) (N := 31) (v := .int (nI s9)) hx hb hg i_M hown hK.va hI h_o rfl 14 (by decide) (hg _ q_818) (fun _ h9 => h9) rfl d_M_findLeft_119 ?_
              refine lv_iconst (v := nI 1) hx hb d_M_findLeft_122 (by decide) ?_
              refine lv_iadd hx hb d_M_findLeft_123 ?_
              refine lv_topi (fun v32 ev32 => ?_)
              obtain rfl : v32 = nI (s9 + 1) := ev32.trans (nI_add _ _)
              refine mp_put (C := R_M) (T := F_M) (N := 31) (v := .int (nI (s9 + 1))) (ty := .int) hx hb hg i_M t_M t_M_ok n_M hown hK.va hI h_o rfl 14 (by decide) (hg _ q_818) (fun _ h9 => h9) rfl (by decide +kernel) (rfl) rfl (Nat.le_of_ble_eq_true rfl) d_M_findLeft_124 (fun S33 H34 locs e_35 hI => ?_)
              have h_o_o := h_o
              have e_35 : S33 = va_up S29 o (some (2000, .inr (10, [.int (nI nl), mv1, mv2, mv3, mv4, .int (nI n), mv6, mv7, mv8, .ref hd, mv10, mv11, mv12, mv13, .int (nI (s9 + 1)), .ref le, mv16, mv17, mv18, mv19, mv20, mv21, mv22, mv23, mv24, mv25, mv26, mv27, mv28, mv29, mv30]))) := e_35
              have h_hd : S33 hd = some (2005, .inl ((g 0), 12, .inl hf)) := by rw [e_35]; exact mp_keep h_hd h_o (by decide)
              have h_le : S33 le = some (2008, .inl ((g 0), 17, .inl (fun j => nI (va_up LF s9 ((a9 + (10 * i)) + (100 * ((d9 - a9) - i))) j)))) := by rw [e_35]; exact mp_keep h_le h_o (by decide)
              have h_o : S33 o = some (2000, .inr (10, [.int (nI nl), mv1, mv2, mv3, mv4, .int (nI n), mv6, mv7, mv8, .ref hd, mv10, mv11, mv12, mv13, .int (nI (s9 + 1)), .ref le, mv16, mv17, mv18, mv19, mv20, mv21, mv22, mv23, mv24, mv25, mv26, mv27, mv28, mv29, mv30])) := by rw [e_35]; exact mp_us _ _ _
              have hfr : ∀ b t e9, B b = some (t, e9) → (t ≠ 2000) → (t ≠ 2008) → S33 b = some (t, e9) := fun b t e9 h9 k0 k1 => by rw [e_35]; exact mp_keep (hfr b t e9 h9 k0 k1) h_o_o (by omega)
              refine lv_iinc (v := nI (i + 1)) (lv' := [(3, .int (nI (i + 1))), (5, .int (nI 1)), (4, .int (nI ((d9 - a9) - i))), (2, .int (nI a9)), (1, .int (nI d9)), (0, .ref o)]) hx hb d_M_findLeft_127 hl (k := 2) rfl (nI_1 _) (by decide) rfl (fun ls hl => ?_)
              refine lv_goto (tgt := 22) hx hb d_M_findLeft_130 (by decide) ?_
              exact ih (i + 1) (s9 + 1) (va_up LF s9 ((a9 + (10 * i)) + (100 * ((d9 - a9) - i)))) S33 H34 locs ls (by omega) (by omega) (flI_yes (Q := plN a9 0 (d9 - a9) + i) hfl hlf (by rw [hEp]; rfl)) h_o h_hd h_le hfr hI (lv_sub hl [0, 3, 4, 5] rfl) kx ky
            · rw [nI_eq (by omega) (by omega)] at c3
              obtain rfl : s9 = 16 := c3
              exact ky LF S H21 locs ls (flI_17 hfl hlf) h_o h_hd h_le hfr hI (lv_sub hl [5] rfl)
    · rw [nI_ltI (by omega) (by omega)] at c1
      refine lv_iload_n hx hb d_M_findLeft_44 rfl (lv_at hl 1 rfl) ?_
      refine lv_if_ne (tgt := 65) hx hb d_M_findLeft_45 (by decide) (fun c5 => ?_) (fun c5 => ?_)
      · rw [zI_eq (by omega)] at c5
        refine lv_iconst (v := nI 0) hx hb d_M_findLeft_65 (by decide) ?_
        refine lv_istore (lv' := [(5, .int (nI 0)), (4, .int (nI ((d9 - a9) - i))), (3, .int (nI i)), (2, .int (nI a9)), (1, .int (nI d9)), (0, .ref o)]) hx hb d_M_findLeft_66 hl (by decide) rfl (fun ls hl => ?_)
        refine lv_iload hx hb d_M_findLeft_68 (lv_at hl 0 rfl) ?_
        refine lv_if_eq (tgt := 127) hx hb d_M_findLeft_70 (by decide) (fun _ => ?_) (fun h9 => absurd (by decide) h9)
        refine lv_iinc (v := nI (i + 1)) (lv' := [(3, .int (nI (i + 1))), (5, .int (nI 0)), (4, .int (nI ((d9 - a9) - i))), (2, .int (nI a9)), (1, .int (nI d9)), (0, .ref o)]) hx hb d_M_findLeft_127 hl (k := 2) rfl (nI_1 _) (by decide) rfl (fun ls hl => ?_)
        refine lv_goto (tgt := 22) hx hb d_M_findLeft_130 (by decide) ?_
        exact ih (i + 1) s9 LF S H locs ls (by omega) hs9 (flI_no (Q := plN a9 0 (d9 - a9) + i) hfl (fun ⟨q9, _⟩ => by rw [hEp] at q9; have q8 : (1 < nl ∨ i = 0) ∧ (2 < nl ∨ d9 - a9 - i = 0) := q9; omega)) h_o h_hd h_le hfr hI (lv_sub hl [0, 3, 4, 5] rfl) kx ky
      · rw [zI_eq (by omega)] at c5
        refine lv_aload_n hx hb d_M_findLeft_48 rfl (lv_at hl 4 rfl) ?_
        refine mp_get (C := R_M) (T := F_M) (N := 31) (v := .int (nI nl)) hx hb hg i_M hown hK.va hI h_o rfl 0 (by decide) (hg _ q_804) (fun _ h9 => h9) rfl d_M_findLeft_49 ?_
        refine lv_iconst (v := nI 2) hx hb d_M_findLeft_52 (by decide) ?_
        refine lv_icmp_gt (tgt := 61) hx hb d_M_findLeft_53 (by decide) (fun c2 => ?_) (fun c2 => ?_)
        · rw [nI_ltI (by omega) (by omega)] at c2
          have hIn : InL nl (Ep (plN a9 0 (d9 - a9) + i)) := by rw [hEp]; show (1 < nl ∨ i = 0) ∧ (2 < nl ∨ d9 - a9 - i = 0); omega
          refine lv_iconst (v := nI 1) hx hb d_M_findLeft_61 (by decide) ?_
          refine lv_goto (tgt := 66) hx hb d_M_findLeft_62 (by decide) ?_
          refine lv_istore (lv' := [(5, .int (nI 1)), (4, .int (nI ((d9 - a9) - i))), (3, .int (nI i)), (2, .int (nI a9)), (1, .int (nI d9)), (0, .ref o)]) hx hb d_M_findLeft_66 hl (by decide) rfl (fun ls hl => ?_)
          refine lv_iload hx hb d_M_findLeft_68 (lv_at hl 0 rfl) ?_
          refine lv_if_eq (tgt := 127) hx hb d_M_findLeft_70 (by decide) (fun h9 => absurd h9 (by decide)) (fun _ => ?_)
          refine lv_aload_n hx hb d_M_findLeft_73 rfl (lv_at hl 5 rfl) ?_
          refine lv_iload_n hx hb d_M_findLeft_74 rfl (lv_at hl 3 rfl) ?_
          refine lv_iload_n hx hb d_M_findLeft_75 rfl (lv_at hl 2 rfl) ?_
          refine lv_iload hx hb d_M_findLeft_76 (lv_at hl 1 rfl) ?_
          refine mp_calli hI (va_runV (As := [.int (nI a9), .int (nI i), .int (nI ((d9 - a9) - i))]) (rest := []) ⟨hx, hb, hml, hown, hg⟩ (c_M_divider l D g S _ o hd n a9 i (d9 - a9 - i) (.int (nI nl)) mv1 mv2 mv3 mv4 mv6 mv7 mv8 mv10 mv11 mv12 mv13 (.int (nI s9)) (.ref le) mv16 mv17 mv18 mv19 mv20 mv21 mv22 mv23 mv24 mv25 mv26 mv27 mv28 mv29 mv30 hf (fun i => (h i).1) (fun i => (h i).2.1) (fun i => (h i).2.2) h_o h_hd hh hn (by omega) (by omega) (by omega)) ⟨(callB_of 3 hg (wd_goodG q_998) rfl rfl rfl (hg _ q_5) (hg _ q_995) (by decide +kernel) ⟨Nat.le_trans (Nat.le_of_ble_eq_true rfl) hRf, Nat.le_trans (Nat.le_of_ble_eq_true rfl) hRl⟩), hg _ q_997, hg _ qs_33⟩ (mp_preV (C := R_M) (T := F_M) hI hK h_o rfl [.int (nI a9), .int (nI i), .int (nI ((d9 - a9) - i))]) rfl rfl hl.1 rfl (lv_room (Nat.le_of_ble_eq_true rfl)) d_M_findLeft_78 ⟨by omega, by omega⟩) (fun r39 S36 H37 locs p_38 hI => ?_)
          obtain ⟨er39, eS40⟩ := p_38
          rw [eS40] at hI
          rcases fd_fi (h := h) (u := (a9, i, d9 - a9 - i)) er39 with ⟨hlt, rfl⟩ | ⟨hlt, rfl⟩
          · have hf12 : fi h (a9, i, d9 - a9 - i) n < 12 := by omega
            refine lv_iconst (v := (-1)) hx hb d_M_findLeft_81 (by decide) ?_
            refine lv_icmp_ne (tgt := 127) hx hb d_M_findLeft_82 (by decide) (fun _ => ?_) (fun h9 => absurd h9 (nI_nm1 hf12))
            refine lv_iinc (v := nI (i + 1)) (lv' := [(3, .int (nI (i + 1))), (5, .int (nI 1)), (4, .int (nI ((d9 - a9) - i))), (2, .int (nI a9)), (1, .int (nI d9)), (0, .ref o)]) hx hb d_M_findLeft_127 hl (k := 2) rfl (nI_1 _) (by decide) rfl (fun ls hl => ?_)
            refine lv_goto (tgt := 22) hx hb d_M_findLeft_130 (by decide) ?_
            exact ih (i + 1) s9 LF S H37 locs ls (by omega) hs9 (flI_no (Q := plN a9 0 (d9 - a9) + i) hfl (fun ⟨_, q9⟩ => q9 (by rw [hEp]; exact hlt))) h_o h_hd h_le hfr hI (lv_sub hl [0, 3, 4, 5] rfl) kx ky
          · have hlf : lfP n h nl (plN a9 0 (d9 - a9) + i) := ⟨hIn, by rw [hEp]; exact hlt⟩
            refine lv_iconst (v := (-1)) hx hb d_M_findLeft_81 (by decide) ?_
            refine lv_icmp_ne (tgt := 127) hx hb d_M_findLeft_82 (by decide) (fun h9 => absurd h9 (fun h9 => h9 rfl)) (fun _ => ?_)
            refine lv_aload_n hx hb d_M_findLeft_85 rfl (lv_at hl 5 rfl) ?_
            refine mp_get (C := R_M) (T := F_M) (N := 31) (v := .int (nI s9)) hx hb hg i_M hown hK.va hI h_o rfl 14 (by decide) (hg _ q_818) (fun _ h9 => h9) rfl d_M_findLeft_86 ?_
            refine lv_bipush (v := nI 16) hx hb d_M_findLeft_89 (by decide) ?_
            refine lv_icmp_ne (tgt := 96) hx hb d_M_findLeft_91 (by decide) (fun c3 => ?_) (fun c3 => ?_)
            · rw [nI_eq (by omega) (by omega)] at c3
              refine lv_aload_n hx hb d_M_findLeft_96 rfl (lv_at hl 5 rfl) ?_
              refine mp_get (C := R_M) (T := F_M) (N := 31) (v := .ref le) hx hb hg i_M hown hK.va hI h_o rfl 15 (by decide) (hg _ q_819) (fun _ h9 => h9) rfl d_M_findLeft_97 ?_
              refine lv_aload_n hx hb d_M_findLeft_100 rfl (lv_at hl 5 rfl) ?_
              refine mp_get (C := R_M) (T := F_M) (N := 31) (v := .int (nI s9)) hx hb hg i_M hown hK.va hI h_o rfl 14 (by decide) (hg _ q_818) (fun _ h9 => h9) rfl d_M_findLeft_101 ?_
              refine lv_iload_n hx hb d_M_findLeft_104 rfl (lv_at hl 3 rfl) ?_
              refine lv_bipush (v := nI 10) hx hb d_M_findLeft_105 (by decide) ?_
              refine lv_iload_n hx hb d_M_findLeft_107 rfl (lv_at hl 2 rfl) ?_
              refine lv_imul hx hb d_M_findLeft_108 ?_
              refine lv_topi (fun v41 ev41 => ?_)
              obtain rfl : v41 = nI (10 * i) := ev41.trans (pk_mul _ _)
              refine lv_iadd hx hb d_M_findLeft_109 ?_
              refine lv_topi (fun v42 ev42 => ?_)
              obtain rfl : v42 = nI (a9 + (10 * i)) := ev42.trans (nI_add _ _)
              refine lv_bipush (v := nI 100) hx hb d_M_findLeft_110 (by decide) ?_
              refine lv_iload hx hb d_M_findLeft_112 (lv_at hl 1 rfl) ?_
              refine lv_imul hx hb d_M_findLeft_114 ?_
              refine lv_topi (fun v43 ev43 => ?_)
              obtain rfl : v43 = nI (100 * ((d9 - a9) - i)) := ev43.trans (pk_mul _ _)
              refine lv_iadd hx hb d_M_findLeft_115 ?_
              refine lv_topi (fun v44 ev44 => ?_)
              obtain rfl : v44 = nI ((a9 + (10 * i)) + (100 * ((d9 - a9) - i))) := ev44.trans (nI_add _ _)
              refine mp_iast hx hb hK.va hI 0 h_le rfl (vp_in_nI (show s9 < 17 by omega) (by omega)) d_M_findLeft_116 (fun S45 H46 locs e_47 hI => ?_)
              have h_le_o := h_le
              have e_47 : S45 = va_up S le (some (2008, .inl ((g 0), 17, .inl (upd (fun j => nI (LF j)) (nI s9).toNatClampNeg (nI ((a9 + (10 * i)) + (100 * ((d9 - a9) - i)))))))) := e_47
              have h_o : S45 o = some (2000, .inr (10, [.int (nI nl), mv1, mv2, mv3, mv4, .int (nI n), mv6, mv7, mv8, .ref hd, mv10, mv11, mv12, mv13, .int (nI s9), .ref le, mv16, mv17, mv18, mv19, mv20, mv21, mv22, mv23, mv24, mv25, mv26, mv27, mv28, mv29, mv30])) := by rw [e_47]; exact mp_keep h_o h_le (by decide)
              have h_hd : S45 hd = some (2005, .inl ((g 0), 12, .inl hf)) := by rw [e_47]; exact mp_keep h_hd h_le (by decide)
              have h_le : S45 le = some (2008, .inl ((g 0), 17, .inl (upd (fun j => nI (LF j)) (nI s9).toNatClampNeg (nI ((a9 + (10 * i)) + (100 * ((d9 - a9) - i))))))) := by rw [e_47]; exact mp_us _ _ _
              have hfr : ∀ b t e9, B b = some (t, e9) → (t ≠ 2000) → (t ≠ 2008) → S45 b = some (t, e9) := fun b t e9 h9 k0 k1 => by rw [e_47]; exact mp_keep (hfr b t e9 h9 k0 k1) h_le_o (by omega)
              rw [nI_clamp (by omega), nIf_up] at h_le
              refine lv_aload_n hx hb d_M_findLeft_117 rfl (lv_at hl 5 rfl) ?_
              refine lv_dup hx hb d_M_findLeft_118 rfl ?_
              refine mp_get (C := R_M) (T := F_M) (N := 31) (v := .int (nI s9)) hx hb hg i_M hown hK.va hI h_o rfl 14 (by decide) (hg _ q_818) (fun _ h9 => h9) rfl d_M_findLeft_119 ?_
              refine lv_iconst (v := nI 1) hx hb d_M_findLeft_122 (by decide) ?_
              refine lv_iadd hx hb d_M_findLeft_123 ?_
              refine lv_topi (fun v48 ev48 => ?_)
              obtain rfl : v48 = nI (s9 + 1) := ev48.trans (nI_add _ _)
              refine mp_put (C := R_M) (T := F_M) (N := 31) (v := .int (nI (s9 + 1))) (ty := .int) hx hb hg i_M t_M t_M_ok n_M hown hK.va hI h_o rfl 14 (by decide) (hg _ q_818) (fun _ h9 => h9) rfl (by decide +kernel) (rfl) rfl (Nat.le_of_ble_eq_true rfl) d_M_findLeft_124 (fun S49 H50 locs e_51 hI => ?_)
              have h_o_o := h_o
              have e_51 : S49 = va_up S45 o (some (2000, .inr (10, [.int (nI nl), mv1, mv2, mv3, mv4, .int (nI n), mv6, mv7, mv8, .ref hd, mv10, mv11, mv12, mv13, .int (nI (s9 + 1)), .ref le, mv16, mv17, mv18, mv19, mv20, mv21, mv22, mv23, mv24, mv25, mv26, mv27, mv28, mv29, mv30]))) := e_51
              have h_hd : S49 hd = some (2005, .inl ((g 0), 12, .inl hf)) := by rw [e_51]; exact mp_keep h_hd h_o (by decide)
              have h_le : S49 le = some (2008, .inl ((g 0), 17, .inl (fun j => nI (va_up LF s9 ((a9 + (10 * i)) + (100 * ((d9 - a9) - i))) j)))) := by rw [e_51]; exact mp_keep h_le h_o (by decide)
              have h_o : S49 o = some (2000, .inr (10, [.int (nI nl), mv1, mv2, mv3, mv4, .int (nI n), mv6, mv7, mv8, .ref hd, mv10, mv11, mv12, mv13, .int (nI (s9 + 1)), .ref le, mv16, mv17, mv18, mv19, mv20, mv21, mv22, mv23, mv24, mv25, mv26, mv27, mv28, mv29, mv30])) := by rw [e_51]; exact mp_us _ _ _
              have hfr : ∀ b t e9, B b = some (t, e9) → (t ≠ 2000) → (t ≠ 2008) → S49 b = some (t, e9) := fun b t e9 h9 k0 k1 => by rw [e_51]; exact mp_keep (hfr b t e9 h9 k0 k1) h_o_o (by omega)
              refine lv_iinc (v := nI (i + 1)) (lv' := [(3, .int (nI (i + 1))), (5, .int (nI 1)), (4, .int (nI ((d9 - a9) - i))), (2, .int (nI a9)), (1, .int (nI d9)), (0, .ref o)]) hx hb d_M_findLeft_127 hl (k := 2) rfl (nI_1 _) (by decide) rfl (fun ls hl => ?_)
              refine lv_goto (tgt := 22) hx hb d_M_findLeft_130 (by decide) ?_
              exact ih (i + 1) (s9 + 1) (va_up LF s9 ((a9 + (10 * i)) + (100 * ((d9 - a9) - i)))) S49 H50 locs ls (by omega) (by omega) (flI_yes (Q := plN a9 0 (d9 - a9) + i) hfl hlf (by rw [hEp]; rfl)) h_o h_hd h_le hfr hI (lv_sub hl [0, 3, 4, 5] rfl) kx ky
            · rw [nI_eq (by omega) (by omega)] at c3
              obtain rfl : s9 = 16 := c3
              exact ky LF S H37 locs ls (flI_17 hfl hlf) h_o h_hd h_le hfr hI (lv_sub hl [5] rfl)
        · rw [nI_ltI (by omega) (by omega)] at c2
          refine lv_iload hx hb d_M_findLeft_56 (lv_at hl 0 rfl) ?_
          refine lv_if_ne (tgt := 65) hx hb d_M_findLeft_58 (by decide) (fun c4 => ?_) (fun c4 => ?_)
          · rw [zI_eq (by omega)] at c4
            refine lv_iconst (v := nI 0) hx hb d_M_findLeft_65 (by decide) ?_
            refine lv_istore (lv' := [(5, .int (nI 0)), (4, .int (nI ((d9 - a9) - i))), (3, .int (nI i)), (2, .int (nI a9)), (1, .int (nI d9)), (0, .ref o)]) hx hb d_M_findLeft_66 hl (by decide) rfl (fun ls hl => ?_)
            refine lv_iload hx hb d_M_findLeft_68 (lv_at hl 0 rfl) ?_
            refine lv_if_eq (tgt := 127) hx hb d_M_findLeft_70 (by decide) (fun _ => ?_) (fun h9 => absurd (by decide) h9)
            refine lv_iinc (v := nI (i + 1)) (lv' := [(3, .int (nI (i + 1))), (5, .int (nI 0)), (4, .int (nI ((d9 - a9) - i))), (2, .int (nI a9)), (1, .int (nI d9)), (0, .ref o)]) hx hb d_M_findLeft_127 hl (k := 2) rfl (nI_1 _) (by decide) rfl (fun ls hl => ?_)
            refine lv_goto (tgt := 22) hx hb d_M_findLeft_130 (by decide) ?_
            exact ih (i + 1) s9 LF S H locs ls (by omega) hs9 (flI_no (Q := plN a9 0 (d9 - a9) + i) hfl (fun ⟨q9, _⟩ => by rw [hEp] at q9; have q8 : (1 < nl ∨ i = 0) ∧ (2 < nl ∨ d9 - a9 - i = 0) := q9; omega)) h_o h_hd h_le hfr hI (lv_sub hl [0, 3, 4, 5] rfl) kx ky
          · rw [zI_eq (by omega)] at c4
            have hIn : InL nl (Ep (plN a9 0 (d9 - a9) + i)) := by rw [hEp]; show (1 < nl ∨ i = 0) ∧ (2 < nl ∨ d9 - a9 - i = 0); omega
            refine lv_iconst (v := nI 1) hx hb d_M_findLeft_61 (by decide) ?_
            refine lv_goto (tgt := 66) hx hb d_M_findLeft_62 (by decide) ?_
            refine lv_istore (lv' := [(5, .int (nI 1)), (4, .int (nI ((d9 - a9) - i))), (3, .int (nI i)), (2, .int (nI a9)), (1, .int (nI d9)), (0, .ref o)]) hx hb d_M_findLeft_66 hl (by decide) rfl (fun ls hl => ?_)
            refine lv_iload hx hb d_M_findLeft_68 (lv_at hl 0 rfl) ?_
            refine lv_if_eq (tgt := 127) hx hb d_M_findLeft_70 (by decide) (fun h9 => absurd h9 (by decide)) (fun _ => ?_)
            refine lv_aload_n hx hb d_M_findLeft_73 rfl (lv_at hl 5 rfl) ?_
            refine lv_iload_n hx hb d_M_findLeft_74 rfl (lv_at hl 3 rfl) ?_
            refine lv_iload_n hx hb d_M_findLeft_75 rfl (lv_at hl 2 rfl) ?_
            refine lv_iload hx hb d_M_findLeft_76 (lv_at hl 1 rfl) ?_
            refine mp_calli hI (va_runV (As := [.int (nI a9), .int (nI i), .int (nI ((d9 - a9) - i))]) (rest := []) ⟨hx, hb, hml, hown, hg⟩ (c_M_divider l D g S _ o hd n a9 i (d9 - a9 - i) (.int (nI nl)) mv1 mv2 mv3 mv4 mv6 mv7 mv8 mv10 mv11 mv12 mv13 (.int (nI s9)) (.ref le) mv16 mv17 mv18 mv19 mv20 mv21 mv22 mv23 mv24 mv25 mv26 mv27 mv28 mv29 mv30 hf (fun i => (h i).1) (fun i => (h i).2.1) (fun i => (h i).2.2) h_o h_hd hh hn (by omega) (by omega) (by omega)) ⟨(callB_of 3 hg (wd_goodG q_998) rfl rfl rfl (hg _ q_5) (hg _ q_995) (by decide +kernel) ⟨Nat.le_trans (Nat.le_of_ble_eq_true rfl) hRf, Nat.le_trans (Nat.le_of_ble_eq_true rfl) hRl⟩), hg _ q_997, hg _ qs_33⟩ (mp_preV (C := R_M) (T := F_M) hI hK h_o rfl [.int (nI a9), .int (nI i), .int (nI ((d9 - a9) - i))]) rfl rfl hl.1 rfl (lv_room (Nat.le_of_ble_eq_true rfl)) d_M_findLeft_78 ⟨by omega, by omega⟩) (fun r55 S52 H53 locs p_54 hI => ?_)
            obtain ⟨er55, eS56⟩ := p_54
            rw [eS56] at hI
            rcases fd_fi (h := h) (u := (a9, i, d9 - a9 - i)) er55 with ⟨hlt, rfl⟩ | ⟨hlt, rfl⟩
            · have hf12 : fi h (a9, i, d9 - a9 - i) n < 12 := by omega
              refine lv_iconst (v := (-1)) hx hb d_M_findLeft_81 (by decide) ?_
              refine lv_icmp_ne (tgt := 127) hx hb d_M_findLeft_82 (by decide) (fun _ => ?_) (fun h9 => absurd h9 (nI_nm1 hf12))
              refine lv_iinc (v := nI (i + 1)) (lv' := [(3, .int (nI (i + 1))), (5, .int (nI 1)), (4, .int (nI ((d9 - a9) - i))), (2, .int (nI a9)), (1, .int (nI d9)), (0, .ref o)]) hx hb d_M_findLeft_127 hl (k := 2) rfl (nI_1 _) (by decide) rfl (fun ls hl => ?_)
              refine lv_goto (tgt := 22) hx hb d_M_findLeft_130 (by decide) ?_
              exact ih (i + 1) s9 LF S H53 locs ls (by omega) hs9 (flI_no (Q := plN a9 0 (d9 - a9) + i) hfl (fun ⟨_, q9⟩ => q9 (by rw [hEp]; exact hlt))) h_o h_hd h_le hfr hI (lv_sub hl [0, 3, 4, 5] rfl) kx ky
            · have hlf : lfP n h nl (plN a9 0 (d9 - a9) + i) := ⟨hIn, by rw [hEp]; exact hlt⟩
              refine lv_iconst (v := (-1)) hx hb d_M_findLeft_81 (by decide) ?_
              refine lv_icmp_ne (tgt := 127) hx hb d_M_findLeft_82 (by decide) (fun h9 => absurd h9 (fun h9 => h9 rfl)) (fun _ => ?_)
              refine lv_aload_n hx hb d_M_findLeft_85 rfl (lv_at hl 5 rfl) ?_
              refine mp_get (C := R_M) (T := F_M) (N := 31) (v := .int (nI s9)) hx hb hg i_M hown hK.va hI h_o rfl 14 (by decide) (hg _ q_818) (fun _ h9 => h9) rfl d_M_findLeft_86 ?_
              refine lv_bipush (v := nI 16) hx hb d_M_findLeft_89 (by decide) ?_
              refine lv_icmp_ne (tgt := 96) hx hb d_M_findLeft_91 (by decide) (fun c3 => ?_) (fun c3 => ?_)
              · rw [nI_eq (by omega) (by omega)] at c3
                refine lv_aload_n hx hb d_M_findLeft_96 rfl (lv_at hl 5 rfl) ?_
                refine mp_get (C := R_M) (T := F_M) (N := 31) (v := .ref le) hx hb hg i_M hown hK.va hI h_o rfl 15 (by decide) (hg _ q_819) (fun _ h9 => h9) rfl d_M_findLeft_97 ?_
                refine lv_aload_n hx hb d_M_findLeft_100 rfl (lv_at hl 5 rfl) ?_
                refine mp_get (C := R_M) (T := F_M) (N := 31) (v := .int (nI s9)) hx hb hg i_M hown hK.va hI h_o rfl 14 (by decide) (hg _ q_818) (fun _ h9 => h9) rfl d_M_findLeft_101 ?_
                refine lv_iload_n hx hb d_M_findLeft_104 rfl (lv_at hl 3 rfl) ?_
                refine lv_bipush (v := nI 10) hx hb d_M_findLeft_105 (by decide) ?_
                refine lv_iload_n hx hb d_M_findLeft_107 rfl (lv_at hl 2 rfl) ?_
                refine lv_imul hx hb d_M_findLeft_108 ?_
                refine lv_topi (fun v57 ev57 => ?_)
                obtain rfl : v57 = nI (10 * i) := ev57.trans (pk_mul _ _)
                refine lv_iadd hx hb d_M_findLeft_109 ?_
                refine lv_topi (fun v58 ev58 => ?_)
                obtain rfl : v58 = nI (a9 + (10 * i)) := ev58.trans (nI_add _ _)
                refine lv_bipush (v := nI 100) hx hb d_M_findLeft_110 (by decide) ?_
                refine lv_iload hx hb d_M_findLeft_112 (lv_at hl 1 rfl) ?_
                refine lv_imul hx hb d_M_findLeft_114 ?_
                refine lv_topi (fun v59 ev59 => ?_)
                obtain rfl : v59 = nI (100 * ((d9 - a9) - i)) := ev59.trans (pk_mul _ _)
                refine lv_iadd hx hb d_M_findLeft_115 ?_
                refine lv_topi (fun v60 ev60 => ?_)
                obtain rfl : v60 = nI ((a9 + (10 * i)) + (100 * ((d9 - a9) - i))) := ev60.trans (nI_add _ _)
                refine mp_iast hx hb hK.va hI 0 h_le rfl (vp_in_nI (show s9 < 17 by omega) (by omega)) d_M_findLeft_116 (fun S61 H62 locs e_63 hI => ?_)
                have h_le_o := h_le
                have e_63 : S61 = va_up S le (some (2008, .inl ((g 0), 17, .inl (upd (fun j => nI (LF j)) (nI s9).toNatClampNeg (nI ((a9 + (10 * i)) + (100 * ((d9 - a9) - i)))))))) := e_63
                have h_o : S61 o = some (2000, .inr (10, [.int (nI nl), mv1, mv2, mv3, mv4, .int (nI n), mv6, mv7, mv8, .ref hd, mv10, mv11, mv12, mv13, .int (nI s9), .ref le, mv16, mv17, mv18, mv19, mv20, mv21, mv22, mv23, mv24, mv25, mv26, mv27, mv28, mv29, mv30])) := by rw [e_63]; exact mp_keep h_o h_le (by decide)
                have h_hd : S61 hd = some (2005, .inl ((g 0), 12, .inl hf)) := by rw [e_63]; exact mp_keep h_hd h_le (by decide)
                have h_le : S61 le = some (2008, .inl ((g 0), 17, .inl (upd (fun j => nI (LF j)) (nI s9).toNatClampNeg (nI ((a9 + (10 * i)) + (100 * ((d9 - a9) - i))))))) := by rw [e_63]; exact mp_us _ _ _
                have hfr : ∀ b t e9, B b = some (t, e9) → (t ≠ 2000) → (t ≠ 2008) → S61 b = some (t, e9) := fun b t e9 h9 k0 k1 => by rw [e_63]; exact mp_keep (hfr b t e9 h9 k0 k1) h_le_o (by omega)
                rw [nI_clamp (by omega), nIf_up] at h_le
                refine lv_aload_n hx hb d_M_findLeft_117 rfl (lv_at hl 5 rfl) ?_
                refine lv_dup hx hb d_M_findLeft_118 rfl ?_
                refine mp_get (C := R_M) (T := F_M) (N := 31) (v := .int (nI s9)) hx hb hg i_M hown hK.va hI h_o rfl 14 (by decide) (hg _ q_818) (fun _ h9 => h9) rfl d_M_findLeft_119 ?_
                refine lv_iconst (v := nI 1) hx hb d_M_findLeft_122 (by decide) ?_
                refine lv_iadd hx hb d_M_findLeft_123 ?_
                refine lv_topi (fun v64 ev64 => ?_)
                obtain rfl : v64 = nI (s9 + 1) := ev64.trans (nI_add _ _)
                refine mp_put (C := R_M) (T := F_M) (N := 31) (v := .int (nI (s9 + 1))) (ty := .int) hx hb hg i_M t_M t_M_ok n_M hown hK.va hI h_o rfl 14 (by decide) (hg _ q_818) (fun _ h9 => h9) rfl (by decide +kernel) (rfl) rfl (Nat.le_of_ble_eq_true rfl) d_M_findLeft_124 (fun S65 H66 locs e_67 hI => ?_)
                have h_o_o := h_o
                have e_67 : S65 = va_up S61 o (some (2000, .inr (10, [.int (nI nl), mv1, mv2, mv3, mv4, .int (nI n), mv6, mv7, mv8, .ref hd, mv10, mv11, mv12, mv13, .int (nI (s9 + 1)), .ref le, mv16, mv17, mv18, mv19, mv20, mv21, mv22, mv23, mv24, mv25, mv26, mv27, mv28, mv29, mv30]))) := e_67
                have h_hd : S65 hd = some (2005, .inl ((g 0), 12, .inl hf)) := by rw [e_67]; exact mp_keep h_hd h_o (by decide)
                have h_le : S65 le = some (2008, .inl ((g 0), 17, .inl (fun j => nI (va_up LF s9 ((a9 + (10 * i)) + (100 * ((d9 - a9) - i))) j)))) := by rw [e_67]; exact mp_keep h_le h_o (by decide)
                have h_o : S65 o = some (2000, .inr (10, [.int (nI nl), mv1, mv2, mv3, mv4, .int (nI n), mv6, mv7, mv8, .ref hd, mv10, mv11, mv12, mv13, .int (nI (s9 + 1)), .ref le, mv16, mv17, mv18, mv19, mv20, mv21, mv22, mv23, mv24, mv25, mv26, mv27, mv28, mv29, mv30])) := by rw [e_67]; exact mp_us _ _ _
                have hfr : ∀ b t e9, B b = some (t, e9) → (t ≠ 2000) → (t ≠ 2008) → S65 b = some (t, e9) := fun b t e9 h9 k0 k1 => by rw [e_67]; exact mp_keep (hfr b t e9 h9 k0 k1) h_o_o (by omega)
                refine lv_iinc (v := nI (i + 1)) (lv' := [(3, .int (nI (i + 1))), (5, .int (nI 1)), (4, .int (nI ((d9 - a9) - i))), (2, .int (nI a9)), (1, .int (nI d9)), (0, .ref o)]) hx hb d_M_findLeft_127 hl (k := 2) rfl (nI_1 _) (by decide) rfl (fun ls hl => ?_)
                refine lv_goto (tgt := 22) hx hb d_M_findLeft_130 (by decide) ?_
                exact ih (i + 1) (s9 + 1) (va_up LF s9 ((a9 + (10 * i)) + (100 * ((d9 - a9) - i)))) S65 H66 locs ls (by omega) (by omega) (flI_yes (Q := plN a9 0 (d9 - a9) + i) hfl hlf (by rw [hEp]; rfl)) h_o h_hd h_le hfr hI (lv_sub hl [0, 3, 4, 5] rfl) kx ky
              · rw [nI_eq (by omega) (by omega)] at c3
                obtain rfl : s9 = 16 := c3
                exact ky LF S H53 locs ls (flI_17 hfl hlf) h_o h_hd h_le hfr hI (lv_sub hl [5] rfl)
set_option maxHeartbeats 4000000 in
set_option maxRecDepth 100000 in
theorem lp_M_left2 {p : Program} {l : Launch} {e : Env} {R : Room} {s : State} {m : MethodId} {args : Array Value} {below : List Frame} {meth : Method} {c : Code} {Q : State → Prop} {D : mp_G} {g : Nat → ClassId} {A : Nat → Prop} {cells slots : Nat} (hx : p.tables.exec = Jvm.exec) (hb : c.code = b_M_findLeft) (hml : c.maxLocals = 6) (hg : ∀ w ∈ gw, w.before args s = true) (hown : s.vm.findClass R_M = some m.cls) (hK : mp_K D classes (tys g) s) (hRf : 2 ≤ R.frames) (hRl : 45 ≤ R.locals) (hRc : cells ≤ R.cells) (hRs : slots ≤ R.slots) {B : mp_M} {o hd le n nl : Nat} {mv1 mv2 mv3 mv4 mv6 mv7 mv8 mv10 mv11 mv12 mv13 mv16 mv17 mv18 mv19 mv20 mv21 mv22 mv23 mv24 mv25 mv26 mv27 mv28 mv29 mv30 : Value} {hf : Nat → Int32} {h : Nat → m3} {d9 : Nat} (hh : mhS n (fun i => (h i).1) (fun i => (h i).2.1) (fun i => (h i).2.2) hf) (hn : n ≤ 12) (hnl : nl ≤ 3) (hd9 : d9 < 28) : ∀ (k : Nat) (i : Nat) (s9 : Nat) (LF : Nat → Nat) (S : mp_M) (H : Heap) (locs : List Loc) (ls : Array Slot), i + k = d9 + 1 → (s9 ≤ 16) → (flI n h nl (mR d9 i) s9 LF) → S o = some (2000, .inr (10, [.int (nI nl), mv1, mv2, mv3, mv4, .int (nI n), mv6, mv7, mv8, .ref hd, mv10, mv11, mv12, mv13, .int (nI s9), .ref le, mv16, mv17, mv18, mv19, mv20, mv21, mv22, mv23, mv24, mv25, mv26, mv27, mv28, mv29, mv30])) → S hd = some (2005, .inl ((g 0), 12, .inl hf)) → S le = some (2008, .inl ((g 0), 17, .inl (fun j => nI (LF j)))) → (∀ b t e9, B b = some (t, e9) → (t ≠ 2000) → (t ≠ 2008) → S b = some (t, e9)) → mp_I D classes A s.heap S H locs → lv_has ls 6 [(2, .int (nI i)), (1, .int (nI d9)), (0, .ref o)] → (∀ (s9 : Nat) (LF : Nat → Nat) (S : mp_M) (H : Heap) (locs : List Loc) (ls : Array Slot), (s9 ≤ 16) → (flI n h nl (mR d9 (d9 + 1)) s9 LF) → S o = some (2000, .inr (10, [.int (nI nl), mv1, mv2, mv3, mv4, .int (nI n), mv6, mv7, mv8, .ref hd, mv10, mv11, mv12, mv13, .int (nI s9), .ref le, mv16, mv17, mv18, mv19, mv20, mv21, mv22, mv23, mv24, mv25, mv26, mv27, mv28, mv29, mv30])) → S hd = some (2005, .inl ((g 0), 12, .inl hf)) → S le = some (2008, .inl ((g 0), 17, .inl (fun j => nI (LF j)))) → (∀ b t e9, B b = some (t, e9) → (t ≠ 2000) → (t ≠ 2008) → S b = some (t, e9)) → mp_I D classes A s.heap S H locs → lv_has ls 6 [(2, .int (nI (d9 + 1))), (1, .int (nI d9)), (0, .ref o)] → W p l e R s m args below meth c H locs cells slots Q (F0 m 139 ls [])) → (∀ (LF : Nat → Nat) (S : mp_M) (H : Heap) (locs : List Loc) (ls : Array Slot), (∃ Q9 lf, colS (lfP n h nl) Q9 17 lf) → S o = some (2000, .inr (10, [.int (nI nl), mv1, mv2, mv3, mv4, .int (nI n), mv6, mv7, mv8, .ref hd, mv10, mv11, mv12, mv13, .int (nI 16), .ref le, mv16, mv17, mv18, mv19, mv20, mv21, mv22, mv23, mv24, mv25, mv26, mv27, mv28, mv29, mv30])) → S hd = some (2005, .inl ((g 0), 12, .inl hf)) → S le = some (2008, .inl ((g 0), 17, .inl (fun j => nI (LF j)))) → (∀ b t e9, B b = some (t, e9) → (t ≠ 2000) → (t ≠ 2008) → S b = some (t, e9)) → mp_I D classes A s.heap S H locs → lv_has ls 6 [(0, .ref o)] → W p l e R s m args below meth c H locs cells slots Q (F0 m 94 ls [])) → W p l e R s m args below meth c H locs cells slots Q (F0 m 15 ls []) := by
  intro k
  induction k with
  | zero =>
    intro i s9 LF S H locs ls hi hs9 hfl h_o h_hd h_le hfr hI hl kx ky
    refine lv_iload_n hx hb d_M_findLeft_15 rfl (lv_at hl 0 rfl) ?_
    refine lv_iload_n hx hb d_M_findLeft_16 rfl (lv_at hl 1 rfl) ?_
    refine lv_icmp_gt (tgt := 139) hx hb d_M_findLeft_17 (by decide) (fun _ => ?_) (fun h9 => absurd ((nI_ltI (by omega) (by omega)).mpr (by omega)) h9)
    obtain rfl : i = d9 + 1 := by omega
    exact kx s9 LF S H locs ls hs9 hfl h_o h_hd h_le hfr hI (lv_sub hl [0, 1, 2] rfl)
  | succ k ih =>
    intro i s9 LF S H locs ls hi hs9 hfl h_o h_hd h_le hfr hI hl kx ky
    refine lv_iload_n hx hb d_M_findLeft_15 rfl (lv_at hl 0 rfl) ?_
    refine lv_iload_n hx hb d_M_findLeft_16 rfl (lv_at hl 1 rfl) ?_
    refine lv_icmp_gt (tgt := 139) hx hb d_M_findLeft_17 (by decide) (fun h9 => absurd h9 (by rw [nI_ltI (by omega) (by omega)]; omega)) (fun _ => ?_)
    refine lv_iconst (v := nI 0) hx hb d_M_findLeft_20 (by decide) ?_
    refine lv_istore_n (lv' := [(3, .int (nI 0)), (2, .int (nI i)), (1, .int (nI d9)), (0, .ref o)]) hx hb d_M_findLeft_21 rfl hl (by decide) rfl (fun ls hl => ?_)
    refine lp_M_left3 (B := B) (o := o) (hd := hd) (le := le) (n := n) (nl := nl) (mv1 := mv1) (mv2 := mv2) (mv3 := mv3) (mv4 := mv4) (mv6 := mv6) (mv7 := mv7) (mv8 := mv8) (mv10 := mv10) (mv11 := mv11) (mv12 := mv12) (mv13 := mv13) (mv16 := mv16) (mv17 := mv17) (mv18 := mv18) (mv19 := mv19) (mv20 := mv20) (mv21 := mv21) (mv22 := mv22) (mv23 := mv23) (mv24 := mv24) (mv25 := mv25) (mv26 := mv26) (mv27 := mv27) (mv28 := mv28) (mv29 := mv29) (mv30 := mv30) (hf := hf) (h := h) (a9 := i) (d9 := d9) hx hb hml hg hown hK (Nat.le_trans (Nat.le_of_ble_eq_true rfl) hRf) (Nat.le_trans (Nat.le_of_ble_eq_true rfl) hRl) (by omega) (by omega) hh hn hnl hd9 (by omega) (d9 - i + 1) 0 s9 LF S H _ ls (by omega) hs9 (by unfold mR at hfl; rw [if_pos (show i ≤ d9 by omega)] at hfl; exact hfl) h_o h_hd h_le hfr hI (lv_sub hl [0, 1, 2, 3] rfl) (fun s8 LF8 S1 H2 locs ls hs8 hf8 j_o j_hd j_le hfr hI hl => ?_) ky
    refine lv_iinc (v := nI (i + 1)) (lv' := [(2, .int (nI (i + 1))), (3, .int (nI (d9 - i + 1))), (1, .int (nI d9)), (0, .ref o)]) hx hb d_M_findLeft_133 hl (k := 1) rfl (nI_1 _) (by decide) rfl (fun ls hl => ?_)
    refine lv_goto (tgt := 15) hx hb d_M_findLeft_136 (by decide) ?_
    exact ih (i + 1) s8 LF8 S1 H2 locs ls (by omega) hs8 (by rw [mR_s (show i ≤ d9 by omega)]; exact hf8) j_o j_hd j_le hfr hI (lv_sub hl [0, 2, 3] rfl) kx ky
set_option maxHeartbeats 4000000 in
set_option maxRecDepth 100000 in
theorem lp_M_left1 {p : Program} {l : Launch} {e : Env} {R : Room} {s : State} {m : MethodId} {args : Array Value} {below : List Frame} {meth : Method} {c : Code} {Q : State → Prop} {D : mp_G} {g : Nat → ClassId} {A : Nat → Prop} {cells slots : Nat} (hx : p.tables.exec = Jvm.exec) (hb : c.code = b_M_findLeft) (hml : c.maxLocals = 6) (hg : ∀ w ∈ gw, w.before args s = true) (hown : s.vm.findClass R_M = some m.cls) (hK : mp_K D classes (tys g) s) (hRf : 2 ≤ R.frames) (hRl : 45 ≤ R.locals) (hRc : cells ≤ R.cells) (hRs : slots ≤ R.slots) {B : mp_M} {o hd le n nl : Nat} {mv1 mv2 mv3 mv4 mv6 mv7 mv8 mv10 mv11 mv12 mv13 mv16 mv17 mv18 mv19 mv20 mv21 mv22 mv23 mv24 mv25 mv26 mv27 mv28 mv29 mv30 : Value} {hf : Nat → Int32} {h : Nat → m3} (hh : mhS n (fun i => (h i).1) (fun i => (h i).2.1) (fun i => (h i).2.2) hf) (hn : n ≤ 12) (hnl : nl ≤ 3) : ∀ (k : Nat) (i : Nat) (s9 : Nat) (LF : Nat → Nat) (S : mp_M) (H : Heap) (locs : List Loc) (ls : Array Slot), i + k = 28 → (s9 ≤ 16) → (flI n h nl (tr3 i) s9 LF) → S o = some (2000, .inr (10, [.int (nI nl), mv1, mv2, mv3, mv4, .int (nI n), mv6, mv7, mv8, .ref hd, mv10, mv11, mv12, mv13, .int (nI s9), .ref le, mv16, mv17, mv18, mv19, mv20, mv21, mv22, mv23, mv24, mv25, mv26, mv27, mv28, mv29, mv30])) → S hd = some (2005, .inl ((g 0), 12, .inl hf)) → S le = some (2008, .inl ((g 0), 17, .inl (fun j => nI (LF j)))) → (∀ b t e9, B b = some (t, e9) → (t ≠ 2000) → (t ≠ 2008) → S b = some (t, e9)) → mp_I D classes A s.heap S H locs → lv_has ls 6 [(1, .int (nI i)), (0, .ref o)] → (∀ (s9 : Nat) (LF : Nat → Nat) (S : mp_M) (H : Heap) (locs : List Loc) (ls : Array Slot), (s9 ≤ 16) → (flI n h nl (tr3 28) s9 LF) → S o = some (2000, .inr (10, [.int (nI nl), mv1, mv2, mv3, mv4, .int (nI n), mv6, mv7, mv8, .ref hd, mv10, mv11, mv12, mv13, .int (nI s9), .ref le, mv16, mv17, mv18, mv19, mv20, mv21, mv22, mv23, mv24, mv25, mv26, mv27, mv28, mv29, mv30])) → S hd = some (2005, .inl ((g 0), 12, .inl hf)) → S le = some (2008, .inl ((g 0), 17, .inl (fun j => nI (LF j)))) → (∀ b t e9, B b = some (t, e9) → (t ≠ 2000) → (t ≠ 2008) → S b = some (t, e9)) → mp_I D classes A s.heap S H locs → lv_has ls 6 [(1, .int (nI 28)), (0, .ref o)] → W p l e R s m args below meth c H locs cells slots Q (F0 m 145 ls [])) → (∀ (LF : Nat → Nat) (S : mp_M) (H : Heap) (locs : List Loc) (ls : Array Slot), (∃ Q9 lf, colS (lfP n h nl) Q9 17 lf) → S o = some (2000, .inr (10, [.int (nI nl), mv1, mv2, mv3, mv4, .int (nI n), mv6, mv7, mv8, .ref hd, mv10, mv11, mv12, mv13, .int (nI 16), .ref le, mv16, mv17, mv18, mv19, mv20, mv21, mv22, mv23, mv24, mv25, mv26, mv27, mv28, mv29, mv30])) → S hd = some (2005, .inl ((g 0), 12, .inl hf)) → S le = some (2008, .inl ((g 0), 17, .inl (fun j => nI (LF j)))) → (∀ b t e9, B b = some (t, e9) → (t ≠ 2000) → (t ≠ 2008) → S b = some (t, e9)) → mp_I D classes A s.heap S H locs → lv_has ls 6 [(0, .ref o)] → W p l e R s m args below meth c H locs cells slots Q (F0 m 94 ls [])) → W p l e R s m args below meth c H locs cells slots Q (F0 m 7 ls []) := by
  intro k
  induction k with
  | zero =>
    intro i s9 LF S H locs ls hi hs9 hfl h_o h_hd h_le hfr hI hl kx ky
    refine lv_iload_n hx hb d_M_findLeft_7 rfl (lv_at hl 0 rfl) ?_
    refine lv_bipush (v := nI 28) hx hb d_M_findLeft_8 (by decide) ?_
    refine lv_icmp_ge (tgt := 145) hx hb d_M_findLeft_10 (by decide) (fun _ => ?_) (fun h9 => absurd ((nI_leI (by omega) (by omega)).mpr (by omega)) h9)
    obtain rfl : i = 28 := by omega
    exact kx s9 LF S H locs ls hs9 hfl h_o h_hd h_le hfr hI (lv_sub hl [0, 1] rfl)
  | succ k ih =>
    intro i s9 LF S H locs ls hi hs9 hfl h_o h_hd h_le hfr hI hl kx ky
    refine lv_iload_n hx hb d_M_findLeft_7 rfl (lv_at hl 0 rfl) ?_
    refine lv_bipush (v := nI 28) hx hb d_M_findLeft_8 (by decide) ?_
    refine lv_icmp_ge (tgt := 145) hx hb d_M_findLeft_10 (by decide) (fun h9 => absurd h9 (by rw [nI_leI (by omega) (by omega)]; omega)) (fun _ => ?_)
    refine lv_iconst (v := nI 0) hx hb d_M_findLeft_13 (by decide) ?_
    refine lv_istore_n (lv' := [(2, .int (nI 0)), (1, .int (nI i)), (0, .ref o)]) hx hb d_M_findLeft_14 rfl hl (by decide) rfl (fun ls hl => ?_)
    refine lp_M_left2 (B := B) (o := o) (hd := hd) (le := le) (n := n) (nl := nl) (mv1 := mv1) (mv2 := mv2) (mv3 := mv3) (mv4 := mv4) (mv6 := mv6) (mv7 := mv7) (mv8 := mv8) (mv10 := mv10) (mv11 := mv11) (mv12 := mv12) (mv13 := mv13) (mv16 := mv16) (mv17 := mv17) (mv18 := mv18) (mv19 := mv19) (mv20 := mv20) (mv21 := mv21) (mv22 := mv22) (mv23 := mv23) (mv24 := mv24) (mv25 := mv25) (mv26 := mv26) (mv27 := mv27) (mv28 := mv28) (mv29 := mv29) (mv30 := mv30) (hf := hf) (h := h) (d9 := i) hx hb hml hg hown hK (Nat.le_trans (Nat.le_of_ble_eq_true rfl) hRf) (Nat.le_trans (Nat.le_of_ble_eq_true rfl) hRl) (by omega) (by omega) hh hn hnl (by omega) (i + 1) 0 s9 LF S H _ ls (by omega) hs9 (by rw [mR_0]; exact hfl) h_o h_hd h_le hfr hI (lv_sub hl [0, 1, 2] rfl) (fun s8 LF8 S1 H2 locs ls hs8 hf8 j_o j_hd j_le hfr hI hl => ?_) ky
    refine lv_iinc (v := nI (i + 1)) (lv' := [(1, .int (nI (i + 1))), (2, .int (nI (i + 1))), (0, .ref o)]) hx hb d_M_findLeft_139 hl (k := 1) rfl (nI_1 _) (by decide) rfl (fun ls hl => ?_)
    refine lv_goto (tgt := 7) hx hb d_M_findLeft_142 (by decide) ?_
    exact ih (i + 1) s8 LF8 S1 H2 locs ls (by omega) hs8 (by rw [mR_d] at hf8; exact hf8) j_o j_hd j_le hfr hI (lv_sub hl [0, 2] rfl) kx ky
set_option maxHeartbeats 4000000 in
set_option maxRecDepth 100000 in
/-- the powers that are left, in the reference -/
theorem c_M_findLeft (l : Launch) (D : mp_G) (g : Nat → ClassId) (S : mp_M) (sz : Nat) (o hd le n nl : Nat) (mv1 mv2 mv3 mv4 mv6 mv7 mv8 mv10 mv11 mv12 mv13 mv16 mv17 mv18 mv19 mv20 mv21 mv22 mv23 mv24 mv25 mv26 mv27 mv28 mv29 mv30 : Value) (hf : Nat → Int32) (h : Nat → m3) (z0 : Int32) (LF : Nat → Nat) (h_o : S o = some (2000, .inr (10, [.int (nI nl), mv1, mv2, mv3, mv4, .int (nI n), mv6, mv7, mv8, .ref hd, mv10, mv11, mv12, mv13, .int z0, .ref le, mv16, mv17, mv18, mv19, mv20, mv21, mv22, mv23, mv24, mv25, mv26, mv27, mv28, mv29, mv30]))) (h_hd : S hd = some (2005, .inl ((g 0), 12, .inl hf))) (h_le : S le = some (2008, .inl ((g 0), 17, .inl (fun j => nI (LF j))))) (hh : mhS n (fun i => (h i).1) (fun i => (h i).2.1) (fun i => (h i).2.2) hf) (hn : n ≤ 12) (hnl : nl ≤ 3) : Met l y_M_findLeft w_M_findLeft ({ frames := 2, cells := 0, slots := 0, locals := 45 }) (va_Pc [.ref o] (mp_B0 D classes (tys g) S sz)) (va_Qi (fun (r : Int32) (S1 : mp_M) => ∃ (s9 : Nat) (LF1 : Nat → Nat), s9 ≤ 16 ∧ S1 o = some (2000, .inr (10, [.int (nI nl), mv1, mv2, mv3, mv4, .int (nI n), mv6, mv7, mv8, .ref hd, mv10, mv11, mv12, mv13, .int (nI s9), .ref le, mv16, mv17, mv18, mv19, mv20, mv21, mv22, mv23, mv24, mv25, mv26, mv27, mv28, mv29, mv30])) ∧ S1 le = some (2008, .inl ((g 0), 17, .inl (fun j => nI (LF1 j)))) ∧ ((r = 1 ∧ flI n h nl (tr3 28) s9 LF1) ∨ (r = 0 ∧ ∃ Q9 lf, colS (lfP n h nl) Q9 17 lf)) ∧ (∀ b t e9, S b = some (t, e9) → (t ≠ 2000) → (t ≠ 2008) → S1 b = some (t, e9))) (mp_B1 D classes S sz) (mp_A S sz)) 0 0 (mp_A S sz) := by
  refine Met.ofW (cc := b_M_findLeft) (maxL := 6) (ret := (some .boolean)) (by decide) rfl ?_
  intro p e s m args below meth c s₁ B hml hv
  obtain ⟨rfl, hsz, hH, hK⟩ := hv
  have hx := B.exec
  have hb := B.bytes
  have hr := B.returns
  have hts := atoms_spec (ws := w_M_findLeft) B.pre
  have hg : ∀ w ∈ gw, w.before _ s = true := fun w h => hts w (List.mem_cons_of_mem _ h)
  have hown : s.vm.findClass R_M = some m.cls := findClass_of_methodNamed B.named
  have hlocks := B.notSynchronized
  subst hsz
  have hI := mp_I.start hH
  have hl := lv_entry ([.ref o]) (n := 6) (Nat.le_of_ble_eq_true rfl)
  rw [lg_entry_eq]
  generalize (lg_sl ([.ref o]) ++ List.replicate (6 - (lg_sl ([.ref o])).length) Slot.unset).toArray = ls at hl ⊢
  have hl : lv_has ls 6 [(0, .ref o)] := hl
  have hfr : ∀ b t e9, S b = some (t, e9) → (t ≠ 2000) → (t ≠ 2008) → S b = some (t, e9) := fun _ _ _ h9 _ _ => h9
  refine lv_aload_n hx hb d_M_findLeft_0 rfl (lv_at hl 0 rfl) ?_
  refine lv_iconst (v := nI 0) hx hb d_M_findLeft_1 (by decide) ?_
  refine mp_put (C := R_M) (T := F_M) (N := 31) (v := .int (nI 0)) (ty := .int) hx hb hg i_M t_M t_M_ok n_M hown hK.va hI h_o rfl 14 (by decide) (hg _ q_818) (fun _ h9 => h9) rfl (by decide +kernel) (rfl) rfl (Nat.le_of_ble_eq_true rfl) d_M_findLeft_2 (fun S1 H2 locs e_3 hI => ?_)
  have h_o_o := h_o
  have e_3 : S1 = va_up S o (some (2000, .inr (10, [.int (nI nl), mv1, mv2, mv3, mv4, .int (nI n), mv6, mv7, mv8, .ref hd, mv10, mv11, mv12, mv13, .int (nI 0), .ref le, mv16, mv17, mv18, mv19, mv20, mv21, mv22, mv23, mv24, mv25, mv26, mv27, mv28, mv29, mv30]))) := e_3
  have h_hd : S1 hd = some (2005, .inl ((g 0), 12, .inl hf)) := by rw [e_3]; exact mp_keep h_hd h_o (by decide)
  have h_le : S1 le = some (2008, .inl ((g 0), 17, .inl (fun j => nI (LF j)))) := by rw [e_3]; exact mp_keep h_le h_o (by decide)
  have h_o : S1 o = some (2000, .inr (10, [.int (nI nl), mv1, mv2, mv3, mv4, .int (nI n), mv6, mv7, mv8, .ref hd, mv10, mv11, mv12, mv13, .int (nI 0), .ref le, mv16, mv17, mv18, mv19, mv20, mv21, mv22, mv23, mv24, mv25, mv26, mv27, mv28, mv29, mv30])) := by rw [e_3]; exact mp_us _ _ _
  have hfr : ∀ b t e9, S b = some (t, e9) → (t ≠ 2000) → (t ≠ 2008) → S1 b = some (t, e9) := fun b t e9 h9 k0 k1 => by rw [e_3]; exact mp_keep (hfr b t e9 h9 k0 k1) h_o_o (by omega)
  refine lv_iconst (v := nI 0) hx hb d_M_findLeft_5 (by decide) ?_
  refine lv_istore_n (lv' := [(1, .int (nI 0)), (0, .ref o)]) hx hb d_M_findLeft_6 rfl hl (by decide) rfl (fun ls hl => ?_)
  refine lp_M_left1 (B := S) (o := o) (hd := hd) (le := le) (n := n) (nl := nl) (mv1 := mv1) (mv2 := mv2) (mv3 := mv3) (mv4 := mv4) (mv6 := mv6) (mv7 := mv7) (mv8 := mv8) (mv10 := mv10) (mv11 := mv11) (mv12 := mv12) (mv13 := mv13) (mv16 := mv16) (mv17 := mv17) (mv18 := mv18) (mv19 := mv19) (mv20 := mv20) (mv21 := mv21) (mv22 := mv22) (mv23 := mv23) (mv24 := mv24) (mv25 := mv25) (mv26 := mv26) (mv27 := mv27) (mv28 := mv28) (mv29 := mv29) (mv30 := mv30) (hf := hf) (h := h) hx hb hml hg hown hK (Nat.le_of_ble_eq_true rfl) (Nat.le_of_ble_eq_true rfl) (Nat.le_of_ble_eq_true rfl) (Nat.le_of_ble_eq_true rfl) hh hn hnl 28 0 0 LF S1 H2 _ ls (by omega) (Nat.zero_le _) ⟨fun _ => 0, colS_0 _ _, fun k hk => absurd hk (Nat.not_lt_zero k)⟩ h_o h_hd h_le hfr hI (lv_sub hl [0, 1] rfl) (fun s9 LF1 S4 H5 locs ls hs9 hfl j_o j_hd j_le hfr hI hl => ?_) (fun LF1 S9 H9 locs ls hno j_o j_hd j_le hfr hI hl => ?_)
  · refine lv_iconst (v := nI 1) hx hb d_M_findLeft_145 (by decide) ?_
    refine mp_zret hx hb hr hlocks hI (Nat.le_of_ble_eq_true rfl) (Nat.le_of_ble_eq_true rfl) ?_ (by decide) d_M_findLeft_146
    exact ⟨s9, LF1, hs9, j_o, j_le, Or.inl ⟨rfl, hfl⟩, hfr⟩
  · refine lv_iconst (v := nI 0) hx hb d_M_findLeft_94 (by decide) ?_
    refine mp_zret hx hb hr hlocks hI (Nat.le_of_ble_eq_true rfl) (Nat.le_of_ble_eq_true rfl) ?_ (by decide) d_M_findLeft_95
    exact ⟨16, LF1, Nat.le_refl _, j_o, j_le, Or.inr ⟨rfl, hno⟩, hfr⟩
