theorem nI_r1 (rc : Nat) : nI rc + -1 + nI 1 = nI rc := by
  rw [Int32.add_assoc, show (-1 : Int32) + nI 1 = 0 by decide, Int32.add_zero]
/-- a letter times a row of numbers at the powers left -/
def mltF (PT : Nat → Nat → fF) (l s : Nat) (u : Nat → fF) : Nat → fF := fun j => sm s (fun k => u k * PT (16 * l + k) j)
def lwN (s : Nat) (kQ : Nat → Nat) (key v i : Nat) (lw : Nat → Nat) : Nat → Nat := fun j => if j < i ∧ kQ j = key then v else lw j
theorem lwN_0 (s : Nat) (kQ : Nat → Nat) (key v : Nat) (lw : Nat → Nat) : lwN s kQ key v 0 lw = lw := by funext j; unfold lwN; rw [if_neg (by omega)]
theorem lwN_y {s : Nat} {kQ : Nat → Nat} {key v i : Nat} {lw : Nat → Nat} (h : kQ i = key) : va_up (lwN s kQ key v i lw) i v = lwN s kQ key v (i + 1) lw := by
  funext j
  by_cases e : j = i
  · rw [e, mp_us]; unfold lwN; rw [if_pos ⟨Nat.lt_succ_self i, h⟩]
  · rw [mp_un e]; unfold lwN
    by_cases q : j < i ∧ kQ j = key
    · rw [if_pos q, if_pos ⟨by omega, q.2⟩]
    · rw [if_neg q, if_neg (fun w => q ⟨by omega, w.2⟩)]
theorem lwN_n {s : Nat} {kQ : Nat → Nat} {key v i : Nat} {lw : Nat → Nat} (h : ¬ kQ i = key) : lwN s kQ key v i lw = lwN s kQ key v (i + 1) lw := by
  funext j
  unfold lwN
  by_cases q : j < i ∧ kQ j = key
  · rw [if_pos q, if_pos ⟨by omega, q.2⟩]
  · rw [if_neg q, if_neg (fun w => q ⟨by by_cases e : j = i; exact absurd (e ▸ w.2) h; omega, w.2⟩)]
def sO (s : Nat) : Nat → fF := if 0 < s then eK 0 else zR
theorem sO_y {s : Nat} (h : 0 < s) : va_up zR 0 1 = sO s := by
  unfold sO; rw [if_pos h]; funext j
  by_cases e : j = 0
  · rw [e, mp_us]; rfl
  · rw [mp_un e]; unfold eK; rw [if_neg e]; rfl
theorem sO_n {s : Nat} (h : ¬ 0 < s) : zR = sO s := by unfold sO; rw [if_neg h]
theorem lfP_deg {n : Nat} {h : Nat → m3} {nl i sz : Nat} {lf : Nat → Nat} {rc N : Nat} (hc : colS (lfP n h nl) i sz lf) (hd : ∀ k, k < sz → (Ep (lf k)).1 + (Ep (lf k)).2.1 + (Ep (lf k)).2.2 + 1 ≤ rc) (hlt : rc < (Ep i).1 + (Ep i).2.1 + (Ep i).2.2) (hi : i ≤ N) : colS (lfP n h nl) N sz lf := by
  refine colS_to hc hi (fun q h1 _ => ?_)
  refine lf_end hc (d := (Ep i).1 + (Ep i).2.1 + (Ep i).2.2) ?_ (by omega) (fun k hk => by have := hd k hk; omega) q h1
  have h1 := (pl_deg (Ep i).1 (Ep i).2.1 (Ep i).2.2).1
  have h2 : plN (Ep i).1 (Ep i).2.1 (Ep i).2.2 = i := pl_Ep3 i
  omega
theorem colS_dg {n : Nat} {h : Nat → m3} {nl i sz : Nat} {lf : Nat → Nat} (hc : colS (lfP n h nl) i sz lf) {k : Nat} (hk : k < sz) : (Ep (lf k)).1 + (Ep (lf k)).2.1 + (Ep (lf k)).2.2 + 1 ≤ (Ep i).1 + (Ep i).2.1 + (Ep i).2.2 + 1 := by
  have h1 := (hc.1 k hk).1
  have h2 : pl3 (Ep (lf k)) < pl3 (Ep i) := by rw [pl_Ep3, pl_Ep3]; exact h1
  have := pl_hi h2
  omega

theorem d_Q_collect_0 : decode b_Q_collect 0 = .ok (.aload_n 0, 1) := by decide +kernel
theorem d_Q_collect_1 : decode b_Q_collect 1 = .ok (.iconst 0, 1) := by decide +kernel
theorem d_Q_collect_2 : decode b_Q_collect 2 = .ok (.putfield 54, 3) := by decide +kernel
theorem d_Q_collect_5 : decode b_Q_collect 5 = .ok (.iconst (-1), 1) := by decide +kernel
theorem d_Q_collect_6 : decode b_Q_collect 6 = .ok (.istore_n 3, 1) := by decide +kernel
theorem d_Q_collect_7 : decode b_Q_collect 7 = .ok (.iconst 0, 1) := by decide +kernel
theorem d_Q_collect_8 : decode b_Q_collect 8 = .ok (.istore 4, 2) := by decide +kernel
theorem d_Q_collect_10 : decode b_Q_collect 10 = .ok (.iload 4, 2) := by decide +kernel
theorem d_Q_collect_12 : decode b_Q_collect 12 = .ok (.aload_n 2, 1) := by decide +kernel
theorem d_Q_collect_13 : decode b_Q_collect 13 = .ok (.getfield 57, 3) := by decide +kernel
theorem d_Q_collect_16 : decode b_Q_collect 16 = .ok (.arraylength, 1) := by decide +kernel
theorem d_Q_collect_17 : decode b_Q_collect 17 = .ok (.if_icmp .ge 93, 3) := by decide +kernel
theorem d_Q_collect_20 : decode b_Q_collect 20 = .ok (.aload_n 2, 1) := by decide +kernel
theorem d_Q_collect_21 : decode b_Q_collect 21 = .ok (.getfield 57, 3) := by decide +kernel
theorem d_Q_collect_24 : decode b_Q_collect 24 = .ok (.iload 4, 2) := by decide +kernel
theorem d_Q_collect_26 : decode b_Q_collect 26 = .ok (.iaload, 1) := by decide +kernel
theorem d_Q_collect_27 : decode b_Q_collect 27 = .ok (.istore 5, 2) := by decide +kernel
theorem d_Q_collect_29 : decode b_Q_collect 29 = .ok (.iload 5, 2) := by decide +kernel
theorem d_Q_collect_31 : decode b_Q_collect 31 = .ok (.invokestatic 60, 3) := by decide +kernel
theorem d_Q_collect_34 : decode b_Q_collect 34 = .ok (.iload_n 3, 1) := by decide +kernel
theorem d_Q_collect_35 : decode b_Q_collect 35 = .ok (.iconst 1, 1) := by decide +kernel
theorem d_Q_collect_36 : decode b_Q_collect 36 = .ok (.iadd, 1) := by decide +kernel
theorem d_Q_collect_37 : decode b_Q_collect 37 = .ok (.if_icmp .le 5, 3) := by decide +kernel
theorem d_Q_collect_40 : decode b_Q_collect 40 = .ok (.iconst 1, 1) := by decide +kernel
theorem d_Q_collect_41 : decode b_Q_collect 41 = .ok (.ireturn, 1) := by decide +kernel
theorem d_Q_collect_42 : decode b_Q_collect 42 = .ok (.iload 5, 2) := by decide +kernel
theorem d_Q_collect_44 : decode b_Q_collect 44 = .ok (.aload_n 0, 1) := by decide +kernel
theorem d_Q_collect_45 : decode b_Q_collect 45 = .ok (.getfield 50, 3) := by decide +kernel
theorem d_Q_collect_48 : decode b_Q_collect 48 = .ok (.invokestatic 66, 3) := by decide +kernel
theorem d_Q_collect_51 : decode b_Q_collect 51 = .ok (.ifCond .eq 53, 3) := by decide +kernel
theorem d_Q_collect_54 : decode b_Q_collect 54 = .ok (.aload_n 1, 1) := by decide +kernel
theorem d_Q_collect_55 : decode b_Q_collect 55 = .ok (.iload 5, 2) := by decide +kernel
theorem d_Q_collect_57 : decode b_Q_collect 57 = .ok (.invokevirtual 70, 3) := by decide +kernel
theorem d_Q_collect_60 : decode b_Q_collect 60 = .ok (.ifCond .lt 6, 3) := by decide +kernel
theorem d_Q_collect_63 : decode b_Q_collect 63 = .ok (.goto 41, 3) := by decide +kernel
theorem d_Q_collect_66 : decode b_Q_collect 66 = .ok (.aload_n 0, 1) := by decide +kernel
theorem d_Q_collect_67 : decode b_Q_collect 67 = .ok (.getfield 54, 3) := by decide +kernel
theorem d_Q_collect_70 : decode b_Q_collect 70 = .ok (.bipush 16, 2) := by decide +kernel
theorem d_Q_collect_72 : decode b_Q_collect 72 = .ok (.if_icmp .lt 5, 3) := by decide +kernel
theorem d_Q_collect_75 : decode b_Q_collect 75 = .ok (.iconst 0, 1) := by decide +kernel
theorem d_Q_collect_76 : decode b_Q_collect 76 = .ok (.ireturn, 1) := by decide +kernel
theorem d_Q_collect_77 : decode b_Q_collect 77 = .ok (.aload_n 0, 1) := by decide +kernel
theorem d_Q_collect_78 : decode b_Q_collect 78 = .ok (.getfield 9, 3) := by decide +kernel
theorem d_Q_collect_81 : decode b_Q_collect 81 = .ok (.aload_n 0, 1) := by decide +kernel
theorem d_Q_collect_82 : decode b_Q_collect 82 = .ok (.getfield 54, 3) := by decide +kernel
theorem d_Q_collect_85 : decode b_Q_collect 85 = .ok (.iload 5, 2) := by decide +kernel
theorem d_Q_collect_87 : decode b_Q_collect 87 = .ok (.iastore, 1) := by decide +kernel
theorem d_Q_collect_88 : decode b_Q_collect 88 = .ok (.aload_n 0, 1) := by decide +kernel
theorem d_Q_collect_89 : decode b_Q_collect 89 = .ok (.dup, 1) := by decide +kernel
theorem d_Q_collect_90 : decode b_Q_collect 90 = .ok (.getfield 54, 3) := by decide +kernel
theorem d_Q_collect_93 : decode b_Q_collect 93 = .ok (.iconst 1, 1) := by decide +kernel
theorem d_Q_collect_94 : decode b_Q_collect 94 = .ok (.iadd, 1) := by decide +kernel
theorem d_Q_collect_95 : decode b_Q_collect 95 = .ok (.putfield 54, 3) := by decide +kernel
theorem d_Q_collect_98 : decode b_Q_collect 98 = .ok (.iload 5, 2) := by decide +kernel
theorem d_Q_collect_100 : decode b_Q_collect 100 = .ok (.invokestatic 60, 3) := by decide +kernel
theorem d_Q_collect_103 : decode b_Q_collect 103 = .ok (.istore_n 3, 1) := by decide +kernel
theorem d_Q_collect_104 : decode b_Q_collect 104 = .ok (.iinc 4 1, 3) := by decide +kernel
theorem d_Q_collect_107 : decode b_Q_collect 107 = .ok (.goto (-97), 3) := by decide +kernel
theorem d_Q_collect_110 : decode b_Q_collect 110 = .ok (.iconst 1, 1) := by decide +kernel
theorem d_Q_collect_111 : decode b_Q_collect 111 = .ok (.ireturn, 1) := by decide +kernel
set_option maxHeartbeats 4000000 in
set_option maxRecDepth 100000 in
theorem lp_Q_collect {p : Program} {l : Launch} {e : Env} {R : Room} {s : State} {m : MethodId} {args : Array Value} {below : List Frame} {meth : Method} {c : Code} {Q : State → Prop} {D : mp_G} {g : Nat → ClassId} {A : Nat → Prop} {cells slots : Nat} (hx : p.tables.exec = Jvm.exec) (hb : c.code = b_Q_collect) (hml : c.maxLocals = 6) (hg : ∀ w ∈ gw, w.before args s = true) (hown : s.vm.findClass R_Q = some m.cls) (hK : mp_K D classes (tys g) s) (hRf : 2 ≤ R.frames) (hRl : 46 ≤ R.locals) (hRc : cells ≤ R.cells) (hRs : slots ≤ R.slots) {B : mp_M} {qo ky d9 ka lo hd nl n N M : Nat} {y3 y4 y5 y6 y7 y8 y9 y10 y11 w0 u0 : Value} {hf kp : Nat → Int32} {h : Nat → m3} (hh : hdS n (fun i => (h i).1) (fun i => (h i).2.1) (fun i => (h i).2.2) hf) (hn : n ≤ 12) (hnl : nl < 4) (hFL : FL kp N) (hN : N = tr3 (M + 1)) (hM : M ≤ 27) (hN8 : N ≤ 8000) : ∀ (k : Nat) (i : Nat) (sz9 : Nat) (kQ : Nat → Nat) (lf : Nat → Nat) (rc : Nat) (S : mp_M) (H : Heap) (locs : List Loc) (ls : Array Slot), i + k = N → (colS (lfP n h nl) i sz9 lf) → (sz9 ≤ 16) → (∀ k, k < sz9 → kQ k = kE (lf k)) → (∀ k, k < sz9 → (Ep (lf k)).1 + (Ep (lf k)).2.1 + (Ep (lf k)).2.2 + 1 ≤ rc) → (rc ≤ 28) → S qo = some (14, .inr (4, [.int (nI nl), .ref ky, .int (nI sz9), y3, y4, y5, y6, y7, y8, y9, y10, y11])) → S ky = some (15, .inl ((g 0), 16, .inl (fun j => nI (kQ j)))) → S d9 = some (11, .inr (5, [w0, .ref ka])) → S ka = some (13, .inl ((g 0), N, .inl kp)) → S lo = some (2, .inr (9, [u0, .ref hd, .int (nI n)])) → S hd = some (5, .inl ((g 0), 12, .inl hf)) → (∀ b t e9, B b = some (t, e9) → (t ≠ 14) → (t ≠ 15) → S b = some (t, e9)) → mp_I D classes A s.heap S H locs → lv_has ls 6 [(4, .int (nI i)), (3, .int (nI rc + -1)), (2, .ref d9), (1, .ref lo), (0, .ref qo)] → (∀ (sz9 : Nat) (kQ : Nat → Nat) (lf : Nat → Nat) (rc : Nat) (S : mp_M) (H : Heap) (locs : List Loc) (ls : Array Slot), (colS (lfP n h nl) N sz9 lf) → (sz9 ≤ 16) → (∀ k, k < sz9 → kQ k = kE (lf k)) → (∀ k, k < sz9 → (Ep (lf k)).1 + (Ep (lf k)).2.1 + (Ep (lf k)).2.2 + 1 ≤ rc) → (rc ≤ 28) → S qo = some (14, .inr (4, [.int (nI nl), .ref ky, .int (nI sz9), y3, y4, y5, y6, y7, y8, y9, y10, y11])) → S ky = some (15, .inl ((g 0), 16, .inl (fun j => nI (kQ j)))) → S d9 = some (11, .inr (5, [w0, .ref ka])) → S ka = some (13, .inl ((g 0), N, .inl kp)) → S lo = some (2, .inr (9, [u0, .ref hd, .int (nI n)])) → S hd = some (5, .inl ((g 0), 12, .inl hf)) → (∀ b t e9, B b = some (t, e9) → (t ≠ 14) → (t ≠ 15) → S b = some (t, e9)) → mp_I D classes A s.heap S H locs → lv_has ls 6 [(4, .int (nI N)), (3, .int (nI rc + -1)), (2, .ref d9), (1, .ref lo), (0, .ref qo)] → W p l e R s m args below meth c H locs cells slots Q (F0 m 110 ls [])) → (∀ (i : Nat) (sz9 : Nat) (kQ : Nat → Nat) (lf : Nat → Nat) (rc : Nat) (S : mp_M) (H : Heap) (locs : List Loc) (ls : Array Slot), (colS (lfP n h nl) N sz9 lf) → (sz9 ≤ 16) → (∀ k, k < sz9 → kQ k = kE (lf k)) → S qo = some (14, .inr (4, [.int (nI nl), .ref ky, .int (nI sz9), y3, y4, y5, y6, y7, y8, y9, y10, y11])) → S ky = some (15, .inl ((g 0), 16, .inl (fun j => nI (kQ j)))) → S d9 = some (11, .inr (5, [w0, .ref ka])) → S ka = some (13, .inl ((g 0), N, .inl kp)) → S lo = some (2, .inr (9, [u0, .ref hd, .int (nI n)])) → S hd = some (5, .inl ((g 0), 12, .inl hf)) → (∀ b t e9, B b = some (t, e9) → (t ≠ 14) → (t ≠ 15) → S b = some (t, e9)) → mp_I D classes A s.heap S H locs → lv_has ls 6 [(0, .ref qo)] → W p l e R s m args below meth c H locs cells slots Q (F0 m 40 ls [])) → (∀ (i : Nat) (sz9 : Nat) (kQ : Nat → Nat) (lf : Nat → Nat) (rc : Nat) (S : mp_M) (H : Heap) (locs : List Loc) (ls : Array Slot), (∃ Q lf, colS (lfP n h nl) Q 17 lf) → (sz9 ≤ 16) → S qo = some (14, .inr (4, [.int (nI nl), .ref ky, .int (nI sz9), y3, y4, y5, y6, y7, y8, y9, y10, y11])) → S ky = some (15, .inl ((g 0), 16, .inl (fun j => nI (kQ j)))) → S d9 = some (11, .inr (5, [w0, .ref ka])) → S ka = some (13, .inl ((g 0), N, .inl kp)) → S lo = some (2, .inr (9, [u0, .ref hd, .int (nI n)])) → S hd = some (5, .inl ((g 0), 12, .inl hf)) → (∀ b t e9, B b = some (t, e9) → (t ≠ 14) → (t ≠ 15) → S b = some (t, e9)) → mp_I D classes A s.heap S H locs → lv_has ls 6 [(0, .ref qo)] → W p l e R s m args below meth c H locs cells slots Q (F0 m 75 ls [])) → W p l e R s m args below meth c H locs cells slots Q (F0 m 10 ls []) := by
  intro k
  induction k with
  | zero =>
    intro i sz9 kQ lf rc S H locs ls hi hco hs9 hkq hrc hrb h_qo h_ky h_d9 h_ka h_lo h_hd hfr hI hl kx ky1 ky0
    refine lv_iload hx hb d_Q_collect_10 (lv_at hl 0 rfl) ?_
    refine lv_aload_n hx hb d_Q_collect_12 rfl (lv_at hl 2 rfl) ?_
    refine mp_getN (C := R_D) (T := F_D) (N := 2) (v := .ref ka) hx hb hg i_D hown hK.va hI h_d9 rfl 1 (by decide) (hK.use q_186 rfl) (fun _ h9 => h9) rfl d_Q_collect_13 ?_
    refine mp_alen (v := nI N) hx hb hK.va hI 0 h_ka rfl rfl d_Q_collect_16 ?_
    refine lv_icmp_ge (tgt := 110) hx hb d_Q_collect_17 (by decide) (fun _ => ?_) (fun h9 => absurd ((nI_leI (by omega) (by omega)).mpr (by omega)) h9)
    obtain rfl : i = N := by omega
    exact kx sz9 kQ lf rc S H locs ls hco hs9 hkq hrc hrb h_qo h_ky h_d9 h_ka h_lo h_hd hfr hI (lv_sub hl [0, 1, 2, 3, 4] rfl)
  | succ k ih =>
    intro i sz9 kQ lf rc S H locs ls hi hco hs9 hkq hrc hrb h_qo h_ky h_d9 h_ka h_lo h_hd hfr hI hl kx ky1 ky0
    refine lv_iload hx hb d_Q_collect_10 (lv_at hl 0 rfl) ?_
    refine lv_aload_n hx hb d_Q_collect_12 rfl (lv_at hl 2 rfl) ?_
    refine mp_getN (C := R_D) (T := F_D) (N := 2) (v := .ref ka) hx hb hg i_D hown hK.va hI h_d9 rfl 1 (by decide) (hK.use q_186 rfl) (fun _ h9 => h9) rfl d_Q_collect_13 ?_
    refine mp_alen (v := nI N) hx hb hK.va hI 0 h_ka rfl rfl d_Q_collect_16 ?_
    refine lv_icmp_ge (tgt := 110) hx hb d_Q_collect_17 (by decide) (fun h9 => absurd h9 (by rw [nI_leI (by omega) (by omega)]; omega)) (fun _ => ?_)
    have hdg := Ep_deg (show i < tr3 (M + 1) by omega)
    refine lv_aload_n hx hb d_Q_collect_20 rfl (lv_at hl 2 rfl) ?_
    refine mp_getN (C := R_D) (T := F_D) (N := 2) (v := .ref ka) hx hb hg i_D hown hK.va hI h_d9 rfl 1 (by decide) (hK.use q_186 rfl) (fun _ h9 => h9) rfl d_Q_collect_21 ?_
    refine lv_iload hx hb d_Q_collect_24 (lv_at hl 0 rfl) ?_
    refine mp_iald hx hb hK.va hI 0 h_ka rfl (vp_in_nI (show i < N by omega) (by omega)) d_Q_collect_26 ?_
    refine lv_topi (fun v1 ev1 => ?_)
    obtain rfl : v1 = nI (kN (Ep i).1 (Ep i).2.1 (Ep i).2.2) := ev1.trans (by rw [nI_clamp (by omega)]; exact hFL i (by omega))
    refine lv_istore (lv' := [(5, .int (nI (kN (Ep i).1 (Ep i).2.1 (Ep i).2.2))), (4, .int (nI i)), (3, .int (nI rc + -1)), (2, .ref d9), (1, .ref lo), (0, .ref qo)]) hx hb d_Q_collect_27 hl (by decide) rfl (fun ls hl => ?_)
    refine lv_iload hx hb d_Q_collect_29 (lv_at hl 0 rfl) ?_
    refine mp_calli hI (va_runS (As := [.int (nI (kN (Ep i).1 (Ep i).2.1 (Ep i).2.2))]) (rest := []) ⟨hx, hb, hml, hown, hg⟩ (c_W_degree l D g S _ (Ep i).1 (Ep i).2.1 (Ep i).2.2 (by omega) (by omega) (by omega)) ⟨(callB_of 1 hg (wd_goodG q_312) rfl rfl rfl (hg _ q_11) (hg _ q_367) (by decide +kernel) ⟨Nat.le_trans (Nat.le_of_ble_eq_true rfl) hRf, Nat.le_trans (Nat.le_of_ble_eq_true rfl) hRl⟩), hg _ q_311⟩ (mp_pre hI hK [.int (nI (kN (Ep i).1 (Ep i).2.1 (Ep i).2.2))]) rfl rfl hl.1 rfl (lv_room (Nat.le_of_ble_eq_true rfl)) d_Q_collect_31 ⟨by omega, by omega⟩) (fun r5 S2 H3 locs p_4 hI => ?_)
    obtain ⟨er5, eS6⟩ := p_4
    rw [eS6] at hI
    have er5 : r5 = nI ((Ep i).1 + (Ep i).2.1 + (Ep i).2.2) := er5
    subst er5
    refine lv_iload_n hx hb d_Q_collect_34 rfl (lv_at hl 2 rfl) ?_
    refine lv_iconst (v := nI 1) hx hb d_Q_collect_35 (by decide) ?_
    refine lv_iadd hx hb d_Q_collect_36 ?_
    refine lv_topi (fun v7 ev7 => ?_)
    obtain rfl : v7 = nI rc := ev7.trans (nI_r1 rc)
    refine lv_icmp_le (tgt := 42) hx hb d_Q_collect_37 (by decide) (fun c1 => ?_) (fun c1 => ?_)
    · rw [nI_leI (by omega) (by omega)] at c1
      refine lv_iload hx hb d_Q_collect_42 (lv_at hl 0 rfl) ?_
      refine lv_aload_n hx hb d_Q_collect_44 rfl (lv_at hl 5 rfl) ?_
      refine mp_get (C := R_Q) (T := F_Q) (N := 12) (v := .int (nI nl)) hx hb hg i_Q hown hK.va hI h_qo rfl 0 (by decide) (hg _ q_217) (fun _ h9 => h9) rfl d_Q_collect_45 ?_
      refine mp_calli hI (va_runS (As := [.int (nI (kN (Ep i).1 (Ep i).2.1 (Ep i).2.2)), .int (nI nl)]) (rest := []) ⟨hx, hb, hml, hown, hg⟩ (c_W_isOf l D g S _ (Ep i).1 (Ep i).2.1 (Ep i).2.2 nl (by omega) (by omega) (by omega) hnl) ⟨(callB_of 2 hg (wd_goodG q_370) rfl rfl rfl (hg _ q_11) (hg _ q_368) (by decide +kernel) ⟨Nat.le_trans (Nat.le_of_ble_eq_true rfl) hRf, Nat.le_trans (Nat.le_of_ble_eq_true rfl) hRl⟩), hg _ q_369⟩ (mp_pre hI hK [.int (nI (kN (Ep i).1 (Ep i).2.1 (Ep i).2.2)), .int (nI nl)]) rfl rfl hl.1 rfl (lv_room (Nat.le_of_ble_eq_true rfl)) d_Q_collect_48 ⟨by omega, by omega⟩) (fun r11 S8 H9 locs p_10 hI => ?_)
      obtain ⟨er11, eS12⟩ := p_10
      rw [eS12] at hI
      have er11 : (InL nl (Ep i) ∧ r11 = 1) ∨ (¬ InL nl (Ep i) ∧ r11 = 0) := by by_cases q : InL nl (Ep i); exact Or.inl ⟨q, er11.trans (if_pos q)⟩; exact Or.inr ⟨q, er11.trans (if_neg q)⟩
      rcases er11 with ⟨hin, rfl⟩ | ⟨hin, rfl⟩
      · refine lv_if_eq (tgt := 104) hx hb d_Q_collect_51 (by decide) (fun h9 => absurd h9 (by decide)) (fun _ => ?_)
        refine lv_aload_n hx hb d_Q_collect_54 rfl (lv_at hl 4 rfl) ?_
        refine lv_iload hx hb d_Q_collect_55 (lv_at hl 0 rfl) ?_
        refine mp_calli hI (va_runV (As := [.int (nI (kN (Ep i).1 (Ep i).2.1 (Ep i).2.2))]) (rest := []) ⟨hx, hb, hml, hown, hg⟩ (c_K_firstDividing l D g S _ lo hd n (Ep i).1 (Ep i).2.1 (Ep i).2.2 u0 hf (fun i => (h i).1) (fun i => (h i).2.1) (fun i => (h i).2.2) h_lo h_hd hh hn (by omega) (by omega) (by omega)) ⟨(callB_of 1 hg (wd_goodG q_350) rfl rfl rfl (hg _ q_2) (hg _ q_371) (by decide +kernel) ⟨Nat.le_trans (Nat.le_of_ble_eq_true rfl) hRf, Nat.le_trans (Nat.le_of_ble_eq_true rfl) hRl⟩), hg _ q_348, hg _ q_349⟩ (mp_preV (C := R_K) (T := F_K) hI hK h_lo rfl [.int (nI (kN (Ep i).1 (Ep i).2.1 (Ep i).2.2))]) rfl rfl hl.1 rfl (lv_room (Nat.le_of_ble_eq_true rfl)) d_Q_collect_57 ⟨by omega, by omega⟩) (fun r16 S13 H14 locs p_15 hI => ?_)
        obtain ⟨er16, eS17⟩ := p_15
        rw [eS17] at hI
        rcases fd_fi (h := h) (u := Ep i) er16 with ⟨hlt, rfl⟩ | ⟨hlt, rfl⟩
        · refine lv_if_lt (tgt := 66) hx hb d_Q_collect_60 (by decide) (fun h9 => absurd h9 (nI_pos (by omega))) (fun _ => ?_)
          refine lv_goto (tgt := 104) hx hb d_Q_collect_63 (by decide) ?_
          refine lv_iinc (v := nI (i + 1)) (lv' := [(4, .int (nI (i + 1))), (5, .int (nI (kN (Ep i).1 (Ep i).2.1 (Ep i).2.2))), (3, .int (nI rc + -1)), (2, .ref d9), (1, .ref lo), (0, .ref qo)]) hx hb d_Q_collect_104 hl (k := 1) rfl (nI_1 _) (by decide) rfl (fun ls hl => ?_)
          refine lv_goto (tgt := 10) hx hb d_Q_collect_107 (by decide) ?_
          exact ih (i + 1) sz9 kQ lf rc S H14 locs ls (by omega) (colS_no hco (fun q => q.2 hlt)) hs9 hkq hrc hrb h_qo h_ky h_d9 h_ka h_lo h_hd hfr hI (lv_sub hl [0, 2, 3, 4, 5] rfl) kx ky1 ky0
        · refine lv_if_lt (tgt := 66) hx hb d_Q_collect_60 (by decide) (fun _ => ?_) (fun h9 => absurd (by decide) h9)
          refine lv_aload_n hx hb d_Q_collect_66 rfl (lv_at hl 5 rfl) ?_
          refine mp_get (C := R_Q) (T := F_Q) (N := 12) (v := .int (nI sz9)) hx hb hg i_Q hown hK.va hI h_qo rfl 2 (by decide) (hg _ q_221) (fun _ h9 => h9) rfl d_Q_collect_67 ?_
          refine lv_bipush (v := nI 16) hx hb d_Q_collect_70 (by decide) ?_
          refine lv_icmp_lt (tgt := 77) hx hb d_Q_collect_72 (by decide) (fun c2 => ?_) (fun c2 => ?_)
          · rw [nI_ltI (by omega) (by omega)] at c2
            refine lv_aload_n hx hb d_Q_collect_77 rfl (lv_at hl 5 rfl) ?_
            refine mp_get (C := R_Q) (T := F_Q) (N := 12) (v := .ref ky) hx hb hg i_Q hown hK.va hI h_qo rfl 1 (by decide) (hg _ q_218) (fun _ h9 => h9) rfl d_Q_collect_78 ?_
            refine lv_aload_n hx hb d_Q_collect_81 rfl (lv_at hl 5 rfl) ?_
            refine mp_get (C := R_Q) (T := F_Q) (N := 12) (v := .int (nI sz9)) hx hb hg i_Q hown hK.va hI h_qo rfl 2 (by decide) (hg _ q_221) (fun _ h9 => h9) rfl d_Q_collect_82 ?_
            refine lv_iload hx hb d_Q_collect_85 (lv_at hl 0 rfl) ?_
            refine mp_iast hx hb hK.va hI 0 h_ky rfl (vp_in_nI (show sz9 < 16 by omega) (by omega)) d_Q_collect_87 (fun S18 H19 locs e_20 hI => ?_)
            have h_ky_o := h_ky
            have e_20 : S18 = va_up S ky (some (15, .inl ((g 0), 16, .inl (upd (fun j => nI (kQ j)) (nI sz9).toNatClampNeg (nI (kN (Ep i).1 (Ep i).2.1 (Ep i).2.2)))))) := e_20
            have h_qo : S18 qo = some (14, .inr (4, [.int (nI nl), .ref ky, .int (nI sz9), y3, y4, y5, y6, y7, y8, y9, y10, y11])) := by rw [e_20]; exact mp_keep h_qo h_ky (by decide)
            have h_d9 : S18 d9 = some (11, .inr (5, [w0, .ref ka])) := by rw [e_20]; exact mp_keep h_d9 h_ky (by decide)
            have h_ka : S18 ka = some (13, .inl ((g 0), N, .inl kp)) := by rw [e_20]; exact mp_keep h_ka h_ky (by decide)
            have h_lo : S18 lo = some (2, .inr (9, [u0, .ref hd, .int (nI n)])) := by rw [e_20]; exact mp_keep h_lo h_ky (by decide)
            have h_hd : S18 hd = some (5, .inl ((g 0), 12, .inl hf)) := by rw [e_20]; exact mp_keep h_hd h_ky (by decide)
            have h_ky : S18 ky = some (15, .inl ((g 0), 16, .inl (upd (fun j => nI (kQ j)) (nI sz9).toNatClampNeg (nI (kN (Ep i).1 (Ep i).2.1 (Ep i).2.2))))) := by rw [e_20]; exact mp_us _ _ _
            have hfr : ∀ b t e9, B b = some (t, e9) → (t ≠ 14) → (t ≠ 15) → S18 b = some (t, e9) := fun b t e9 h9 k0 k1 => by rw [e_20]; exact mp_keep (hfr b t e9 h9 k0 k1) h_ky_o (by omega)
            rw [nI_clamp (by omega), nIf_up] at h_ky
            refine lv_aload_n hx hb d_Q_collect_88 rfl (lv_at hl 5 rfl) ?_
            refine lv_dup hx hb d_Q_collect_89 rfl ?_
            refine mp_get (C := R_Q) (T := F_Q) (N := 12) (v := .int (nI sz9)) hx hb hg i_Q hown hK.va hI h_qo rfl 2 (by decide) (hg _ q_221) (fun _ h9 => h9) rfl d_Q_collect_90 ?_
            refine lv_iconst (v := nI 1) hx hb d_Q_collect_93 (by decide) ?_
            refine lv_iadd hx hb d_Q_collect_94 ?_
            refine lv_topi (fun v21 ev21 => ?_)
            obtain rfl : v21 = nI (sz9 + 1) := ev21.trans (nI_add _ _)
            refine mp_put (C := R_Q) (T := F_Q) (N := 12) (v := .int (nI (sz9 + 1))) (ty := .int) hx hb hg i_Q t_Q t_Q_ok n_Q hown hK.va hI h_qo rfl 2 (by decide) (hg _ q_221) (fun _ h9 => h9) rfl (by decide +kernel) (rfl) rfl (Nat.le_of_ble_eq_true rfl) d_Q_collect_95 (fun S22 H23 locs e_24 hI => ?_)
            have h_qo_o := h_qo
            have e_24 : S22 = va_up S18 qo (some (14, .inr (4, [.int (nI nl), .ref ky, .int (nI (sz9 + 1)), y3, y4, y5, y6, y7, y8, y9, y10, y11]))) := e_24
            have h_ky : S22 ky = some (15, .inl ((g 0), 16, .inl (fun j => nI (va_up kQ sz9 (kN (Ep i).1 (Ep i).2.1 (Ep i).2.2) j)))) := by rw [e_24]; exact mp_keep h_ky h_qo (by decide)
            have h_d9 : S22 d9 = some (11, .inr (5, [w0, .ref ka])) := by rw [e_24]; exact mp_keep h_d9 h_qo (by decide)
            have h_ka : S22 ka = some (13, .inl ((g 0), N, .inl kp)) := by rw [e_24]; exact mp_keep h_ka h_qo (by decide)
            have h_lo : S22 lo = some (2, .inr (9, [u0, .ref hd, .int (nI n)])) := by rw [e_24]; exact mp_keep h_lo h_qo (by decide)
            have h_hd : S22 hd = some (5, .inl ((g 0), 12, .inl hf)) := by rw [e_24]; exact mp_keep h_hd h_qo (by decide)
            have h_qo : S22 qo = some (14, .inr (4, [.int (nI nl), .ref ky, .int (nI (sz9 + 1)), y3, y4, y5, y6, y7, y8, y9, y10, y11])) := by rw [e_24]; exact mp_us _ _ _
            have hfr : ∀ b t e9, B b = some (t, e9) → (t ≠ 14) → (t ≠ 15) → S22 b = some (t, e9) := fun b t e9 h9 k0 k1 => by rw [e_24]; exact mp_keep (hfr b t e9 h9 k0 k1) h_qo_o (by omega)
            refine lv_iload hx hb d_Q_collect_98 (lv_at hl 0 rfl) ?_
            refine mp_calli hI (va_runS (As := [.int (nI (kN (Ep i).1 (Ep i).2.1 (Ep i).2.2))]) (rest := []) ⟨hx, hb, hml, hown, hg⟩ (c_W_degree l D g S22 _ (Ep i).1 (Ep i).2.1 (Ep i).2.2 (by omega) (by omega) (by omega)) ⟨(callB_of 1 hg (wd_goodG q_312) rfl rfl rfl (hg _ q_11) (hg _ q_367) (by decide +kernel) ⟨Nat.le_trans (Nat.le_of_ble_eq_true rfl) hRf, Nat.le_trans (Nat.le_of_ble_eq_true rfl) hRl⟩), hg _ q_311⟩ (mp_pre hI hK [.int (nI (kN (Ep i).1 (Ep i).2.1 (Ep i).2.2))]) rfl rfl hl.1 rfl (lv_room (Nat.le_of_ble_eq_true rfl)) d_Q_collect_100 ⟨by omega, by omega⟩) (fun r28 S25 H26 locs p_27 hI => ?_)
            obtain ⟨er28, eS29⟩ := p_27
            rw [eS29] at hI
            have er28 : r28 = nI ((Ep i).1 + (Ep i).2.1 + (Ep i).2.2) := er28
            subst er28
            refine lv_topi (fun v30 ev30 => ?_)
            obtain rfl : v30 = (nI ((Ep i).1 + (Ep i).2.1 + (Ep i).2.2 + 1) + -1) := ev30.trans ((nI_dec _).symm)
            refine lv_istore_n (lv' := [(3, .int (nI ((Ep i).1 + (Ep i).2.1 + (Ep i).2.2 + 1) + -1)), (5, .int (nI (kN (Ep i).1 (Ep i).2.1 (Ep i).2.2))), (4, .int (nI i)), (2, .ref d9), (1, .ref lo), (0, .ref qo)]) hx hb d_Q_collect_103 rfl hl (by decide) rfl (fun ls hl => ?_)
            refine lv_iinc (v := nI (i + 1)) (lv' := [(4, .int (nI (i + 1))), (3, .int (nI ((Ep i).1 + (Ep i).2.1 + (Ep i).2.2 + 1) + -1)), (5, .int (nI (kN (Ep i).1 (Ep i).2.1 (Ep i).2.2))), (2, .ref d9), (1, .ref lo), (0, .ref qo)]) hx hb d_Q_collect_104 hl (k := 2) rfl (nI_1 _) (by decide) rfl (fun ls hl => ?_)
            refine lv_goto (tgt := 10) hx hb d_Q_collect_107 (by decide) ?_
            exact ih (i + 1) (sz9 + 1) (va_up kQ sz9 (kN (Ep i).1 (Ep i).2.1 (Ep i).2.2)) (va_up lf sz9 i) ((Ep i).1 + (Ep i).2.1 + (Ep i).2.2 + 1) S22 H26 locs ls (by omega) (colS_yes hco ⟨hin, hlt⟩ (fun k hk => mp_un (by omega)) (mp_us _ _ _)) (by omega) (fun k hk => by by_cases e : k = sz9; exact (by rw [e, mp_us, mp_us]; rfl); exact (by rw [mp_un e, mp_un e]; exact hkq k (by omega))) (fun k hk => by by_cases e : k = sz9; exact (by rw [e, mp_us]; exact Nat.le_refl _); exact (by rw [mp_un e]; exact colS_dg hco (by omega))) (by omega) h_qo h_ky h_d9 h_ka h_lo h_hd hfr hI (lv_sub hl [0, 1, 3, 4, 5] rfl) kx ky1 ky0
          · rw [nI_ltI (by omega) (by omega)] at c2
            exact ky0 i sz9 kQ lf rc S H14 locs ls ⟨i + 1, va_up lf 16 i, by have h16 : sz9 = 16 := (by omega); subst h16; exact colS_yes hco ⟨hin, hlt⟩ (fun k hk => mp_un (by omega)) (mp_us _ _ _)⟩ hs9 h_qo h_ky h_d9 h_ka h_lo h_hd hfr hI (lv_sub hl [5] rfl)
      · refine lv_if_eq (tgt := 104) hx hb d_Q_collect_51 (by decide) (fun _ => ?_) (fun h9 => absurd (by decide) h9)
        refine lv_iinc (v := nI (i + 1)) (lv' := [(4, .int (nI (i + 1))), (5, .int (nI (kN (Ep i).1 (Ep i).2.1 (Ep i).2.2))), (3, .int (nI rc + -1)), (2, .ref d9), (1, .ref lo), (0, .ref qo)]) hx hb d_Q_collect_104 hl (k := 1) rfl (nI_1 _) (by decide) rfl (fun ls hl => ?_)
        refine lv_goto (tgt := 10) hx hb d_Q_collect_107 (by decide) ?_
        exact ih (i + 1) sz9 kQ lf rc S H9 locs ls (by omega) (colS_no hco (fun q => hin q.1)) hs9 hkq hrc hrb h_qo h_ky h_d9 h_ka h_lo h_hd hfr hI (lv_sub hl [0, 2, 3, 4, 5] rfl) kx ky1 ky0
    · rw [nI_leI (by omega) (by omega)] at c1
      exact ky1 i sz9 kQ lf rc S H3 locs ls (lfP_deg hco hrc (by omega) (by omega)) hs9 hkq h_qo h_ky h_d9 h_ka h_lo h_hd hfr hI (lv_sub hl [5] rfl)
set_option maxHeartbeats 4000000 in
set_option maxRecDepth 100000 in
/-- the powers that are left -/
theorem c_Q_collect (l : Launch) (D : mp_G) (g : Nat → ClassId) (S : mp_M) (sz : Nat) (qo ky d9 ka lo hd nl n N M : Nat) (y3 y4 y5 y6 y7 y8 y9 y10 y11 w0 u0 : Value) (hf kp : Nat → Int32) (h : Nat → m3) (s0 : Int32) (kQ0 : Nat → Nat) (h_qo : S qo = some (14, .inr (4, [.int (nI nl), .ref ky, .int s0, y3, y4, y5, y6, y7, y8, y9, y10, y11]))) (h_ky : S ky = some (15, .inl ((g 0), 16, .inl (fun j => nI (kQ0 j))))) (h_d9 : S d9 = some (11, .inr (5, [w0, .ref ka]))) (h_ka : S ka = some (13, .inl ((g 0), N, .inl kp))) (h_lo : S lo = some (2, .inr (9, [u0, .ref hd, .int (nI n)]))) (h_hd : S hd = some (5, .inl ((g 0), 12, .inl hf))) (hh : hdS n (fun i => (h i).1) (fun i => (h i).2.1) (fun i => (h i).2.2) hf) (hn : n ≤ 12) (hnl : nl < 4) (hFL : FL kp N) (hN : N = tr3 (M + 1)) (hM : M ≤ 27) (hN8 : N ≤ 8000) : Met l y_Q_collect w_Q_collect ({ frames := 2, cells := 0, slots := 0, locals := 46 }) (va_Pc [.ref qo, .ref lo, .ref d9] (mp_B0 D classes (tys g) S sz)) (va_Qi (fun (r : Int32) (S1 : mp_M) => ∃ (sz9 : Nat) (kQ : Nat → Nat), sz9 ≤ 16 ∧ S1 qo = some (14, .inr (4, [.int (nI nl), .ref ky, .int (nI sz9), y3, y4, y5, y6, y7, y8, y9, y10, y11])) ∧ S1 ky = some (15, .inl ((g 0), 16, .inl (fun j => nI (kQ j)))) ∧ ((r = 1 ∧ ∃ lf, colS (lfP n h nl) N sz9 lf ∧ ∀ k, k < sz9 → kQ k = kE (lf k)) ∨ (r = 0 ∧ ∃ Q lf, colS (lfP n h nl) Q 17 lf)) ∧ (∀ b t e9, S b = some (t, e9) → (t ≠ 14) → (t ≠ 15) → S1 b = some (t, e9))) (mp_B1 D classes S sz) (mp_A S sz)) 0 0 (mp_A S sz) := by
  refine Met.ofW (cc := b_Q_collect) (maxL := 6) (ret := (some .boolean)) (by decide) rfl ?_
  intro p e s m args below meth c s₁ B hml hv
  obtain ⟨rfl, hsz, hH, hK⟩ := hv
  have hx := B.exec
  have hb := B.bytes
  have hr := B.returns
  have hts := atoms_spec (ws := w_Q_collect) B.pre
  have hg : ∀ w ∈ gw, w.before _ s = true := fun w h => hts w (List.mem_cons_of_mem _ h)
  have hown : s.vm.findClass R_Q = some m.cls := findClass_of_methodNamed B.named
  have hlocks := B.notSynchronized
  subst hsz
  have hI := mp_I.start hH
  have hl := lv_entry ([.ref qo, .ref lo, .ref d9]) (n := 6) (Nat.le_of_ble_eq_true rfl)
  rw [lg_entry_eq]
  generalize (lg_sl ([.ref qo, .ref lo, .ref d9]) ++ List.replicate (6 - (lg_sl ([.ref qo, .ref lo, .ref d9])).length) Slot.unset).toArray = ls at hl ⊢
  have hl : lv_has ls 6 [(0, .ref qo), (1, .ref lo), (2, .ref d9)] := hl
  have hfr : ∀ b t e9, S b = some (t, e9) → (t ≠ 14) → (t ≠ 15) → S b = some (t, e9) := fun _ _ _ h9 _ _ => h9
  refine lv_aload_n hx hb d_Q_collect_0 rfl (lv_at hl 0 rfl) ?_
  refine lv_iconst (v := nI 0) hx hb d_Q_collect_1 (by decide) ?_
  refine mp_put (C := R_Q) (T := F_Q) (N := 12) (v := .int (nI 0)) (ty := .int) hx hb hg i_Q t_Q t_Q_ok n_Q hown hK.va hI h_qo rfl 2 (by decide) (hg _ q_221) (fun _ h9 => h9) rfl (by decide +kernel) (rfl) rfl (Nat.le_of_ble_eq_true rfl) d_Q_collect_2 (fun S1 H2 locs e_3 hI => ?_)
  have h_qo_o := h_qo
  have e_3 : S1 = va_up S qo (some (14, .inr (4, [.int (nI nl), .ref ky, .int (nI 0), y3, y4, y5, y6, y7, y8, y9, y10, y11]))) := e_3
  have h_ky : S1 ky = some (15, .inl ((g 0), 16, .inl (fun j => nI (kQ0 j)))) := by rw [e_3]; exact mp_keep h_ky h_qo (by decide)
  have h_d9 : S1 d9 = some (11, .inr (5, [w0, .ref ka])) := by rw [e_3]; exact mp_keep h_d9 h_qo (by decide)
  have h_ka : S1 ka = some (13, .inl ((g 0), N, .inl kp)) := by rw [e_3]; exact mp_keep h_ka h_qo (by decide)
  have h_lo : S1 lo = some (2, .inr (9, [u0, .ref hd, .int (nI n)])) := by rw [e_3]; exact mp_keep h_lo h_qo (by decide)
  have h_hd : S1 hd = some (5, .inl ((g 0), 12, .inl hf)) := by rw [e_3]; exact mp_keep h_hd h_qo (by decide)
  have h_qo : S1 qo = some (14, .inr (4, [.int (nI nl), .ref ky, .int (nI 0), y3, y4, y5, y6, y7, y8, y9, y10, y11])) := by rw [e_3]; exact mp_us _ _ _
  have hfr : ∀ b t e9, S b = some (t, e9) → (t ≠ 14) → (t ≠ 15) → S1 b = some (t, e9) := fun b t e9 h9 k0 k1 => by rw [e_3]; exact mp_keep (hfr b t e9 h9 k0 k1) h_qo_o (by omega)
  refine lv_iconst (v := (-1)) hx hb d_Q_collect_5 (by decide) ?_
  rw [show (-1 : Int32) = nI 0 + -1 by decide]
  refine lv_istore_n (lv' := [(3, .int (nI 0 + -1)), (0, .ref qo), (1, .ref lo), (2, .ref d9)]) hx hb d_Q_collect_6 rfl hl (by decide) rfl (fun ls hl => ?_)
  refine lv_iconst (v := nI 0) hx hb d_Q_collect_7 (by decide) ?_
  refine lv_istore (lv' := [(4, .int (nI 0)), (3, .int (nI 0 + -1)), (0, .ref qo), (1, .ref lo), (2, .ref d9)]) hx hb d_Q_collect_8 hl (by decide) rfl (fun ls hl => ?_)
  refine lp_Q_collect (B := S) (qo := qo) (ky := ky) (d9 := d9) (ka := ka) (lo := lo) (hd := hd) (nl := nl) (n := n) (N := N) (M := M) (y3 := y3) (y4 := y4) (y5 := y5) (y6 := y6) (y7 := y7) (y8 := y8) (y9 := y9) (y10 := y10) (y11 := y11) (w0 := w0) (u0 := u0) (hf := hf) (kp := kp) (h := h) hx hb hml hg hown hK (Nat.le_of_ble_eq_true rfl) (Nat.le_of_ble_eq_true rfl) (Nat.le_of_ble_eq_true rfl) (Nat.le_of_ble_eq_true rfl) hh hn hnl hFL hN hM hN8 N 0 0 kQ0 (fun _ => 0) 0 S1 H2 _ ls (by omega) (colS_0 _ _) (Nat.zero_le _) (fun k hk => absurd hk (Nat.not_lt_zero k)) (fun k hk => absurd hk (Nat.not_lt_zero k)) (Nat.zero_le _) h_qo h_ky h_d9 h_ka h_lo h_hd hfr hI (lv_sub hl [0, 1, 4, 3, 2] rfl) (fun sz9 kQ lf rc S4 H5 locs ls hco hs9 hkq hrc hrb j_qo j_ky j_d9 j_ka j_lo j_hd hfr hI hl => ?_) (fun i sz9 kQ lf rc S9 H9 locs ls hco hs9 hkq j_qo j_ky j_d9 j_ka j_lo j_hd hfr hI hl => ?_) (fun i sz9 kQ lf rc S9 H9 locs ls hno hs9 j_qo j_ky j_d9 j_ka j_lo j_hd hfr hI hl => ?_)
  · refine lv_iconst (v := nI 1) hx hb d_Q_collect_110 (by decide) ?_
    refine mp_zret hx hb hr hlocks hI (Nat.le_of_ble_eq_true rfl) (Nat.le_of_ble_eq_true rfl) ?_ (by decide) d_Q_collect_111
    exact ⟨sz9, kQ, hs9, j_qo, j_ky, Or.inl ⟨rfl, lf, hco, hkq⟩, hfr⟩
  · refine lv_iconst (v := nI 1) hx hb d_Q_collect_40 (by decide) ?_
    refine mp_zret hx hb hr hlocks hI (Nat.le_of_ble_eq_true rfl) (Nat.le_of_ble_eq_true rfl) ?_ (by decide) d_Q_collect_41
    exact ⟨sz9, kQ, hs9, j_qo, j_ky, Or.inl ⟨rfl, lf, hco, hkq⟩, hfr⟩
  · refine lv_iconst (v := nI 0) hx hb d_Q_collect_75 (by decide) ?_
    refine mp_zret hx hb hr hlocks hI (Nat.le_of_ble_eq_true rfl) (Nat.le_of_ble_eq_true rfl) ?_ (by decide) d_Q_collect_76
    exact ⟨sz9, kQ, hs9, j_qo, j_ky, Or.inr ⟨rfl, hno⟩, hfr⟩
