/-- Euclid's way so far: high is monic of degree dH with numbers ch, low has n numbers cl -/
def euI (d0 : Nat) (f h : fF → fF) (dH : Nat) (ch : Nat → fF) (n : Nat) (cl : Nat → fF) : Prop :=
  olP (dH + 1) ch ∧ ch dH = 1 ∧ olP n cl ∧ n ≤ dH + 1 ∧ dH ≤ d0 ∧ (∀ a, f a = 0 → h a = 0 → pe 33 ch a = 0 ∧ pe 33 cl a = 0) ∧
  ∃ A B C E : fF → fF, PM (d0 - dH) A ∧ (0 < n → PL (d0 - (n - 1)) B) ∧ PL (d0 + 1 - dH) C ∧ (0 < n → PL (d0 + 1 - (n - 1)) E) ∧ (∀ a, f a = A a * pe 33 ch a + B a * pe 33 cl a) ∧ (∀ a, h a = C a * pe 33 ch a + E a * pe 33 cl a)
theorem eu_0 {d0 n : Nat} {c b : Nat → fF} (hc : olP (d0 + 1) c) (h1 : c d0 = 1) (hb : olP n b) (hn : n ≤ d0 + 1) : euI d0 (fun a => pe 33 c a) (fun a => pe 33 b a) d0 c n b := by
  refine ⟨hc, h1, hb, hn, Nat.le_refl _, fun a q1 q2 => ⟨q1, q2⟩, fun _ => 1, fun _ => 0, fun _ => 0, fun _ => 1, ?_, fun _ => PL_z _, PL_z _, fun _ => PL_k (by omega) 1, fun a => by grind, fun a => by grind⟩
  rw [Nat.sub_self]; exact PM_1
theorem mon_pe {d : Nat} {c : Nat → fF} (hc : ∀ k, d + 1 ≤ k → c k = 0) (hd : d + 1 ≤ 33) (h1 : c d = 1) (a : fF) : pe 33 c a = pe d c a + a ^ d := by
  rw [pe_ol hc hd, pe_s, h1]; grind
theorem eu_st {d0 dH dl n9 : Nat} {f h : fF → fF} {ch cl c9 : Nat → fF} (H : euI d0 f h dH ch (dl + 1) cl) (ho : olP n9 c9) (hlt : dl < dH + 1 → n9 ≤ dl)
    (hQ : ∃ Q : fF → fF, (∀ a, pe 33 ch a = Q a * (pe dl (scl cl (iv (cl dl))) a + a ^ dl) + pe 33 c9 a) ∧ PL (dH + 1 - dl) Q ∧ (dl < dH + 1 → ch (dH + 1 - 1) = 1 → PM (dH + 1 - 1 - dl) Q) ∧ (dH + 1 ≤ dl → ∀ a, Q a = 0)) : euI d0 f h dl (scl cl (iv (cl dl))) n9 c9 ∧ n9 ≤ dl := by
  obtain ⟨e1, e2, e3, e4, e5, e6, A, B, C, E, a1, a2, a3, a4, a5, a6⟩ := H
  obtain ⟨Q, q1, -, q3, -⟩ := hQ
  have hne : cl dl ≠ 0 := e3.2.2 (Nat.succ_pos dl)
  have hv := iv_mul hne
  have hz : ∀ k, dl + 1 ≤ k → scl cl (iv (cl dl)) k = 0 := fun k hk => by unfold scl; rw [e3.2.1 k hk]; grind
  have hm : scl cl (iv (cl dl)) dl = 1 := hv
  have hpm := mon_pe hz (by have := e3.1; omega) hm
  have hQ := q3 (by omega) e2
  rw [Nat.add_sub_cancel] at hQ
  have hL : ∀ a, pe 33 cl a = cl dl * pe 33 (scl cl (iv (cl dl))) a := fun a => by rw [pe_scl]; generalize iv (cl dl) = y at hv; grind
  have hH : ∀ a, pe 33 ch a = Q a * pe 33 (scl cl (iv (cl dl))) a + pe 33 c9 a := fun a => by rw [q1, hpm]
  obtain ⟨k1, k2⟩ := eu_a (by omega) e5 a1 (a2 (Nat.succ_pos dl)) hQ a5 hL hH
  obtain ⟨k3, k4⟩ := eu_c (by omega) e5 a3 (a4 (Nat.succ_pos dl)) hQ a6 hL hH
  have hn9 := hlt (by omega)
  refine ⟨⟨⟨by have := e3.1; omega, hz, fun _ => by rw [Nat.add_sub_cancel, hm]; decide⟩, hm, ho, by omega, by omega, fun a z1 z2 => ?_, _, A, _, C, k1, fun _ => PL_le (by omega) (PM_PL a1), k3, fun _ => PL_le (by omega) a3, k2, k4⟩, hn9⟩
  obtain ⟨z3, z4⟩ := e6 a z1 z2
  have z5 : pe 33 (scl cl (iv (cl dl))) a = 0 := by
    rw [hL] at z4
    rcases fF_nz z4 with q | q
    · exact absurd q hne
    · exact q
  refine ⟨z5, ?_⟩
  have z6 := hH a
  rw [z3, z5] at z6; grind
/-- what the way ends with -/
def gcP (d0 : Nat) (f h : fF → fF) (e : Nat) (c : Nat → fF) : Prop := olP (e + 1) c ∧ c e = 1 ∧ e ≤ d0 ∧ (∀ a, f a = 0 → h a = 0 → pe 33 c a = 0) ∧ ∃ A C : fF → fF, PM (d0 - e) A ∧ PL (d0 + 1 - e) C ∧ (∀ a, f a = A a * pe 33 c a) ∧ (∀ a, h a = C a * pe 33 c a)
theorem eu_end {d0 dH : Nat} {f h : fF → fF} {ch cl : Nat → fF} (H : euI d0 f h dH ch 0 cl) : gcP d0 f h dH ch := by
  obtain ⟨e1, e2, e3, e4, e5, e6, A, B, C, E, a1, a2, a3, a4, a5, a6⟩ := H
  have hz : ∀ a, pe 33 cl a = 0 := fun a => by rw [pe_ol e3.2.1 e3.1]; rfl
  exact ⟨e1, e2, e5, fun a q1 q2 => (e6 a q1 q2).1, A, C, a1, a3, fun a => by rw [a5, hz]; grind, fun a => by rw [a6, hz]; grind⟩
theorem ol_t {n : Nat} {c : Nat → fF} (h : olP n c) : trn 33 c := fun k hk => h.2.1 k (by have := h.1; omega)

theorem d_Z_commonDivisor_0 : decode b_Z_commonDivisor 0 = .ok (.aload_n 0, 1) := by decide +kernel
theorem d_Z_commonDivisor_1 : decode b_Z_commonDivisor 1 = .ok (.astore_n 2, 1) := by decide +kernel
theorem d_Z_commonDivisor_2 : decode b_Z_commonDivisor 2 = .ok (.aload_n 1, 1) := by decide +kernel
theorem d_Z_commonDivisor_3 : decode b_Z_commonDivisor 3 = .ok (.astore_n 3, 1) := by decide +kernel
theorem d_Z_commonDivisor_4 : decode b_Z_commonDivisor 4 = .ok (.iconst 0, 1) := by decide +kernel
theorem d_Z_commonDivisor_5 : decode b_Z_commonDivisor 5 = .ok (.istore 4, 2) := by decide +kernel
theorem d_Z_commonDivisor_7 : decode b_Z_commonDivisor 7 = .ok (.iload 4, 2) := by decide +kernel
theorem d_Z_commonDivisor_9 : decode b_Z_commonDivisor 9 = .ok (.bipush 34, 2) := by decide +kernel
theorem d_Z_commonDivisor_11 : decode b_Z_commonDivisor 11 = .ok (.if_icmp .gt 33, 3) := by decide +kernel
theorem d_Z_commonDivisor_14 : decode b_Z_commonDivisor 14 = .ok (.aload_n 3, 1) := by decide +kernel
theorem d_Z_commonDivisor_15 : decode b_Z_commonDivisor 15 = .ok (.getfield 25, 3) := by decide +kernel
theorem d_Z_commonDivisor_18 : decode b_Z_commonDivisor 18 = .ok (.ifCond .lt 26, 3) := by decide +kernel
theorem d_Z_commonDivisor_21 : decode b_Z_commonDivisor 21 = .ok (.aload_n 3, 1) := by decide +kernel
theorem d_Z_commonDivisor_22 : decode b_Z_commonDivisor 22 = .ok (.invokevirtual 58, 3) := by decide +kernel
theorem d_Z_commonDivisor_25 : decode b_Z_commonDivisor 25 = .ok (.aload_n 2, 1) := by decide +kernel
theorem d_Z_commonDivisor_26 : decode b_Z_commonDivisor 26 = .ok (.aload_n 3, 1) := by decide +kernel
theorem d_Z_commonDivisor_27 : decode b_Z_commonDivisor 27 = .ok (.invokevirtual 61, 3) := by decide +kernel
theorem d_Z_commonDivisor_30 : decode b_Z_commonDivisor 30 = .ok (.aload_n 2, 1) := by decide +kernel
theorem d_Z_commonDivisor_31 : decode b_Z_commonDivisor 31 = .ok (.astore 5, 2) := by decide +kernel
theorem d_Z_commonDivisor_33 : decode b_Z_commonDivisor 33 = .ok (.aload_n 3, 1) := by decide +kernel
theorem d_Z_commonDivisor_34 : decode b_Z_commonDivisor 34 = .ok (.astore_n 2, 1) := by decide +kernel
theorem d_Z_commonDivisor_35 : decode b_Z_commonDivisor 35 = .ok (.aload 5, 2) := by decide +kernel
theorem d_Z_commonDivisor_37 : decode b_Z_commonDivisor 37 = .ok (.astore_n 3, 1) := by decide +kernel
theorem d_Z_commonDivisor_38 : decode b_Z_commonDivisor 38 = .ok (.iinc 4 1, 3) := by decide +kernel
theorem d_Z_commonDivisor_41 : decode b_Z_commonDivisor 41 = .ok (.goto (-34), 3) := by decide +kernel
theorem d_Z_commonDivisor_44 : decode b_Z_commonDivisor 44 = .ok (.aload_n 2, 1) := by decide +kernel
theorem d_Z_commonDivisor_45 : decode b_Z_commonDivisor 45 = .ok (.areturn, 1) := by decide +kernel
set_option maxHeartbeats 4000000 in
set_option maxRecDepth 100000 in
theorem lp_Z_gcd {p : Program} {l : Launch} {e : Env} {R : Room} {s : State} {m : MethodId} {args : Array Value} {below : List Frame} {meth : Method} {c : Code} {Q : State → Prop} {D : mp_G} {g : Nat → ClassId} {A : Nat → Prop} {cells slots : Nat} (hx : p.tables.exec = Jvm.exec) (hb : c.code = b_Z_commonDivisor) (hml : c.maxLocals = 6) (hg : ∀ w ∈ gw, w.before args s = true) (hown : s.vm.findClass R_Z = some m.cls) (hK : mp_K D classes (tys g) s) (hRf : 3 ≤ R.frames) (hRl : 64 ≤ R.locals) (hRc : cells ≤ R.cells) (hRs : slots ≤ R.slots) {B : mp_M} {xo xa TX yo ya TY d0 : Nat} {f9 h9 : fF → fF} (hlab : TX + 1 < TY ∨ TY + 1 < TX) : ∀ (k : Nat) (i : Nat) (ho : Nat) (ha : Nat) (TH : Nat) (lo : Nat) (la : Nat) (TL : Nat) (dH : Nat) (ch : Nat → fF) (n : Nat) (cl : Nat → fF) (S : mp_M) (H : Heap) (locs : List Loc) (ls : Array Slot), n ≤ k → (((ho = xo ∧ ha = xa ∧ TH = TX ∧ lo = yo ∧ la = ya ∧ TL = TY) ∨ (ho = yo ∧ ha = ya ∧ TH = TY ∧ lo = xo ∧ la = xa ∧ TL = TX))) → (euI d0 f9 h9 dH ch n cl) → (i + n ≤ 33) → S ho = some (TH, .inr (1, [.ref ha, .int (nI dH)])) → S ha = some ((TH + 1), .inl ((g 0), 33, .inl (fun j => nI (ch j).val))) → S lo = some (TL, .inr (1, [.ref la, .int (nI n + -1)])) → S la = some ((TL + 1), .inl ((g 0), 33, .inl (fun j => nI (cl j).val))) → (∀ b t e9, B b = some (t, e9) → (t ≠ TX) → (t ≠ TX + 1) → (t ≠ TY) → (t ≠ TY + 1) → S b = some (t, e9)) → mp_I D classes A s.heap S H locs → lv_has ls 6 [(4, .int (nI i)), (3, .ref lo), (2, .ref ho)] → (∀ (i : Nat) (ho : Nat) (ha : Nat) (TH : Nat) (lo : Nat) (la : Nat) (TL : Nat) (dH : Nat) (ch : Nat → fF) (cl : Nat → fF) (S : mp_M) (H : Heap) (locs : List Loc) (ls : Array Slot), (((ho = xo ∧ ha = xa ∧ TH = TX ∧ lo = yo ∧ la = ya ∧ TL = TY) ∨ (ho = yo ∧ ha = ya ∧ TH = TY ∧ lo = xo ∧ la = xa ∧ TL = TX))) → (euI d0 f9 h9 dH ch 0 cl) → (i + 0 ≤ 33) → S ho = some (TH, .inr (1, [.ref ha, .int (nI dH)])) → S ha = some ((TH + 1), .inl ((g 0), 33, .inl (fun j => nI (ch j).val))) → S lo = some (TL, .inr (1, [.ref la, .int (nI 0 + -1)])) → S la = some ((TL + 1), .inl ((g 0), 33, .inl (fun j => nI (cl j).val))) → (∀ b t e9, B b = some (t, e9) → (t ≠ TX) → (t ≠ TX + 1) → (t ≠ TY) → (t ≠ TY + 1) → S b = some (t, e9)) → mp_I D classes A s.heap S H locs → lv_has ls 6 [(4, .int (nI i)), (3, .ref lo), (2, .ref ho)] → W p l e R s m args below meth c H locs cells slots Q (F0 m 44 ls [])) → W p l e R s m args below meth c H locs cells slots Q (F0 m 7 ls []) := by
  intro k
  induction k with
  | zero =>
    intro i ho ha TH lo la TL dH ch n cl S H locs ls hi hsw heu hst h_u h_ua h_v h_va hfr hI hl kx
    obtain rfl : n = 0 := by omega
    have hd33 := heu.1.1
    refine lv_iload hx hb d_Z_commonDivisor_7 (lv_at hl 0 rfl) ?_
    refine lv_bipush (v := nI 34) hx hb d_Z_commonDivisor_9 (by decide) ?_
    refine lv_icmp_gt (tgt := 44) hx hb d_Z_commonDivisor_11 (by decide) (fun h9 => absurd h9 (by rw [nI_ltI (by omega) (by omega)]; omega)) (fun _ => ?_)
    refine lv_aload_n hx hb d_Z_commonDivisor_14 rfl (lv_at hl 1 rfl) ?_
    refine mp_getN (C := R_O) (T := F_O) (N := 2) (v := .int (nI 0 + -1)) hx hb hg i_O hown hK.va hI h_v rfl 1 (by decide) (hK.use q_139 rfl) (fun _ h9 => h9) rfl d_Z_commonDivisor_15 ?_
    refine lv_if_lt (tgt := 44) hx hb d_Z_commonDivisor_18 (by decide) (fun _ => ?_) (fun h9 => absurd (by decide) h9)
    exact kx i ho ha TH lo la TL dH ch cl S H locs ls hsw heu hst h_u h_ua h_v h_va hfr hI (lv_sub hl [0, 1, 2] rfl)
  | succ k ih =>
    intro i ho ha TH lo la TL dH ch n cl S H locs ls hi hsw heu hst h_u h_ua h_v h_va hfr hI hl kx
    have hd33 := heu.1.1
    cases n with
    | zero =>
      refine lv_iload hx hb d_Z_commonDivisor_7 (lv_at hl 0 rfl) ?_
      refine lv_bipush (v := nI 34) hx hb d_Z_commonDivisor_9 (by decide) ?_
      refine lv_icmp_gt (tgt := 44) hx hb d_Z_commonDivisor_11 (by decide) (fun h9 => absurd h9 (by rw [nI_ltI (by omega) (by omega)]; omega)) (fun _ => ?_)
      refine lv_aload_n hx hb d_Z_commonDivisor_14 rfl (lv_at hl 1 rfl) ?_
      refine mp_getN (C := R_O) (T := F_O) (N := 2) (v := .int (nI 0 + -1)) hx hb hg i_O hown hK.va hI h_v rfl 1 (by decide) (hK.use q_139 rfl) (fun _ h9 => h9) rfl d_Z_commonDivisor_15 ?_
      refine lv_if_lt (tgt := 44) hx hb d_Z_commonDivisor_18 (by decide) (fun _ => ?_) (fun h9 => absurd (by decide) h9)
      exact kx i ho ha TH lo la TL dH ch cl S H locs ls hsw heu hst h_u h_ua h_v h_va hfr hI (lv_sub hl [0, 1, 2] rfl)
    | succ dl =>
      have hll : TH + 1 < TL ∨ TL + 1 < TH := by omega
      have hdl := heu.2.2.2.1
      have holl := heu.2.2.1
      rw [nI_dec] at h_v
      refine lv_iload hx hb d_Z_commonDivisor_7 (lv_at hl 0 rfl) ?_
      refine lv_bipush (v := nI 34) hx hb d_Z_commonDivisor_9 (by decide) ?_
      refine lv_icmp_gt (tgt := 44) hx hb d_Z_commonDivisor_11 (by decide) (fun h9 => absurd h9 (by rw [nI_ltI (by omega) (by omega)]; omega)) (fun _ => ?_)
      refine lv_aload_n hx hb d_Z_commonDivisor_14 rfl (lv_at hl 1 rfl) ?_
      refine mp_getN (C := R_O) (T := F_O) (N := 2) (v := .int (nI dl)) hx hb hg i_O hown hK.va hI h_v rfl 1 (by decide) (hK.use q_139 rfl) (fun _ h9 => h9) rfl d_Z_commonDivisor_15 ?_
      refine lv_if_lt (tgt := 44) hx hb d_Z_commonDivisor_18 (by decide) (fun h9 => absurd h9 (nI_pos (by omega))) (fun _ => ?_)
      refine lv_aload_n hx hb d_Z_commonDivisor_21 rfl (lv_at hl 1 rfl) ?_
      refine mp_callv hI (va_runV (As := []) (rest := []) ⟨hx, hb, hml, hown, hg⟩ (c_O_makeMonic l D g S _ lo la TL cl dl h_v h_va (by omega) (fun k hk => holl.2.1 k (by omega))) ⟨(callB_of 0 hg (wd_goodG q_471) rfl rfl rfl (hg _ q_18) (hg _ q_468) (by decide +kernel) ⟨Nat.le_trans (Nat.le_of_ble_eq_true rfl) hRf, Nat.le_trans (Nat.le_of_ble_eq_true rfl) hRl⟩), hg _ q_469, hg _ q_470⟩ (mp_preV (C := R_O) (T := F_O) hI hK h_v rfl []) rfl rfl hl.1 rfl (lv_room (Nat.le_of_ble_eq_true rfl)) d_Z_commonDivisor_22 ⟨by omega, by omega⟩) (fun S1 H2 locs p_3 hI => ?_)
      obtain ⟨q_va, fq⟩ := p_3
      have h_u : S1 ho = some (TH, .inr (1, [.ref ha, .int (nI dH)])) := fq ho _ _ h_u (by omega)
      have h_ua : S1 ha = some ((TH + 1), .inl ((g 0), 33, .inl (fun j => nI (ch j).val))) := fq ha _ _ h_ua (by omega)
      have h_v : S1 lo = some (TL, .inr (1, [.ref la, .int (nI dl)])) := fq lo _ _ h_v (by omega)
      have hfr : ∀ b t e9, B b = some (t, e9) → (t ≠ TX) → (t ≠ TX + 1) → (t ≠ TY) → (t ≠ TY + 1) → S1 b = some (t, e9) := fun b t e9 h9 k0 k1 k2 k3 => by have h8 := hfr b t e9 h9 k0 k1 k2 k3; exact fq b _ _ h8 (by omega)
      have h_va := q_va
      refine lv_aload_n hx hb d_Z_commonDivisor_25 rfl (lv_at hl 2 rfl) ?_
      refine lv_aload_n hx hb d_Z_commonDivisor_26 rfl (lv_at hl 1 rfl) ?_
      have h_u : S1 ho = some (TH, .inr (1, [.ref ha, .int (nI (dH + 1) + -1)])) := by rw [nI_dec]; exact h_u
      refine mp_callv hI (va_runV (As := [.ref lo]) (rest := []) ⟨hx, hb, hml, hown, hg⟩ (c_O_rem l D g S1 _ ho ha TH ch lo la TL dl (scl cl (iv (cl dl))) (dH + 1) h_u h_ua h_v h_va hll heu.1 (by omega)) ⟨(callB_of 1 hg (wd_goodG q_447) rfl rfl rfl (hg _ q_18) (hg _ q_473) (by decide +kernel) ⟨Nat.le_trans (Nat.le_of_ble_eq_true rfl) hRf, Nat.le_trans (Nat.le_of_ble_eq_true rfl) hRl⟩), hg _ q_445, hg _ q_446⟩ (mp_preV (C := R_O) (T := F_O) hI hK h_u rfl [.ref lo]) rfl rfl hl.1 rfl (lv_room (Nat.le_of_ble_eq_true rfl)) d_Z_commonDivisor_27 ⟨by omega, by omega⟩) (fun S5 H6 locs p_7 hI => ?_)
      obtain ⟨n9, c9, q_u, q_ua, ol9, _, hlt9, hQ9, fq⟩ := p_7
      have h_v : S5 lo = some (TL, .inr (1, [.ref la, .int (nI dl)])) := fq lo _ _ h_v (by omega) (by omega)
      have h_va : S5 la = some ((TL + 1), .inl ((g 0), 33, .inl (fun j => nI ((scl cl (iv (cl dl))) j).val))) := fq la _ _ h_va (by omega) (by omega)
      have hfr : ∀ b t e9, B b = some (t, e9) → (t ≠ TX) → (t ≠ TX + 1) → (t ≠ TY) → (t ≠ TY + 1) → S5 b = some (t, e9) := fun b t e9 h9 k0 k1 k2 k3 => by have h8 := hfr b t e9 h9 k0 k1 k2 k3; exact fq b _ _ h8 (by omega) (by omega)
      have h_u := q_u
      have h_ua := q_ua
      obtain ⟨heu2, hn9⟩ := eu_st heu ol9 hlt9 hQ9
      refine lv_aload_n hx hb d_Z_commonDivisor_30 rfl (lv_at hl 2 rfl) ?_
      refine lv_astore (lv' := [(5, .ref ho), (4, .int (nI i)), (3, .ref lo), (2, .ref ho)]) hx hb d_Z_commonDivisor_31 hl (by decide) rfl (fun ls hl => ?_)
      refine lv_aload_n hx hb d_Z_commonDivisor_33 rfl (lv_at hl 2 rfl) ?_
      refine lv_astore_n (lv' := [(2, .ref lo), (5, .ref ho), (4, .int (nI i)), (3, .ref lo)]) hx hb d_Z_commonDivisor_34 rfl hl (by decide) rfl (fun ls hl => ?_)
      refine lv_aload hx hb d_Z_commonDivisor_35 (lv_at hl 1 rfl) ?_
      refine lv_astore_n (lv' := [(3, .ref ho), (2, .ref lo), (5, .ref ho), (4, .int (nI i))]) hx hb d_Z_commonDivisor_37 rfl hl (by decide) rfl (fun ls hl => ?_)
      refine lv_iinc (v := nI (i + 1)) (lv' := [(4, .int (nI (i + 1))), (3, .ref ho), (2, .ref lo), (5, .ref ho)]) hx hb d_Z_commonDivisor_38 hl (k := 3) rfl (nI_1 _) (by decide) rfl (fun ls hl => ?_)
      refine lv_goto (tgt := 7) hx hb d_Z_commonDivisor_41 (by decide) ?_
      exact ih (i + 1) lo la TL ho ha TH dl (scl cl (iv (cl dl))) n9 c9 S5 H6 locs ls (by omega) (by rcases hsw with q | q; exact Or.inr ⟨q.2.2.2.1, q.2.2.2.2.1, q.2.2.2.2.2, q.1, q.2.1, q.2.2.1⟩; exact Or.inl ⟨q.2.2.2.1, q.2.2.2.2.1, q.2.2.2.2.2, q.1, q.2.1, q.2.2.1⟩) heu2 (by omega) h_v h_va h_u h_ua hfr hI (lv_sub hl [0, 1, 2] rfl) kx
set_option maxHeartbeats 4000000 in
set_option maxRecDepth 100000 in
/-- what divides both -/
theorem c_Z_gcd (l : Launch) (D : mp_G) (g : Nat → ClassId) (S : mp_M) (sz : Nat) (xo xa TX yo ya TY d0 n : Nat) (cx cy : Nat → fF) (h_x : S xo = some (TX, .inr (1, [.ref xa, .int (nI d0)]))) (h_xa : S xa = some ((TX + 1), .inl ((g 0), 33, .inl (fun j => nI (cx j).val)))) (h_y : S yo = some (TY, .inr (1, [.ref ya, .int (nI n + -1)]))) (h_ya : S ya = some ((TY + 1), .inl ((g 0), 33, .inl (fun j => nI (cy j).val)))) (hlab : TX + 1 < TY ∨ TY + 1 < TX) (hcx : olP (d0 + 1) cx) (hc1 : cx d0 = 1) (hcy : olP n cy) (hn : n ≤ d0 + 1) (hn2 : n ≤ 33) : Met l y_Z_commonDivisor w_Z_commonDivisor ({ frames := 3, cells := 0, slots := 0, locals := 64 }) (va_Pc [.ref xo, .ref yo] (mp_B0 D classes (tys g) S sz)) (va_Qr (fun _ : mp_M => True) (fun S1 ra u => mp_B1 D classes S sz S1 u ∧ (∃ (e9 : Nat) (ce c2 : Nat → fF) (d2 : Int32), gcP d0 (fun a => pe 33 cx a) (fun a => pe 33 cy a) e9 ce ∧ trn 33 c2 ∧ ((ra = xo ∧ S1 xo = some (TX, .inr (1, [.ref xa, .int (nI e9)])) ∧ S1 xa = some ((TX + 1), .inl ((g 0), 33, .inl (fun j => nI (ce j).val))) ∧ S1 yo = some (TY, .inr (1, [.ref ya, .int d2])) ∧ S1 ya = some ((TY + 1), .inl ((g 0), 33, .inl (fun j => nI (c2 j).val)))) ∨ (ra = yo ∧ S1 yo = some (TY, .inr (1, [.ref ya, .int (nI e9)])) ∧ S1 ya = some ((TY + 1), .inl ((g 0), 33, .inl (fun j => nI (ce j).val))) ∧ S1 xo = some (TX, .inr (1, [.ref xa, .int d2])) ∧ S1 xa = some ((TX + 1), .inl ((g 0), 33, .inl (fun j => nI (c2 j).val))))) ∧ (∀ b t e9, S b = some (t, e9) → (t ≠ TX) → (t ≠ TX + 1) → (t ≠ TY) → (t ≠ TY + 1) → S1 b = some (t, e9)))) (mp_A S sz)) 0 0 (mp_A S sz) := by
  refine Met.ofW (cc := b_Z_commonDivisor) (maxL := 6) (ret := (some (.object "SolutionBoxes$OneLetter"))) (by decide) rfl ?_
  intro p e s m args below meth c s₁ B hml hv
  obtain ⟨rfl, hsz, hH, hK⟩ := hv
  have hx := B.exec
  have hb := B.bytes
  have hr := B.returns
  have hts := atoms_spec (ws := w_Z_commonDivisor) B.pre
  have hg : ∀ w ∈ gw, w.before _ s = true := fun w h => hts w (List.mem_cons_of_mem _ h)
  have hown : s.vm.findClass R_Z = some m.cls := findClass_of_methodNamed B.named
  have hlocks := B.notSynchronized
  subst hsz
  have hI := mp_I.start hH
  have hl := lv_entry ([.ref xo, .ref yo]) (n := 6) (Nat.le_of_ble_eq_true rfl)
  rw [lg_entry_eq]
  generalize (lg_sl ([.ref xo, .ref yo]) ++ List.replicate (6 - (lg_sl ([.ref xo, .ref yo])).length) Slot.unset).toArray = ls at hl ⊢
  have hl : lv_has ls 6 [(0, .ref xo), (1, .ref yo)] := hl
  have hfr : ∀ b t e9, S b = some (t, e9) → (t ≠ TX) → (t ≠ TX + 1) → (t ≠ TY) → (t ≠ TY + 1) → S b = some (t, e9) := fun _ _ _ h9 _ _ _ _ => h9
  refine lv_aload_n hx hb d_Z_commonDivisor_0 rfl (lv_at hl 0 rfl) ?_
  refine lv_astore_n (lv' := [(2, .ref xo), (0, .ref xo), (1, .ref yo)]) hx hb d_Z_commonDivisor_1 rfl hl (by decide) rfl (fun ls hl => ?_)
  refine lv_aload_n hx hb d_Z_commonDivisor_2 rfl (lv_at hl 2 rfl) ?_
  refine lv_astore_n (lv' := [(3, .ref yo), (2, .ref xo), (0, .ref xo), (1, .ref yo)]) hx hb d_Z_commonDivisor_3 rfl hl (by decide) rfl (fun ls hl => ?_)
  refine lv_iconst (v := nI 0) hx hb d_Z_commonDivisor_4 (by decide) ?_
  refine lv_istore (lv' := [(4, .int (nI 0)), (3, .ref yo), (2, .ref xo), (0, .ref xo), (1, .ref yo)]) hx hb d_Z_commonDivisor_5 hl (by decide) rfl (fun ls hl => ?_)
  refine lp_Z_gcd (B := S) (xo := xo) (xa := xa) (TX := TX) (yo := yo) (ya := ya) (TY := TY) (d0 := d0) (f9 := (fun a => pe 33 cx a)) (h9 := (fun a => pe 33 cy a)) hx hb hml hg hown hK (Nat.le_of_ble_eq_true rfl) (Nat.le_of_ble_eq_true rfl) (Nat.le_of_ble_eq_true rfl) (Nat.le_of_ble_eq_true rfl) hlab n 0 xo xa TX yo ya TY d0 cx n cy S s.heap _ ls (Nat.le_refl _) (Or.inl ⟨rfl, rfl, rfl, rfl, rfl, rfl⟩) (eu_0 hcx hc1 hcy hn) (by omega) h_x h_xa h_y h_ya hfr hI (lv_sub hl [0, 1, 2] rfl) (fun i ho ha TH lo la TL dH ch cl S1 H2 locs ls hsw heu hst j_u j_ua j_v j_va hfr hI hl => ?_)
  refine lv_aload_n hx hb d_Z_commonDivisor_44 rfl (lv_at hl 2 rfl) ?_
  refine mp_aret hx hb hr (Or.inl ⟨_, rfl⟩) hlocks hI (Nat.le_of_ble_eq_true rfl) (Nat.le_of_ble_eq_true rfl) ?_ d_Z_commonDivisor_45
  refine ⟨dH, ch, cl, (nI 0 + -1), eu_end heu, ol_t heu.2.2.1, ?_, hfr⟩
  rcases hsw with ⟨rfl, rfl, rfl, rfl, rfl, rfl⟩ | ⟨rfl, rfl, rfl, rfl, rfl, rfl⟩
  · exact Or.inl ⟨rfl, j_u, j_ua, j_v, j_va⟩
  · exact Or.inr ⟨rfl, j_u, j_ua, j_v, j_va⟩
