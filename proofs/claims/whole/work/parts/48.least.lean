/-- the powers of a letter, one after another -/
def vqN (PT : Nat → Nat → fF) (l s : Nat) : Nat → Nat → fF
  | 0 => sO s
  | n + 1 => mltF PT l s (vqN PT l s n)
theorem mlt_cg {PT : Nat → Nat → fF} {l s : Nat} {u u' : Nat → fF} (h : ∀ k, k < s → u k = u' k) : mltF PT l s u = mltF PT l s u' := by
  funext j; unfold mltF; exact sm_cg (fun k hk => by rw [h k hk])
theorem spn_cg {s n : Nat} {ρ ρ' : Nat → Nat → fF} {pv pv' : Nat → Nat} (h : ∀ r, r < n → ρ r = ρ' r ∧ pv r = pv' r) (H : spn s n ρ' pv') : spn s n ρ pv := by
  intro r hr
  obtain ⟨h1, h2⟩ := h r hr
  obtain ⟨k1, k2, k3⟩ := H r hr
  rw [h1, h2]
  exact ⟨k1, k2, fun q hq => by rw [(h q (by omega)).2]; exact k3 q hq⟩
theorem w0_lay {s e : Nat} {v : Nat → Nat → fF} {F : Nat → fF} (hs : s ≤ 16) (h : ∀ k, k < s → F k = v e k) : va_up (mgF s F zR) (16 + e) 1 = w0R s v e := by
  funext k
  unfold w0R
  by_cases q : k = 16 + e
  · rw [q, mp_us, if_neg (by omega), if_pos rfl]
  · rw [mp_un q]
    by_cases w : k < s
    · rw [if_pos w, mgF_lt w, h k w]
    · rw [if_neg w, if_neg q, mgF_ge w]; rfl
theorem w0_t {s e : Nat} {v : Nat → Nat → fF} (hs : s ≤ 16) (he : e ≤ 16) : trn 33 (w0R s v e) := fun k hk => by unfold w0R; rw [if_neg (by omega), if_neg (by omega)]
theorem mg_t16 {s : Nat} {a b : Nat → fF} (hs : s ≤ 16) (hb : trn 16 b) : trn 16 (mgF s a b) := fun k hk => by rw [mgF_ge (by omega)]; exact hb k hk
theorem ls_go {s i : Nat} {v : Nat → Nat → fF} {ρ : Nat → Nat → fF} {pv : Nat → Nat} (h : ∀ r, r < i → ρ r = lsρ s v r ∧ pv r = lsp s v r) : tkO ρ pv i (w0R s v i) = rwN s v i := by
  rw [rw_eq]; exact tkO_cg _ i h
theorem ls_up {s i : Nat} {v : Nat → Nat → fF} {ρ : Nat → Nat → fF} {pv : Nat → Nat} (h : ∀ r, r < i → ρ r = lsρ s v r ∧ pv r = lsp s v r) : ∀ r, r < i + 1 → va_up ρ i (nrm (rwN s v i) (fnz (rwN s v i) s)) r = lsρ s v r ∧ va_up pv i (fnz (rwN s v i) s) r = lsp s v r := by
  intro r hr
  by_cases e : r = i
  · rw [e, mp_us, mp_us]; exact ⟨rfl, rfl⟩
  · rw [mp_un e, mp_un e]; exact h r (by omega)
theorem sO_t (s : Nat) : trn 16 (sO s) := fun k hk => by unfold sO; split; exact (by unfold eK; rw [if_neg (by omega)]); rfl

theorem d_Q_findLeast_0 : decode b_Q_findLeast 0 = .ok (.aload_n 0, 1) := by decide +kernel
theorem d_Q_findLeast_1 : decode b_Q_findLeast 1 = .ok (.getfield 43, 3) := by decide +kernel
theorem d_Q_findLeast_4 : decode b_Q_findLeast 4 = .ok (.iconst 0, 1) := by decide +kernel
theorem d_Q_findLeast_5 : decode b_Q_findLeast 5 = .ok (.putfield 94, 3) := by decide +kernel
theorem d_Q_findLeast_8 : decode b_Q_findLeast 8 = .ok (.aload_n 0, 1) := by decide +kernel
theorem d_Q_findLeast_9 : decode b_Q_findLeast 9 = .ok (.aload_n 0, 1) := by decide +kernel
theorem d_Q_findLeast_10 : decode b_Q_findLeast 10 = .ok (.getfield 29, 3) := by decide +kernel
theorem d_Q_findLeast_13 : decode b_Q_findLeast 13 = .ok (.invokevirtual 95, 3) := by decide +kernel
theorem d_Q_findLeast_16 : decode b_Q_findLeast 16 = .ok (.iconst 0, 1) := by decide +kernel
theorem d_Q_findLeast_17 : decode b_Q_findLeast 17 = .ok (.istore_n 3, 1) := by decide +kernel
theorem d_Q_findLeast_18 : decode b_Q_findLeast 18 = .ok (.iload_n 3, 1) := by decide +kernel
theorem d_Q_findLeast_19 : decode b_Q_findLeast 19 = .ok (.aload_n 0, 1) := by decide +kernel
theorem d_Q_findLeast_20 : decode b_Q_findLeast 20 = .ok (.getfield 54, 3) := by decide +kernel
theorem d_Q_findLeast_23 : decode b_Q_findLeast 23 = .ok (.if_icmp .gt 104, 3) := by decide +kernel
theorem d_Q_findLeast_26 : decode b_Q_findLeast 26 = .ok (.aload_n 0, 1) := by decide +kernel
theorem d_Q_findLeast_27 : decode b_Q_findLeast 27 = .ok (.getfield 35, 3) := by decide +kernel
theorem d_Q_findLeast_30 : decode b_Q_findLeast 30 = .ok (.iconst 0, 1) := by decide +kernel
theorem d_Q_findLeast_31 : decode b_Q_findLeast 31 = .ok (.invokestatic 88, 3) := by decide +kernel
theorem d_Q_findLeast_34 : decode b_Q_findLeast 34 = .ok (.aload_n 0, 1) := by decide +kernel
theorem d_Q_findLeast_35 : decode b_Q_findLeast 35 = .ok (.getfield 29, 3) := by decide +kernel
theorem d_Q_findLeast_38 : decode b_Q_findLeast 38 = .ok (.iconst 0, 1) := by decide +kernel
theorem d_Q_findLeast_39 : decode b_Q_findLeast 39 = .ok (.aload_n 0, 1) := by decide +kernel
theorem d_Q_findLeast_40 : decode b_Q_findLeast 40 = .ok (.getfield 35, 3) := by decide +kernel
theorem d_Q_findLeast_43 : decode b_Q_findLeast 43 = .ok (.iconst 0, 1) := by decide +kernel
theorem d_Q_findLeast_44 : decode b_Q_findLeast 44 = .ok (.aload_n 0, 1) := by decide +kernel
theorem d_Q_findLeast_45 : decode b_Q_findLeast 45 = .ok (.getfield 54, 3) := by decide +kernel
theorem d_Q_findLeast_48 : decode b_Q_findLeast 48 = .ok (.invokestatic 99, 3) := by decide +kernel
theorem d_Q_findLeast_51 : decode b_Q_findLeast 51 = .ok (.aload_n 0, 1) := by decide +kernel
theorem d_Q_findLeast_52 : decode b_Q_findLeast 52 = .ok (.getfield 35, 3) := by decide +kernel
theorem d_Q_findLeast_55 : decode b_Q_findLeast 55 = .ok (.bipush 16, 2) := by decide +kernel
theorem d_Q_findLeast_57 : decode b_Q_findLeast 57 = .ok (.iload_n 3, 1) := by decide +kernel
theorem d_Q_findLeast_58 : decode b_Q_findLeast 58 = .ok (.iadd, 1) := by decide +kernel
theorem d_Q_findLeast_59 : decode b_Q_findLeast 59 = .ok (.iconst 1, 1) := by decide +kernel
theorem d_Q_findLeast_60 : decode b_Q_findLeast 60 = .ok (.iastore, 1) := by decide +kernel
theorem d_Q_findLeast_61 : decode b_Q_findLeast 61 = .ok (.aload_n 0, 1) := by decide +kernel
theorem d_Q_findLeast_62 : decode b_Q_findLeast 62 = .ok (.getfield 43, 3) := by decide +kernel
theorem d_Q_findLeast_65 : decode b_Q_findLeast 65 = .ok (.aload_n 0, 1) := by decide +kernel
theorem d_Q_findLeast_66 : decode b_Q_findLeast 66 = .ok (.getfield 35, 3) := by decide +kernel
theorem d_Q_findLeast_69 : decode b_Q_findLeast 69 = .ok (.aload_n 0, 1) := by decide +kernel
theorem d_Q_findLeast_70 : decode b_Q_findLeast 70 = .ok (.getfield 54, 3) := by decide +kernel
theorem d_Q_findLeast_73 : decode b_Q_findLeast 73 = .ok (.invokevirtual 105, 3) := by decide +kernel
theorem d_Q_findLeast_76 : decode b_Q_findLeast 76 = .ok (.ifCond .ne 15, 3) := by decide +kernel
theorem d_Q_findLeast_79 : decode b_Q_findLeast 79 = .ok (.aload_n 2, 1) := by decide +kernel
theorem d_Q_findLeast_80 : decode b_Q_findLeast 80 = .ok (.aload_n 0, 1) := by decide +kernel
theorem d_Q_findLeast_81 : decode b_Q_findLeast 81 = .ok (.getfield 35, 3) := by decide +kernel
theorem d_Q_findLeast_84 : decode b_Q_findLeast 84 = .ok (.bipush 16, 2) := by decide +kernel
theorem d_Q_findLeast_86 : decode b_Q_findLeast 86 = .ok (.iload_n 3, 1) := by decide +kernel
theorem d_Q_findLeast_87 : decode b_Q_findLeast 87 = .ok (.invokevirtual 109, 3) := by decide +kernel
theorem d_Q_findLeast_90 : decode b_Q_findLeast 90 = .ok (.return_, 1) := by decide +kernel
theorem d_Q_findLeast_91 : decode b_Q_findLeast 91 = .ok (.aload_n 0, 1) := by decide +kernel
theorem d_Q_findLeast_92 : decode b_Q_findLeast 92 = .ok (.iload_n 1, 1) := by decide +kernel
theorem d_Q_findLeast_93 : decode b_Q_findLeast 93 = .ok (.aload_n 0, 1) := by decide +kernel
theorem d_Q_findLeast_94 : decode b_Q_findLeast 94 = .ok (.getfield 29, 3) := by decide +kernel
theorem d_Q_findLeast_97 : decode b_Q_findLeast 97 = .ok (.aload_n 0, 1) := by decide +kernel
theorem d_Q_findLeast_98 : decode b_Q_findLeast 98 = .ok (.getfield 32, 3) := by decide +kernel
theorem d_Q_findLeast_101 : decode b_Q_findLeast 101 = .ok (.invokevirtual 115, 3) := by decide +kernel
theorem d_Q_findLeast_104 : decode b_Q_findLeast 104 = .ok (.aload_n 0, 1) := by decide +kernel
theorem d_Q_findLeast_105 : decode b_Q_findLeast 105 = .ok (.getfield 32, 3) := by decide +kernel
theorem d_Q_findLeast_108 : decode b_Q_findLeast 108 = .ok (.iconst 0, 1) := by decide +kernel
theorem d_Q_findLeast_109 : decode b_Q_findLeast 109 = .ok (.aload_n 0, 1) := by decide +kernel
theorem d_Q_findLeast_110 : decode b_Q_findLeast 110 = .ok (.getfield 29, 3) := by decide +kernel
theorem d_Q_findLeast_113 : decode b_Q_findLeast 113 = .ok (.iconst 0, 1) := by decide +kernel
theorem d_Q_findLeast_114 : decode b_Q_findLeast 114 = .ok (.aload_n 0, 1) := by decide +kernel
theorem d_Q_findLeast_115 : decode b_Q_findLeast 115 = .ok (.getfield 54, 3) := by decide +kernel
theorem d_Q_findLeast_118 : decode b_Q_findLeast 118 = .ok (.invokestatic 99, 3) := by decide +kernel
theorem d_Q_findLeast_121 : decode b_Q_findLeast 121 = .ok (.iinc 3 1, 3) := by decide +kernel
theorem d_Q_findLeast_124 : decode b_Q_findLeast 124 = .ok (.goto (-106), 3) := by decide +kernel
set_option maxHeartbeats 4000000 in
set_option maxRecDepth 100000 in
theorem lp_Q_least {p : Program} {l : Launch} {e : Env} {R : Room} {s : State} {m : MethodId} {args : Array Value} {below : List Frame} {meth : Method} {c : Code} {Q : State → Prop} {D : mp_G} {g : Nat → ClassId} {A : Nat → Prop} {cells slots : Nat} (hx : p.tables.exec = Jvm.exec) (hb : c.code = b_Q_findLeast) (hml : c.maxLocals = 4) (hg : ∀ w ∈ gw, w.before args s = true) (hown : s.vm.findClass R_Q = some m.cls) (hK : mp_K D classes (tys g) s) (hRf : 3 ≤ R.frames) (hRl : 71 ≤ R.locals) (hRc : cells ≤ R.cells) (hRs : slots ≤ R.slots) {B : mp_M} {qo pr fa nx re so rq rp oo oa TO s9 l9 : Nat} {q0 q1 q4 q5 q6 q11 : Value} {d0 : Int32} {PT : Nat → Nat → fF} {c0 : Nat → fF} (hTO : 486 ≤ TO) (hs : s9 ≤ 16) (hl9 : l9 < 3) (hc0 : trn 33 c0) : ∀ (k : Nat) (i : Nat) (Fa : Nat → fF) (Nx : Nat → fF) (Rl : Nat → fF) (ρ : Nat → Nat → fF) (pv : Nat → Nat) (S : mp_M) (H : Heap) (locs : List Loc) (ls : Array Slot), i + k = s9 + 1 → (∀ k, k < s9 → Fa k = (vqN PT l9 s9) i k) → (∀ r, r < i → ρ r = lsρ s9 (vqN PT l9 s9) r ∧ pv r = lsp s9 (vqN PT l9 s9) r) → (∀ m, m < i → fnz (rwN s9 (vqN PT l9 s9) m) s9 < s9) → (trn 16 Fa) → (trn 16 Nx) → (trn 33 Rl) → (∀ r, trn 33 (ρ r)) → S qo = some (14, .inr (4, [q0, q1, .int (nI s9), .ref pr, q4, q5, q6, .ref fa, .ref nx, .ref re, .ref so, q11])) → S pr = some (16, .inl ((g 1), 48, .inr (.inr (.inr (.inr (rfs (fun ii => pr + 1 + ii) 48)))))) → S fa = some (20, .inl ((g 0), 16, .inl (fun j => nI (Fa j).val))) → S nx = some (21, .inl ((g 0), 16, .inl (fun j => nI (Nx j).val))) → S re = some (22, .inl ((g 0), 33, .inl (fun j => nI (Rl j).val))) → S so = some (23, .inr (8, [.ref rq, .ref rp, .int (nI i)])) → S rq = some (24, .inl ((g 1), 16, .inr (.inr (.inr (.inr (rfs (fun ii => rq + 1 + ii) 16)))))) → S rp = some (25, .inl ((g 0), 16, .inl (fun j => nI (pv j)))) → S oo = some (TO, .inr (1, [.ref oa, .int d0])) → S oa = some ((TO + 1), .inl ((g 0), 33, .inl (fun j => nI (c0 j).val))) → (rS g 400 48 16 (fun ii => pr + 1 + ii) (fun ii j => nI (PT ii j).val) S) → (rS g 470 16 33 (fun ii => rq + 1 + ii) (fun ii j => nI (ρ ii j).val) S) → (∀ b t e9, B b = some (t, e9) → (t ≠ 20) → (t ≠ 21) → (t ≠ 22) → (t ≠ 23) → (t ≠ 25) → (t < 470 ∨ 486 ≤ t) → (t ≠ TO) → (t ≠ TO + 1) → S b = some (t, e9)) → mp_I D classes A s.heap S H locs → lv_has ls 4 [(3, .int (nI i)), (2, .ref oo), (1, .int (nI l9)), (0, .ref qo)] → (∀ (Fa : Nat → fF) (Nx : Nat → fF) (Rl : Nat → fF) (ρ : Nat → Nat → fF) (pv : Nat → Nat) (S : mp_M) (H : Heap) (locs : List Loc) (ls : Array Slot), (∀ k, k < s9 → Fa k = (vqN PT l9 s9) (s9 + 1) k) → (∀ r, r < (s9 + 1) → ρ r = lsρ s9 (vqN PT l9 s9) r ∧ pv r = lsp s9 (vqN PT l9 s9) r) → (∀ m, m < (s9 + 1) → fnz (rwN s9 (vqN PT l9 s9) m) s9 < s9) → (trn 16 Fa) → (trn 16 Nx) → (trn 33 Rl) → (∀ r, trn 33 (ρ r)) → S qo = some (14, .inr (4, [q0, q1, .int (nI s9), .ref pr, q4, q5, q6, .ref fa, .ref nx, .ref re, .ref so, q11])) → S pr = some (16, .inl ((g 1), 48, .inr (.inr (.inr (.inr (rfs (fun ii => pr + 1 + ii) 48)))))) → S fa = some (20, .inl ((g 0), 16, .inl (fun j => nI (Fa j).val))) → S nx = some (21, .inl ((g 0), 16, .inl (fun j => nI (Nx j).val))) → S re = some (22, .inl ((g 0), 33, .inl (fun j => nI (Rl j).val))) → S so = some (23, .inr (8, [.ref rq, .ref rp, .int (nI (s9 + 1))])) → S rq = some (24, .inl ((g 1), 16, .inr (.inr (.inr (.inr (rfs (fun ii => rq + 1 + ii) 16)))))) → S rp = some (25, .inl ((g 0), 16, .inl (fun j => nI (pv j)))) → S oo = some (TO, .inr (1, [.ref oa, .int d0])) → S oa = some ((TO + 1), .inl ((g 0), 33, .inl (fun j => nI (c0 j).val))) → (rS g 400 48 16 (fun ii => pr + 1 + ii) (fun ii j => nI (PT ii j).val) S) → (rS g 470 16 33 (fun ii => rq + 1 + ii) (fun ii j => nI (ρ ii j).val) S) → (∀ b t e9, B b = some (t, e9) → (t ≠ 20) → (t ≠ 21) → (t ≠ 22) → (t ≠ 23) → (t ≠ 25) → (t < 470 ∨ 486 ≤ t) → (t ≠ TO) → (t ≠ TO + 1) → S b = some (t, e9)) → mp_I D classes A s.heap S H locs → lv_has ls 4 [(3, .int (nI (s9 + 1))), (2, .ref oo), (1, .int (nI l9)), (0, .ref qo)] → W p l e R s m args below meth c H locs cells slots Q (F0 m 127 ls [])) → (∀ (i : Nat) (Fa : Nat → fF) (Nx : Nat → fF) (Rl : Nat → fF) (ρ : Nat → Nat → fF) (pv : Nat → Nat) (S : mp_M) (H : Heap) (locs : List Loc) (ls : Array Slot), (i ≤ s9 ∧ fnz (rwN s9 (vqN PT l9 s9) i) s9 = s9 ∧ ∀ m, m < i → fnz (rwN s9 (vqN PT l9 s9) m) s9 < s9) → (trn 16 Fa) → (trn 16 Nx) → (trn 33 Rl) → (∀ r, trn 33 (ρ r)) → S qo = some (14, .inr (4, [q0, q1, .int (nI s9), .ref pr, q4, q5, q6, .ref fa, .ref nx, .ref re, .ref so, q11])) → S pr = some (16, .inl ((g 1), 48, .inr (.inr (.inr (.inr (rfs (fun ii => pr + 1 + ii) 48)))))) → S fa = some (20, .inl ((g 0), 16, .inl (fun j => nI (Fa j).val))) → S nx = some (21, .inl ((g 0), 16, .inl (fun j => nI (Nx j).val))) → S re = some (22, .inl ((g 0), 33, .inl (fun j => nI (Rl j).val))) → S so = some (23, .inr (8, [.ref rq, .ref rp, .int (nI i)])) → S rq = some (24, .inl ((g 1), 16, .inr (.inr (.inr (.inr (rfs (fun ii => rq + 1 + ii) 16)))))) → S rp = some (25, .inl ((g 0), 16, .inl (fun j => nI (pv j)))) → S oo = some (TO, .inr (1, [.ref oa, .int (nI i)])) → S oa = some ((TO + 1), .inl ((g 0), 33, .inl (fun j => nI ((asg i (rwN s9 (vqN PT l9 s9) i)) j).val))) → (rS g 400 48 16 (fun ii => pr + 1 + ii) (fun ii j => nI (PT ii j).val) S) → (rS g 470 16 33 (fun ii => rq + 1 + ii) (fun ii j => nI (ρ ii j).val) S) → (∀ b t e9, B b = some (t, e9) → (t ≠ 20) → (t ≠ 21) → (t ≠ 22) → (t ≠ 23) → (t ≠ 25) → (t < 470 ∨ 486 ≤ t) → (t ≠ TO) → (t ≠ TO + 1) → S b = some (t, e9)) → mp_I D classes A s.heap S H locs → lv_has ls 4 [(0, .ref qo)] → W p l e R s m args below meth c H locs cells slots Q (F0 m 90 ls [])) → W p l e R s m args below meth c H locs cells slots Q (F0 m 18 ls []) := by
  intro k
  induction k with
  | zero =>
    intro i Fa Nx Rl ρ pv S H locs ls hi hF hrow hall tF tN tR tρ h_qo h_pr h_fa h_nx h_re h_so h_rq h_rp h_oo h_oa hP hR hfr hI hl kx ky
    refine lv_iload_n hx hb d_Q_findLeast_18 rfl (lv_at hl 0 rfl) ?_
    refine lv_aload_n hx hb d_Q_findLeast_19 rfl (lv_at hl 3 rfl) ?_
    refine mp_get (C := R_Q) (T := F_Q) (N := 12) (v := .int (nI s9)) hx hb hg i_Q hown hK.va hI h_qo rfl 2 (by decide) (hg _ q_221) (fun _ h9 => h9) rfl d_Q_findLeast_20 ?_
    refine lv_icmp_gt (tgt := 127) hx hb d_Q_findLeast_23 (by decide) (fun _ => ?_) (fun h9 => absurd ((nI_ltI (by omega) (by omega)).mpr (by omega)) h9)
    obtain rfl : i = s9 + 1 := by omega
    exact kx Fa Nx Rl ρ pv S H locs ls hF hrow hall tF tN tR tρ h_qo h_pr h_fa h_nx h_re h_so h_rq h_rp h_oo h_oa hP hR hfr hI (lv_sub hl [0, 1, 2, 3] rfl)
  | succ k ih =>
    intro i Fa Nx Rl ρ pv S H locs ls hi hF hrow hall tF tN tR tρ h_qo h_pr h_fa h_nx h_re h_so h_rq h_rp h_oo h_oa hP hR hfr hI hl kx ky
    refine lv_iload_n hx hb d_Q_findLeast_18 rfl (lv_at hl 0 rfl) ?_
    refine lv_aload_n hx hb d_Q_findLeast_19 rfl (lv_at hl 3 rfl) ?_
    refine mp_get (C := R_Q) (T := F_Q) (N := 12) (v := .int (nI s9)) hx hb hg i_Q hown hK.va hI h_qo rfl 2 (by decide) (hg _ q_221) (fun _ h9 => h9) rfl d_Q_findLeast_20 ?_
    refine lv_icmp_gt (tgt := 127) hx hb d_Q_findLeast_23 (by decide) (fun h9 => absurd h9 (by rw [nI_ltI (by omega) (by omega)]; omega)) (fun _ => ?_)
    refine lv_aload_n hx hb d_Q_findLeast_26 rfl (lv_at hl 3 rfl) ?_
    refine mp_get (C := R_Q) (T := F_Q) (N := 12) (v := .ref re) hx hb hg i_Q hown hK.va hI h_qo rfl 9 (by decide) (hg _ q_230) (fun _ h9 => h9) rfl d_Q_findLeast_27 ?_
    refine lv_iconst (v := nI 0) hx hb d_Q_findLeast_30 (by decide) ?_
    refine mp_callv hI (va_runS (As := [.ref re, .int (nI 0)]) (rest := []) ⟨hx, hb, hml, hown, hg⟩ (c_A_fill l D g S _ re 22 33 Rl h_re (by omega)) ⟨(callB_of 2 hg (wd_goodG q_396) rfl rfl rfl (hg _ q_14) (hg _ q_394) (by decide +kernel) ⟨Nat.le_trans (Nat.le_of_ble_eq_true rfl) hRf, Nat.le_trans (Nat.le_of_ble_eq_true rfl) hRl⟩), hg _ q_395⟩ (mp_pre hI hK [.ref re, .int (nI 0)]) rfl rfl hl.1 rfl (lv_room (Nat.le_of_ble_eq_true rfl)) d_Q_findLeast_31 ⟨by omega, by omega⟩) (fun S1 H2 locs p_3 hI => ?_)
    obtain ⟨q_re, fq⟩ := p_3
    rw [mgF_t (zR_t 33) tR] at q_re
    have h_qo : S1 qo = some (14, .inr (4, [q0, q1, .int (nI s9), .ref pr, q4, q5, q6, .ref fa, .ref nx, .ref re, .ref so, q11])) := fq qo _ _ h_qo (by omega)
    have h_pr : S1 pr = some (16, .inl ((g 1), 48, .inr (.inr (.inr (.inr (rfs (fun ii => pr + 1 + ii) 48)))))) := fq pr _ _ h_pr (by omega)
    have h_fa : S1 fa = some (20, .inl ((g 0), 16, .inl (fun j => nI (Fa j).val))) := fq fa _ _ h_fa (by omega)
    have h_nx : S1 nx = some (21, .inl ((g 0), 16, .inl (fun j => nI (Nx j).val))) := fq nx _ _ h_nx (by omega)
    have h_so : S1 so = some (23, .inr (8, [.ref rq, .ref rp, .int (nI i)])) := fq so _ _ h_so (by omega)
    have h_rq : S1 rq = some (24, .inl ((g 1), 16, .inr (.inr (.inr (.inr (rfs (fun ii => rq + 1 + ii) 16)))))) := fq rq _ _ h_rq (by omega)
    have h_rp : S1 rp = some (25, .inl ((g 0), 16, .inl (fun j => nI (pv j)))) := fq rp _ _ h_rp (by omega)
    have h_oo : S1 oo = some (TO, .inr (1, [.ref oa, .int d0])) := fq oo _ _ h_oo (by omega)
    have h_oa : S1 oa = some ((TO + 1), .inl ((g 0), 33, .inl (fun j => nI (c0 j).val))) := fq oa _ _ h_oa (by omega)
    have hfr : ∀ b t e9, B b = some (t, e9) → (t ≠ 20) → (t ≠ 21) → (t ≠ 22) → (t ≠ 23) → (t ≠ 25) → (t < 470 ∨ 486 ≤ t) → (t ≠ TO) → (t ≠ TO + 1) → S1 b = some (t, e9) := fun b t e9 h9 k0 k1 k2 k3 k4 k5 k6 k7 => by have h8 := hfr b t e9 h9 k0 k1 k2 k3 k4 k5 k6 k7; exact fq b _ _ h8 (by omega)
    have hP := rS_kept hP (S1 := S1) (fun b t9 e9 hb9 h1 h2 => by have h8 : S1 b = some (t9, e9) := fq b _ _ hb9 (by omega); rw [h8, hb9])
    have hR := rS_kept hR (S1 := S1) (fun b t9 e9 hb9 h1 h2 => by have h8 : S1 b = some (t9, e9) := fq b _ _ hb9 (by omega); rw [h8, hb9])
    have h_re := q_re
    refine lv_aload_n hx hb d_Q_findLeast_34 rfl (lv_at hl 3 rfl) ?_
    refine mp_get (C := R_Q) (T := F_Q) (N := 12) (v := .ref fa) hx hb hg i_Q hown hK.va hI h_qo rfl 7 (by decide) (hg _ q_228) (fun _ h9 => h9) rfl d_Q_findLeast_35 ?_
    refine lv_iconst (v := nI 0) hx hb d_Q_findLeast_38 (by decide) ?_
    refine lv_aload_n hx hb d_Q_findLeast_39 rfl (lv_at hl 3 rfl) ?_
    refine mp_get (C := R_Q) (T := F_Q) (N := 12) (v := .ref re) hx hb hg i_Q hown hK.va hI h_qo rfl 9 (by decide) (hg _ q_230) (fun _ h9 => h9) rfl d_Q_findLeast_40 ?_
    refine lv_iconst (v := nI 0) hx hb d_Q_findLeast_43 (by decide) ?_
    refine lv_aload_n hx hb d_Q_findLeast_44 rfl (lv_at hl 3 rfl) ?_
    refine mp_get (C := R_Q) (T := F_Q) (N := 12) (v := .int (nI s9)) hx hb hg i_Q hown hK.va hI h_qo rfl 2 (by decide) (hg _ q_221) (fun _ h9 => h9) rfl d_Q_findLeast_45 ?_
    refine mp_copyi hx hb (hml.trans hl.1.symm) hown (hg _ q_397) (nat_copy hK) (hg _ q_398) (hg _ q_15) hK.va hI 0 h_fa h_re rfl (sp := 0) (dp := 0) (n := s9) (by omega) (by omega) (by omega) (by omega) (Nat.le_trans (Nat.le_of_ble_eq_true rfl) hRf) (Nat.le_trans (Nat.le_of_ble_eq_true rfl) hRl) d_Q_findLeast_48 (fun S5 H6 locs e_7 hI => ?_)
    have h_re_o := h_re
    have e_7 : S5 = va_up S1 re (some (22, .inl ((g 0), 33, .inl (va_cpy (fun j => nI (Fa j).val) (fun j => nI (zR j).val) 0 0 s9)))) := e_7
    have h_re_o := h_re
    have h_qo : S5 qo = some (14, .inr (4, [q0, q1, .int (nI s9), .ref pr, q4, q5, q6, .ref fa, .ref nx, .ref re, .ref so, q11])) := by rw [e_7]; exact mp_keep h_qo h_re (by decide)
    have h_pr : S5 pr = some (16, .inl ((g 1), 48, .inr (.inr (.inr (.inr (rfs (fun ii => pr + 1 + ii) 48)))))) := by rw [e_7]; exact mp_keep h_pr h_re (by decide)
    have h_fa : S5 fa = some (20, .inl ((g 0), 16, .inl (fun j => nI (Fa j).val))) := by rw [e_7]; exact mp_keep h_fa h_re (by decide)
    have h_nx : S5 nx = some (21, .inl ((g 0), 16, .inl (fun j => nI (Nx j).val))) := by rw [e_7]; exact mp_keep h_nx h_re (by decide)
    have h_so : S5 so = some (23, .inr (8, [.ref rq, .ref rp, .int (nI i)])) := by rw [e_7]; exact mp_keep h_so h_re (by decide)
    have h_rq : S5 rq = some (24, .inl ((g 1), 16, .inr (.inr (.inr (.inr (rfs (fun ii => rq + 1 + ii) 16)))))) := by rw [e_7]; exact mp_keep h_rq h_re (by decide)
    have h_rp : S5 rp = some (25, .inl ((g 0), 16, .inl (fun j => nI (pv j)))) := by rw [e_7]; exact mp_keep h_rp h_re (by decide)
    have h_oo : S5 oo = some (TO, .inr (1, [.ref oa, .int d0])) := by rw [e_7]; exact mp_keep h_oo h_re (by omega)
    have h_oa : S5 oa = some ((TO + 1), .inl ((g 0), 33, .inl (fun j => nI (c0 j).val))) := by rw [e_7]; exact mp_keep h_oa h_re (by omega)
    have h_re : S5 re = some (22, .inl ((g 0), 33, .inl (va_cpy (fun j => nI (Fa j).val) (fun j => nI (zR j).val) 0 0 s9))) := by rw [e_7]; exact mp_us _ _ _
    have hP := rS_kept hP (S1 := S5) (fun b t9 e9 hb9 h1 h2 => by rw [e_7]; exact mp_un (mp_ne hb9 h_re_o (by omega)))
    have hR := rS_kept hR (S1 := S5) (fun b t9 e9 hb9 h1 h2 => by rw [e_7]; exact mp_un (mp_ne hb9 h_re_o (by omega)))
    have hfr : ∀ b t e9, B b = some (t, e9) → (t ≠ 20) → (t ≠ 21) → (t ≠ 22) → (t ≠ 23) → (t ≠ 25) → (t < 470 ∨ 486 ≤ t) → (t ≠ TO) → (t ≠ TO + 1) → S5 b = some (t, e9) := fun b t e9 h9 k0 k1 k2 k3 k4 k5 k6 k7 => by rw [e_7]; exact mp_keep (hfr b t e9 h9 k0 k1 k2 k3 k4 k5 k6 k7) h_re_o (by omega)
    rw [cpyF] at h_re
    refine lv_aload_n hx hb d_Q_findLeast_51 rfl (lv_at hl 3 rfl) ?_
    refine mp_get (C := R_Q) (T := F_Q) (N := 12) (v := .ref re) hx hb hg i_Q hown hK.va hI h_qo rfl 9 (by decide) (hg _ q_230) (fun _ h9 => h9) rfl d_Q_findLeast_52 ?_
    refine lv_bipush (v := nI 16) hx hb d_Q_findLeast_55 (by decide) ?_
    refine lv_iload_n hx hb d_Q_findLeast_57 rfl (lv_at hl 0 rfl) ?_
    refine lv_iadd hx hb d_Q_findLeast_58 ?_
    refine lv_topi (fun v8 ev8 => ?_)
    obtain rfl : v8 = nI (16 + i) := ev8.trans (nI_add _ _)
    refine lv_iconst (v := nI 1) hx hb d_Q_findLeast_59 (by decide) ?_
    refine mp_iast hx hb hK.va hI 0 h_re rfl (vp_in_nI (show 16 + i < 33 by omega) (by omega)) d_Q_findLeast_60 (fun S9 H10 locs e_11 hI => ?_)
    have h_re_o := h_re
    have e_11 : S9 = va_up S5 re (some (22, .inl ((g 0), 33, .inl (upd (fun j => nI ((mgF s9 Fa zR) j).val) (nI (16 + i)).toNatClampNeg (nI 1))))) := e_11
    have h_re_o := h_re
    have h_qo : S9 qo = some (14, .inr (4, [q0, q1, .int (nI s9), .ref pr, q4, q5, q6, .ref fa, .ref nx, .ref re, .ref so, q11])) := by rw [e_11]; exact mp_keep h_qo h_re (by decide)
    have h_pr : S9 pr = some (16, .inl ((g 1), 48, .inr (.inr (.inr (.inr (rfs (fun ii => pr + 1 + ii) 48)))))) := by rw [e_11]; exact mp_keep h_pr h_re (by decide)
    have h_fa : S9 fa = some (20, .inl ((g 0), 16, .inl (fun j => nI (Fa j).val))) := by rw [e_11]; exact mp_keep h_fa h_re (by decide)
    have h_nx : S9 nx = some (21, .inl ((g 0), 16, .inl (fun j => nI (Nx j).val))) := by rw [e_11]; exact mp_keep h_nx h_re (by decide)
    have h_so : S9 so = some (23, .inr (8, [.ref rq, .ref rp, .int (nI i)])) := by rw [e_11]; exact mp_keep h_so h_re (by decide)
    have h_rq : S9 rq = some (24, .inl ((g 1), 16, .inr (.inr (.inr (.inr (rfs (fun ii => rq + 1 + ii) 16)))))) := by rw [e_11]; exact mp_keep h_rq h_re (by decide)
    have h_rp : S9 rp = some (25, .inl ((g 0), 16, .inl (fun j => nI (pv j)))) := by rw [e_11]; exact mp_keep h_rp h_re (by decide)
    have h_oo : S9 oo = some (TO, .inr (1, [.ref oa, .int d0])) := by rw [e_11]; exact mp_keep h_oo h_re (by omega)
    have h_oa : S9 oa = some ((TO + 1), .inl ((g 0), 33, .inl (fun j => nI (c0 j).val))) := by rw [e_11]; exact mp_keep h_oa h_re (by omega)
    have h_re : S9 re = some (22, .inl ((g 0), 33, .inl (upd (fun j => nI ((mgF s9 Fa zR) j).val) (nI (16 + i)).toNatClampNeg (nI 1)))) := by rw [e_11]; exact mp_us _ _ _
    have hP := rS_kept hP (S1 := S9) (fun b t9 e9 hb9 h1 h2 => by rw [e_11]; exact mp_un (mp_ne hb9 h_re_o (by omega)))
    have hR := rS_kept hR (S1 := S9) (fun b t9 e9 hb9 h1 h2 => by rw [e_11]; exact mp_un (mp_ne hb9 h_re_o (by omega)))
    have hfr : ∀ b t e9, B b = some (t, e9) → (t ≠ 20) → (t ≠ 21) → (t ≠ 22) → (t ≠ 23) → (t ≠ 25) → (t < 470 ∨ 486 ≤ t) → (t ≠ TO) → (t ≠ TO + 1) → S9 b = some (t, e9) := fun b t e9 h9 k0 k1 k2 k3 k4 k5 k6 k7 => by rw [e_11]; exact mp_keep (hfr b t e9 h9 k0 k1 k2 k3 k4 k5 k6 k7) h_re_o (by omega)
    have h_re := h_re
    rw [nI_clamp (by omega), nIv_up1] at h_re
    have e9h_re : (fun j => nI (va_up (mgF s9 Fa zR) (16 + i) 1 j).val) = (fun j => nI ((w0R s9 (vqN PT l9 s9) i) j).val) := by rw [w0_lay hs hF]
    rw [e9h_re] at h_re
    refine lv_aload_n hx hb d_Q_findLeast_61 rfl (lv_at hl 3 rfl) ?_
    refine mp_get (C := R_Q) (T := F_Q) (N := 12) (v := .ref so) hx hb hg i_Q hown hK.va hI h_qo rfl 10 (by decide) (hg _ q_231) (fun _ h9 => h9) rfl d_Q_findLeast_62 ?_
    refine lv_aload_n hx hb d_Q_findLeast_65 rfl (lv_at hl 3 rfl) ?_
    refine mp_get (C := R_Q) (T := F_Q) (N := 12) (v := .ref re) hx hb hg i_Q hown hK.va hI h_qo rfl 9 (by decide) (hg _ q_230) (fun _ h9 => h9) rfl d_Q_findLeast_66 ?_
    refine lv_aload_n hx hb d_Q_findLeast_69 rfl (lv_at hl 3 rfl) ?_
    refine mp_get (C := R_Q) (T := F_Q) (N := 12) (v := .int (nI s9)) hx hb hg i_Q hown hK.va hI h_qo rfl 2 (by decide) (hg _ q_221) (fun _ h9 => h9) rfl d_Q_findLeast_70 ?_
    have hsp := spn_cg hrow (ls_spn i hall)
    refine mp_calli hI (va_runV (As := [.ref re, .int (nI s9)]) (rest := []) ⟨hx, hb, hml, hown, hg⟩ (c_N_add l D g S9 _ so rq rp re 23 470 22 33 pv ρ (w0R s9 (vqN PT l9 s9) i) i s9 h_so h_rq h_rp h_re hR (by decide) (by decide) (by omega) hs (by omega) hsp tρ (w0_t hs (by omega))) ⟨(callB_of 2 hg (wd_goodG q_403) rfl rfl rfl (hg _ q_22) (hg _ q_400) (by decide +kernel) ⟨Nat.le_trans (Nat.le_of_ble_eq_true rfl) hRf, Nat.le_trans (Nat.le_of_ble_eq_true rfl) hRl⟩), hg _ q_401, hg _ q_402⟩ (mp_preV (C := R_N) (T := F_N) hI hK h_so rfl [.ref re, .int (nI s9)]) rfl rfl hl.1 rfl (lv_room (Nat.le_of_ble_eq_true rfl)) d_Q_findLeast_73 ⟨by omega, by omega⟩) (fun r15 S12 H13 locs p_14 hI => ?_)
    rw [ls_go hrow] at p_14
    obtain ⟨q_re, hres, fq⟩ := p_14
    have h_qo : S12 qo = some (14, .inr (4, [q0, q1, .int (nI s9), .ref pr, q4, q5, q6, .ref fa, .ref nx, .ref re, .ref so, q11])) := fq qo _ _ h_qo (by omega) (by omega) (by omega) (by omega)
    have h_pr : S12 pr = some (16, .inl ((g 1), 48, .inr (.inr (.inr (.inr (rfs (fun ii => pr + 1 + ii) 48)))))) := fq pr _ _ h_pr (by omega) (by omega) (by omega) (by omega)
    have h_fa : S12 fa = some (20, .inl ((g 0), 16, .inl (fun j => nI (Fa j).val))) := fq fa _ _ h_fa (by omega) (by omega) (by omega) (by omega)
    have h_nx : S12 nx = some (21, .inl ((g 0), 16, .inl (fun j => nI (Nx j).val))) := fq nx _ _ h_nx (by omega) (by omega) (by omega) (by omega)
    have h_rq : S12 rq = some (24, .inl ((g 1), 16, .inr (.inr (.inr (.inr (rfs (fun ii => rq + 1 + ii) 16)))))) := fq rq _ _ h_rq (by omega) (by omega) (by omega) (by omega)
    have h_oo : S12 oo = some (TO, .inr (1, [.ref oa, .int d0])) := fq oo _ _ h_oo (by omega) (by omega) (by omega) (by omega)
    have h_oa : S12 oa = some ((TO + 1), .inl ((g 0), 33, .inl (fun j => nI (c0 j).val))) := fq oa _ _ h_oa (by omega) (by omega) (by omega) (by omega)
    have hfr : ∀ b t e9, B b = some (t, e9) → (t ≠ 20) → (t ≠ 21) → (t ≠ 22) → (t ≠ 23) → (t ≠ 25) → (t < 470 ∨ 486 ≤ t) → (t ≠ TO) → (t ≠ TO + 1) → S12 b = some (t, e9) := fun b t e9 h9 k0 k1 k2 k3 k4 k5 k6 k7 => by have h8 := hfr b t e9 h9 k0 k1 k2 k3 k4 k5 k6 k7; exact fq b _ _ h8 (by omega) (by omega) (by omega) (by omega)
    have hP := rS_kept hP (S1 := S12) (fun b t9 e9 hb9 h1 h2 => by have h8 : S12 b = some (t9, e9) := fq b _ _ hb9 (by omega) (by omega) (by omega) (by omega); rw [h8, hb9])
    have tW : trn 33 (rwN s9 (vqN PT l9 s9) i) := by rw [← ls_go hrow]; exact tkO_t tρ (w0_t hs (by omega)) i
    rcases hres with ⟨rfl, hfz, hn16, h_so, h_rp, hR⟩ | ⟨rfl, hfz, h_so, h_rp, hR⟩
    · refine lv_if_ne (tgt := 91) hx hb d_Q_findLeast_76 (by decide) (fun _ => ?_) (fun h9 => absurd h9 (by decide))
      refine lv_aload_n hx hb d_Q_findLeast_91 rfl (lv_at hl 3 rfl) ?_
      refine lv_iload_n hx hb d_Q_findLeast_92 rfl (lv_at hl 2 rfl) ?_
      refine lv_aload_n hx hb d_Q_findLeast_93 rfl (lv_at hl 3 rfl) ?_
      refine mp_get (C := R_Q) (T := F_Q) (N := 12) (v := .ref fa) hx hb hg i_Q hown hK.va hI h_qo rfl 7 (by decide) (hg _ q_228) (fun _ h9 => h9) rfl d_Q_findLeast_94 ?_
      refine lv_aload_n hx hb d_Q_findLeast_97 rfl (lv_at hl 3 rfl) ?_
      refine mp_get (C := R_Q) (T := F_Q) (N := 12) (v := .ref nx) hx hb hg i_Q hown hK.va hI h_qo rfl 8 (by decide) (hg _ q_229) (fun _ h9 => h9) rfl d_Q_findLeast_98 ?_
      refine mp_callv hI (va_runV (As := [.int (nI l9), .ref fa, .ref nx]) (rest := []) ⟨hx, hb, hml, hown, hg⟩ (c_Q_multiply l D g S12 _ qo pr fa nx 20 21 s9 l9 q0 q1 q4 q5 q6 (.ref fa) (.ref nx) (.ref re) (.ref so) q11 PT Fa Nx h_qo h_pr h_fa h_nx hP (by omega) hs hl9) ⟨(callB_of 3 hg (wd_goodG q_427) rfl rfl rfl (hg _ q_21) (hg _ q_424) (by decide +kernel) ⟨Nat.le_trans (Nat.le_of_ble_eq_true rfl) hRf, Nat.le_trans (Nat.le_of_ble_eq_true rfl) hRl⟩), hg _ q_426, hg _ qs_10⟩ (mp_preV (C := R_Q) (T := F_Q) hI hK h_qo rfl [.int (nI l9), .ref fa, .ref nx]) rfl rfl hl.1 rfl (lv_room (Nat.le_of_ble_eq_true rfl)) d_Q_findLeast_101 ⟨by omega, by omega⟩) (fun S16 H17 locs p_18 hI => ?_)
      obtain ⟨q_nx, fq⟩ := p_18
      have h_qo : S16 qo = some (14, .inr (4, [q0, q1, .int (nI s9), .ref pr, q4, q5, q6, .ref fa, .ref nx, .ref re, .ref so, q11])) := fq qo _ _ h_qo (by omega)
      have h_pr : S16 pr = some (16, .inl ((g 1), 48, .inr (.inr (.inr (.inr (rfs (fun ii => pr + 1 + ii) 48)))))) := fq pr _ _ h_pr (by omega)
      have h_fa : S16 fa = some (20, .inl ((g 0), 16, .inl (fun j => nI (Fa j).val))) := fq fa _ _ h_fa (by omega)
      have h_rq : S16 rq = some (24, .inl ((g 1), 16, .inr (.inr (.inr (.inr (rfs (fun ii => rq + 1 + ii) 16)))))) := fq rq _ _ h_rq (by omega)
      have h_oo : S16 oo = some (TO, .inr (1, [.ref oa, .int d0])) := fq oo _ _ h_oo (by omega)
      have h_oa : S16 oa = some ((TO + 1), .inl ((g 0), 33, .inl (fun j => nI (c0 j).val))) := fq oa _ _ h_oa (by omega)
      have q_re : S16 re = some (22, .inl ((g 0), 33, .inl (fun j => nI ((rwN s9 (vqN PT l9 s9) i) j).val))) := fq re _ _ q_re (by omega)
      have h_so : S16 so = some (23, .inr (8, [.ref rq, .ref rp, .int (nI (i + 1))])) := fq so _ _ h_so (by omega)
      have h_rp : S16 rp = some (25, .inl ((g 0), 16, .inl (fun j => nI (va_up pv i (fnz (rwN s9 (vqN PT l9 s9) i) s9) j)))) := fq rp _ _ h_rp (by omega)
      have hfr : ∀ b t e9, B b = some (t, e9) → (t ≠ 20) → (t ≠ 21) → (t ≠ 22) → (t ≠ 23) → (t ≠ 25) → (t < 470 ∨ 486 ≤ t) → (t ≠ TO) → (t ≠ TO + 1) → S16 b = some (t, e9) := fun b t e9 h9 k0 k1 k2 k3 k4 k5 k6 k7 => by have h8 := hfr b t e9 h9 k0 k1 k2 k3 k4 k5 k6 k7; exact fq b _ _ h8 (by omega)
      have hP := rS_kept hP (S1 := S16) (fun b t9 e9 hb9 h1 h2 => by have h8 : S16 b = some (t9, e9) := fq b _ _ hb9 (by omega); rw [h8, hb9])
      have hR := rS_kept hR (S1 := S16) (fun b t9 e9 hb9 h1 h2 => by have h8 : S16 b = some (t9, e9) := fq b _ _ hb9 (by omega); rw [h8, hb9])
      have h_nx := q_nx
      refine lv_aload_n hx hb d_Q_findLeast_104 rfl (lv_at hl 3 rfl) ?_
      refine mp_get (C := R_Q) (T := F_Q) (N := 12) (v := .ref nx) hx hb hg i_Q hown hK.va hI h_qo rfl 8 (by decide) (hg _ q_229) (fun _ h9 => h9) rfl d_Q_findLeast_105 ?_
      refine lv_iconst (v := nI 0) hx hb d_Q_findLeast_108 (by decide) ?_
      refine lv_aload_n hx hb d_Q_findLeast_109 rfl (lv_at hl 3 rfl) ?_
      refine mp_get (C := R_Q) (T := F_Q) (N := 12) (v := .ref fa) hx hb hg i_Q hown hK.va hI h_qo rfl 7 (by decide) (hg _ q_228) (fun _ h9 => h9) rfl d_Q_findLeast_110 ?_
      refine lv_iconst (v := nI 0) hx hb d_Q_findLeast_113 (by decide) ?_
      refine lv_aload_n hx hb d_Q_findLeast_114 rfl (lv_at hl 3 rfl) ?_
      refine mp_get (C := R_Q) (T := F_Q) (N := 12) (v := .int (nI s9)) hx hb hg i_Q hown hK.va hI h_qo rfl 2 (by decide) (hg _ q_221) (fun _ h9 => h9) rfl d_Q_findLeast_115 ?_
      refine mp_copyi hx hb (hml.trans hl.1.symm) hown (hg _ q_397) (nat_copy hK) (hg _ q_398) (hg _ q_15) hK.va hI 0 h_nx h_fa rfl (sp := 0) (dp := 0) (n := s9) (by omega) (by omega) (by omega) (by omega) (Nat.le_trans (Nat.le_of_ble_eq_true rfl) hRf) (Nat.le_trans (Nat.le_of_ble_eq_true rfl) hRl) d_Q_findLeast_118 (fun S20 H21 locs e_22 hI => ?_)
      have h_fa_o := h_fa
      have e_22 : S20 = va_up S16 fa (some (20, .inl ((g 0), 16, .inl (va_cpy (fun j => nI ((mgF s9 (mltF PT l9 s9 Fa) Nx) j).val) (fun j => nI (Fa j).val) 0 0 s9)))) := e_22
      have h_fa_o := h_fa
      have h_qo : S20 qo = some (14, .inr (4, [q0, q1, .int (nI s9), .ref pr, q4, q5, q6, .ref fa, .ref nx, .ref re, .ref so, q11])) := by rw [e_22]; exact mp_keep h_qo h_fa (by decide)
      have h_pr : S20 pr = some (16, .inl ((g 1), 48, .inr (.inr (.inr (.inr (rfs (fun ii => pr + 1 + ii) 48)))))) := by rw [e_22]; exact mp_keep h_pr h_fa (by decide)
      have h_nx : S20 nx = some (21, .inl ((g 0), 16, .inl (fun j => nI ((mgF s9 (mltF PT l9 s9 Fa) Nx) j).val))) := by rw [e_22]; exact mp_keep h_nx h_fa (by decide)
      have h_rq : S20 rq = some (24, .inl ((g 1), 16, .inr (.inr (.inr (.inr (rfs (fun ii => rq + 1 + ii) 16)))))) := by rw [e_22]; exact mp_keep h_rq h_fa (by decide)
      have h_oo : S20 oo = some (TO, .inr (1, [.ref oa, .int d0])) := by rw [e_22]; exact mp_keep h_oo h_fa (by omega)
      have h_oa : S20 oa = some ((TO + 1), .inl ((g 0), 33, .inl (fun j => nI (c0 j).val))) := by rw [e_22]; exact mp_keep h_oa h_fa (by omega)
      have q_re : S20 re = some (22, .inl ((g 0), 33, .inl (fun j => nI ((rwN s9 (vqN PT l9 s9) i) j).val))) := by rw [e_22]; exact mp_keep q_re h_fa (by decide)
      have h_so : S20 so = some (23, .inr (8, [.ref rq, .ref rp, .int (nI (i + 1))])) := by rw [e_22]; exact mp_keep h_so h_fa (by decide)
      have h_rp : S20 rp = some (25, .inl ((g 0), 16, .inl (fun j => nI (va_up pv i (fnz (rwN s9 (vqN PT l9 s9) i) s9) j)))) := by rw [e_22]; exact mp_keep h_rp h_fa (by decide)
      have h_fa : S20 fa = some (20, .inl ((g 0), 16, .inl (va_cpy (fun j => nI ((mgF s9 (mltF PT l9 s9 Fa) Nx) j).val) (fun j => nI (Fa j).val) 0 0 s9))) := by rw [e_22]; exact mp_us _ _ _
      have hP := rS_kept hP (S1 := S20) (fun b t9 e9 hb9 h1 h2 => by rw [e_22]; exact mp_un (mp_ne hb9 h_fa_o (by omega)))
      have hR := rS_kept hR (S1 := S20) (fun b t9 e9 hb9 h1 h2 => by rw [e_22]; exact mp_un (mp_ne hb9 h_fa_o (by omega)))
      have hfr : ∀ b t e9, B b = some (t, e9) → (t ≠ 20) → (t ≠ 21) → (t ≠ 22) → (t ≠ 23) → (t ≠ 25) → (t < 470 ∨ 486 ≤ t) → (t ≠ TO) → (t ≠ TO + 1) → S20 b = some (t, e9) := fun b t e9 h9 k0 k1 k2 k3 k4 k5 k6 k7 => by rw [e_22]; exact mp_keep (hfr b t e9 h9 k0 k1 k2 k3 k4 k5 k6 k7) h_fa_o (by omega)
      rw [cpyF] at h_fa
      refine lv_iinc (v := nI (i + 1)) (lv' := [(3, .int (nI (i + 1))), (2, .ref oo), (1, .int (nI l9)), (0, .ref qo)]) hx hb d_Q_findLeast_121 hl (k := 0) rfl (nI_1 _) (by decide) rfl (fun ls hl => ?_)
      refine lv_goto (tgt := 18) hx hb d_Q_findLeast_124 (by decide) ?_
      exact ih (i + 1) (mgF s9 (mgF s9 (mltF PT l9 s9 Fa) Nx) Fa) (mgF s9 (mltF PT l9 s9 Fa) Nx) (rwN s9 (vqN PT l9 s9) i) (va_up ρ i (nrm (rwN s9 (vqN PT l9 s9) i) (fnz (rwN s9 (vqN PT l9 s9) i) s9))) (va_up pv i (fnz (rwN s9 (vqN PT l9 s9) i) s9)) S20 H21 locs ls (by omega) (fun k hk => by rw [mgF_lt hk, mgF_lt hk, mlt_cg hF]; rfl) (ls_up hrow) (fun m hm => by by_cases q : m = i; exact (by rw [q]; exact hfz); exact hall m (by omega)) (mg_t16 hs tF) (mg_t16 hs tN) tW (va_upt tρ (nrm_t tW)) h_qo h_pr h_fa h_nx q_re h_so h_rq h_rp h_oo h_oa hP hR hfr hI (lv_sub hl [0, 1, 2, 3] rfl) kx ky
    · refine lv_if_ne (tgt := 91) hx hb d_Q_findLeast_76 (by decide) (fun h9 => absurd h9 (by decide)) (fun _ => ?_)
      refine lv_aload_n hx hb d_Q_findLeast_79 rfl (lv_at hl 1 rfl) ?_
      refine lv_aload_n hx hb d_Q_findLeast_80 rfl (lv_at hl 3 rfl) ?_
      refine mp_get (C := R_Q) (T := F_Q) (N := 12) (v := .ref re) hx hb hg i_Q hown hK.va hI h_qo rfl 9 (by decide) (hg _ q_230) (fun _ h9 => h9) rfl d_Q_findLeast_81 ?_
      refine lv_bipush (v := nI 16) hx hb d_Q_findLeast_84 (by decide) ?_
      refine lv_iload_n hx hb d_Q_findLeast_86 rfl (lv_at hl 0 rfl) ?_
      refine mp_callv hI (va_runV (As := [.ref re, .int (nI 16), .int (nI i)]) (rest := []) ⟨hx, hb, hml, hown, hg⟩ (c_O_assign l D g S12 _ oo oa TO c0 re 22 i (rwN s9 (vqN PT l9 s9) i) d0 h_oo h_oa q_re (by omega) (by omega) hc0 (by rw [rw_top hs]; decide)) ⟨(callB_of 3 hg (wd_goodG q_418) rfl rfl rfl (hg _ q_18) (hg _ q_415) (by decide +kernel) ⟨Nat.le_trans (Nat.le_of_ble_eq_true rfl) hRf, Nat.le_trans (Nat.le_of_ble_eq_true rfl) hRl⟩), hg _ q_416, hg _ q_417⟩ (mp_preV (C := R_O) (T := F_O) hI hK h_oo rfl [.ref re, .int (nI 16), .int (nI i)]) rfl rfl hl.1 rfl (lv_room (Nat.le_of_ble_eq_true rfl)) d_Q_findLeast_87 ⟨by omega, by omega⟩) (fun S23 H24 locs p_25 hI => ?_)
      obtain ⟨q_oo, q_oa, fq⟩ := p_25
      have h_qo : S23 qo = some (14, .inr (4, [q0, q1, .int (nI s9), .ref pr, q4, q5, q6, .ref fa, .ref nx, .ref re, .ref so, q11])) := fq qo _ _ h_qo (by omega) (by omega)
      have h_pr : S23 pr = some (16, .inl ((g 1), 48, .inr (.inr (.inr (.inr (rfs (fun ii => pr + 1 + ii) 48)))))) := fq pr _ _ h_pr (by omega) (by omega)
      have h_fa : S23 fa = some (20, .inl ((g 0), 16, .inl (fun j => nI (Fa j).val))) := fq fa _ _ h_fa (by omega) (by omega)
      have h_nx : S23 nx = some (21, .inl ((g 0), 16, .inl (fun j => nI (Nx j).val))) := fq nx _ _ h_nx (by omega) (by omega)
      have h_rq : S23 rq = some (24, .inl ((g 1), 16, .inr (.inr (.inr (.inr (rfs (fun ii => rq + 1 + ii) 16)))))) := fq rq _ _ h_rq (by omega) (by omega)
      have q_re : S23 re = some (22, .inl ((g 0), 33, .inl (fun j => nI ((rwN s9 (vqN PT l9 s9) i) j).val))) := fq re _ _ q_re (by omega) (by omega)
      have h_so : S23 so = some (23, .inr (8, [.ref rq, .ref rp, .int (nI i)])) := fq so _ _ h_so (by omega) (by omega)
      have h_rp : S23 rp = some (25, .inl ((g 0), 16, .inl (fun j => nI (pv j)))) := fq rp _ _ h_rp (by omega) (by omega)
      have hfr : ∀ b t e9, B b = some (t, e9) → (t ≠ 20) → (t ≠ 21) → (t ≠ 22) → (t ≠ 23) → (t ≠ 25) → (t < 470 ∨ 486 ≤ t) → (t ≠ TO) → (t ≠ TO + 1) → S23 b = some (t, e9) := fun b t e9 h9 k0 k1 k2 k3 k4 k5 k6 k7 => by have h8 := hfr b t e9 h9 k0 k1 k2 k3 k4 k5 k6 k7; exact fq b _ _ h8 (by omega) (by omega)
      have hP := rS_kept hP (S1 := S23) (fun b t9 e9 hb9 h1 h2 => by have h8 : S23 b = some (t9, e9) := fq b _ _ hb9 (by omega) (by omega); rw [h8, hb9])
      have hR := rS_kept hR (S1 := S23) (fun b t9 e9 hb9 h1 h2 => by have h8 : S23 b = some (t9, e9) := fq b _ _ hb9 (by omega) (by omega); rw [h8, hb9])
      exact ky i Fa Nx (rwN s9 (vqN PT l9 s9) i) ρ pv S23 H24 locs ls ⟨by omega, hfz, hall⟩ tF tN tW tρ h_qo h_pr h_fa h_nx q_re h_so h_rq h_rp q_oo q_oa hP hR hfr hI (lv_sub hl [3] rfl)
set_option maxHeartbeats 4000000 in
set_option maxRecDepth 100000 in
/-- the least polynomial -/
theorem c_Q_findLeast (l : Launch) (D : mp_G) (g : Nat → ClassId) (S : mp_M) (sz : Nat) (qo pr fa nx re so rq rp oo oa TO s9 l9 : Nat) (q0 q1 q4 q5 q6 q11 : Value) (d0 : Int32) (PT : Nat → Nat → fF) (c0 : Nat → fF) (z0 : Int32) (Fa Nx Rl : Nat → fF) (ρ : Nat → Nat → fF) (pv : Nat → Nat) (h_qo : S qo = some (14, .inr (4, [q0, q1, .int (nI s9), .ref pr, q4, q5, q6, .ref fa, .ref nx, .ref re, .ref so, q11]))) (h_pr : S pr = some (16, .inl ((g 1), 48, .inr (.inr (.inr (.inr (rfs (fun ii => pr + 1 + ii) 48))))))) (h_fa : S fa = some (20, .inl ((g 0), 16, .inl (fun j => nI (Fa j).val)))) (h_nx : S nx = some (21, .inl ((g 0), 16, .inl (fun j => nI (Nx j).val)))) (h_re : S re = some (22, .inl ((g 0), 33, .inl (fun j => nI (Rl j).val)))) (h_so : S so = some (23, .inr (8, [.ref rq, .ref rp, .int z0]))) (h_rq : S rq = some (24, .inl ((g 1), 16, .inr (.inr (.inr (.inr (rfs (fun ii => rq + 1 + ii) 16))))))) (h_rp : S rp = some (25, .inl ((g 0), 16, .inl (fun j => nI (pv j))))) (h_oo : S oo = some (TO, .inr (1, [.ref oa, .int d0]))) (h_oa : S oa = some ((TO + 1), .inl ((g 0), 33, .inl (fun j => nI (c0 j).val)))) (hP : rS g 400 48 16 (fun ii => pr + 1 + ii) (fun ii j => nI (PT ii j).val) S) (hR : rS g 470 16 33 (fun ii => rq + 1 + ii) (fun ii j => nI (ρ ii j).val) S) (hTO : 486 ≤ TO) (hs : s9 ≤ 16) (hl9 : l9 < 3) (hc0 : trn 33 c0) (tF : trn 16 Fa) (tN : trn 16 Nx) (tR : trn 33 Rl) (tρ : ∀ r, trn 33 (ρ r)) : Met l y_Q_findLeast w_Q_findLeast ({ frames := 3, cells := 0, slots := 0, locals := 71 }) (va_Pc [.ref qo, .int (nI l9), .ref oo] (mp_B0 D classes (tys g) S sz)) (va_Qv (fun (S1 : mp_M) => ∃ (D9 : Nat) (z9 : Int32) (F1 N1 R1 : Nat → fF) (ρ1 : Nat → Nat → fF) (p1 : Nat → Nat), (D9 ≤ s9 ∧ fnz (rwN s9 (vqN PT l9 s9) D9) s9 = s9 ∧ ∀ m, m < D9 → fnz (rwN s9 (vqN PT l9 s9) m) s9 < s9) ∧ S1 oo = some (TO, .inr (1, [.ref oa, .int (nI D9)])) ∧ S1 oa = some ((TO + 1), .inl ((g 0), 33, .inl (fun j => nI ((asg D9 (rwN s9 (vqN PT l9 s9) D9)) j).val))) ∧ S1 fa = some (20, .inl ((g 0), 16, .inl (fun j => nI (F1 j).val))) ∧ S1 nx = some (21, .inl ((g 0), 16, .inl (fun j => nI (N1 j).val))) ∧ S1 re = some (22, .inl ((g 0), 33, .inl (fun j => nI (R1 j).val))) ∧ S1 so = some (23, .inr (8, [.ref rq, .ref rp, .int z9])) ∧ S1 rp = some (25, .inl ((g 0), 16, .inl (fun j => nI (p1 j)))) ∧ (rS g 470 16 33 (fun ii => rq + 1 + ii) (fun ii j => nI (ρ1 ii j).val) S1) ∧ trn 16 F1 ∧ trn 16 N1 ∧ trn 33 R1 ∧ (∀ r, trn 33 (ρ1 r)) ∧ (∀ b t e9, S b = some (t, e9) → (t ≠ 20) → (t ≠ 21) → (t ≠ 22) → (t ≠ 23) → (t ≠ 25) → (t < 470 ∨ 486 ≤ t) → (t ≠ TO) → (t ≠ TO + 1) → S1 b = some (t, e9))) (mp_B1 D classes S sz) (mp_A S sz)) 0 0 (mp_A S sz) := by
  refine Met.ofW (cc := b_Q_findLeast) (maxL := 4) (ret := none) (by decide) rfl ?_
  intro p e s m args below meth c s₁ B hml hv
  obtain ⟨rfl, hsz, hH, hK⟩ := hv
  have hx := B.exec
  have hb := B.bytes
  have hr := B.returns
  have hts := atoms_spec (ws := w_Q_findLeast) B.pre
  have hg : ∀ w ∈ gw, w.before _ s = true := fun w h => hts w (List.mem_cons_of_mem _ h)
  have hown : s.vm.findClass R_Q = some m.cls := findClass_of_methodNamed B.named
  have hlocks := B.notSynchronized
  subst hsz
  have hI := mp_I.start hH
  have hl := lv_entry ([.ref qo, .int (nI l9), .ref oo]) (n := 4) (Nat.le_of_ble_eq_true rfl)
  rw [lg_entry_eq]
  generalize (lg_sl ([.ref qo, .int (nI l9), .ref oo]) ++ List.replicate (4 - (lg_sl ([.ref qo, .int (nI l9), .ref oo])).length) Slot.unset).toArray = ls at hl ⊢
  have hl : lv_has ls 4 [(0, .ref qo), (1, .int (nI l9)), (2, .ref oo)] := hl
  have hfr : ∀ b t e9, S b = some (t, e9) → (t ≠ 20) → (t ≠ 21) → (t ≠ 22) → (t ≠ 23) → (t ≠ 25) → (t < 470 ∨ 486 ≤ t) → (t ≠ TO) → (t ≠ TO + 1) → S b = some (t, e9) := fun _ _ _ h9 _ _ _ _ _ _ _ _ => h9
  refine lv_aload_n hx hb d_Q_findLeast_0 rfl (lv_at hl 0 rfl) ?_
  refine mp_get (C := R_Q) (T := F_Q) (N := 12) (v := .ref so) hx hb hg i_Q hown hK.va hI h_qo rfl 10 (by decide) (hg _ q_231) (fun _ h9 => h9) rfl d_Q_findLeast_1 ?_
  refine lv_iconst (v := nI 0) hx hb d_Q_findLeast_4 (by decide) ?_
  refine mp_putN (C := R_N) (T := F_N) (N := 3) (v := .int (nI 0)) (ty := .int) hx hb hg i_N t_N t_N_ok n_N hown hK.va hI h_so rfl 2 (by decide) (hK.use q_209 rfl) (fun _ h9 => h9) rfl (by decide +kernel) (rfl) rfl (Nat.le_of_ble_eq_true rfl) d_Q_findLeast_5 (fun S1 H2 locs e_3 hI => ?_)
  have h_so_o := h_so
  have e_3 : S1 = va_up S so (some (23, .inr (8, [.ref rq, .ref rp, .int (nI 0)]))) := e_3
  have h_so_o := h_so
  have h_qo : S1 qo = some (14, .inr (4, [q0, q1, .int (nI s9), .ref pr, q4, q5, q6, .ref fa, .ref nx, .ref re, .ref so, q11])) := by rw [e_3]; exact mp_keep h_qo h_so (by decide)
  have h_pr : S1 pr = some (16, .inl ((g 1), 48, .inr (.inr (.inr (.inr (rfs (fun ii => pr + 1 + ii) 48)))))) := by rw [e_3]; exact mp_keep h_pr h_so (by decide)
  have h_fa : S1 fa = some (20, .inl ((g 0), 16, .inl (fun j => nI (Fa j).val))) := by rw [e_3]; exact mp_keep h_fa h_so (by decide)
  have h_nx : S1 nx = some (21, .inl ((g 0), 16, .inl (fun j => nI (Nx j).val))) := by rw [e_3]; exact mp_keep h_nx h_so (by decide)
  have h_re : S1 re = some (22, .inl ((g 0), 33, .inl (fun j => nI (Rl j).val))) := by rw [e_3]; exact mp_keep h_re h_so (by decide)
  have h_rq : S1 rq = some (24, .inl ((g 1), 16, .inr (.inr (.inr (.inr (rfs (fun ii => rq + 1 + ii) 16)))))) := by rw [e_3]; exact mp_keep h_rq h_so (by decide)
  have h_rp : S1 rp = some (25, .inl ((g 0), 16, .inl (fun j => nI (pv j)))) := by rw [e_3]; exact mp_keep h_rp h_so (by decide)
  have h_oo : S1 oo = some (TO, .inr (1, [.ref oa, .int d0])) := by rw [e_3]; exact mp_keep h_oo h_so (by omega)
  have h_oa : S1 oa = some ((TO + 1), .inl ((g 0), 33, .inl (fun j => nI (c0 j).val))) := by rw [e_3]; exact mp_keep h_oa h_so (by omega)
  have h_so : S1 so = some (23, .inr (8, [.ref rq, .ref rp, .int (nI 0)])) := by rw [e_3]; exact mp_us _ _ _
  have hP := rS_kept hP (S1 := S1) (fun b t9 e9 hb9 h1 h2 => by rw [e_3]; exact mp_un (mp_ne hb9 h_so_o (by omega)))
  have hR := rS_kept hR (S1 := S1) (fun b t9 e9 hb9 h1 h2 => by rw [e_3]; exact mp_un (mp_ne hb9 h_so_o (by omega)))
  have hfr : ∀ b t e9, S b = some (t, e9) → (t ≠ 20) → (t ≠ 21) → (t ≠ 22) → (t ≠ 23) → (t ≠ 25) → (t < 470 ∨ 486 ≤ t) → (t ≠ TO) → (t ≠ TO + 1) → S1 b = some (t, e9) := fun b t e9 h9 k0 k1 k2 k3 k4 k5 k6 k7 => by rw [e_3]; exact mp_keep (hfr b t e9 h9 k0 k1 k2 k3 k4 k5 k6 k7) h_so_o (by omega)
  refine lv_aload_n hx hb d_Q_findLeast_8 rfl (lv_at hl 0 rfl) ?_
  refine lv_aload_n hx hb d_Q_findLeast_9 rfl (lv_at hl 0 rfl) ?_
  refine mp_get (C := R_Q) (T := F_Q) (N := 12) (v := .ref fa) hx hb hg i_Q hown hK.va hI h_qo rfl 7 (by decide) (hg _ q_228) (fun _ h9 => h9) rfl d_Q_findLeast_10 ?_
  refine mp_callv hI (va_runV (As := [.ref fa]) (rest := []) ⟨hx, hb, hml, hown, hg⟩ (c_Q_setOne l D g S1 _ qo fa 20 s9 q0 q1 (.ref pr) q4 q5 q6 (.ref fa) (.ref nx) (.ref re) (.ref so) q11 Fa h_qo h_fa (by decide) hs tF) ⟨(callB_of 1 hg (wd_goodG q_393) rfl rfl rfl (hg _ q_21) (hg _ q_390) (by decide +kernel) ⟨Nat.le_of_ble_eq_true rfl, Nat.le_of_ble_eq_true rfl⟩), hg _ q_392, hg _ qs_6⟩ (mp_preV (C := R_Q) (T := F_Q) hI hK h_qo rfl [.ref fa]) rfl rfl hl.1 rfl (lv_room (Nat.le_of_ble_eq_true rfl)) d_Q_findLeast_13 ⟨Nat.le_of_ble_eq_true rfl, Nat.le_of_ble_eq_true rfl⟩) (fun S4 H5 locs p_6 hI => ?_)
  obtain ⟨q_fa, fq⟩ := p_6
  have h_qo : S4 qo = some (14, .inr (4, [q0, q1, .int (nI s9), .ref pr, q4, q5, q6, .ref fa, .ref nx, .ref re, .ref so, q11])) := fq qo _ _ h_qo (by omega)
  have h_pr : S4 pr = some (16, .inl ((g 1), 48, .inr (.inr (.inr (.inr (rfs (fun ii => pr + 1 + ii) 48)))))) := fq pr _ _ h_pr (by omega)
  have h_nx : S4 nx = some (21, .inl ((g 0), 16, .inl (fun j => nI (Nx j).val))) := fq nx _ _ h_nx (by omega)
  have h_re : S4 re = some (22, .inl ((g 0), 33, .inl (fun j => nI (Rl j).val))) := fq re _ _ h_re (by omega)
  have h_so : S4 so = some (23, .inr (8, [.ref rq, .ref rp, .int (nI 0)])) := fq so _ _ h_so (by omega)
  have h_rq : S4 rq = some (24, .inl ((g 1), 16, .inr (.inr (.inr (.inr (rfs (fun ii => rq + 1 + ii) 16)))))) := fq rq _ _ h_rq (by omega)
  have h_rp : S4 rp = some (25, .inl ((g 0), 16, .inl (fun j => nI (pv j)))) := fq rp _ _ h_rp (by omega)
  have h_oo : S4 oo = some (TO, .inr (1, [.ref oa, .int d0])) := fq oo _ _ h_oo (by omega)
  have h_oa : S4 oa = some ((TO + 1), .inl ((g 0), 33, .inl (fun j => nI (c0 j).val))) := fq oa _ _ h_oa (by omega)
  have hfr : ∀ b t e9, S b = some (t, e9) → (t ≠ 20) → (t ≠ 21) → (t ≠ 22) → (t ≠ 23) → (t ≠ 25) → (t < 470 ∨ 486 ≤ t) → (t ≠ TO) → (t ≠ TO + 1) → S4 b = some (t, e9) := fun b t e9 h9 k0 k1 k2 k3 k4 k5 k6 k7 => by have h8 := hfr b t e9 h9 k0 k1 k2 k3 k4 k5 k6 k7; exact fq b _ _ h8 (by omega)
  have hP := rS_kept hP (S1 := S4) (fun b t9 e9 hb9 h1 h2 => by have h8 : S4 b = some (t9, e9) := fq b _ _ hb9 (by omega); rw [h8, hb9])
  have hR := rS_kept hR (S1 := S4) (fun b t9 e9 hb9 h1 h2 => by have h8 : S4 b = some (t9, e9) := fq b _ _ hb9 (by omega); rw [h8, hb9])
  have h_fa := q_fa
  refine lv_iconst (v := nI 0) hx hb d_Q_findLeast_16 (by decide) ?_
  refine lv_istore_n (lv' := [(3, .int (nI 0)), (0, .ref qo), (1, .int (nI l9)), (2, .ref oo)]) hx hb d_Q_findLeast_17 rfl hl (by decide) rfl (fun ls hl => ?_)
  refine lp_Q_least (B := S) (qo := qo) (pr := pr) (fa := fa) (nx := nx) (re := re) (so := so) (rq := rq) (rp := rp) (oo := oo) (oa := oa) (TO := TO) (s9 := s9) (l9 := l9) (q0 := q0) (q1 := q1) (q4 := q4) (q5 := q5) (q6 := q6) (q11 := q11) (d0 := d0) (PT := PT) (c0 := c0) hx hb hml hg hown hK (Nat.le_of_ble_eq_true rfl) (Nat.le_of_ble_eq_true rfl) (Nat.le_of_ble_eq_true rfl) (Nat.le_of_ble_eq_true rfl) hTO hs hl9 hc0 (s9 + 1) 0 (sO s9) Nx Rl ρ pv S4 H5 _ ls (by omega) (fun _ _ => rfl) (fun r hr => absurd hr (Nat.not_lt_zero r)) (fun m hm => absurd hm (Nat.not_lt_zero m)) (sO_t s9) tN tR tρ h_qo h_pr h_fa h_nx h_re h_so h_rq h_rp h_oo h_oa hP hR hfr hI (lv_sub hl [0, 3, 2, 1] rfl) (fun Fa Nx Rl ρ pv S8 H9 locs ls hF hrow hall tF tN tR tρ j_qo j_pr j_fa j_nx j_re j_so j_rq j_rp j_oo j_oa hP hR hfr hI hl => ?_) (fun i Fa Nx Rl ρ pv S9 H9 locs ls hD tF tN tW tρ j_qo j_pr j_fa j_nx j_re j_so j_rq j_rp j_oo j_oa hP hR hfr hI hl => ?_)
  · obtain ⟨D9, d1, d2, d3⟩ := ls_deg pig s9 (vqN PT l9 s9)
    exact absurd d2 (Nat.ne_of_lt (hall D9 (by omega)))
  · refine mp_vret hx hb hr hlocks hI (Nat.le_of_ble_eq_true rfl) (Nat.le_of_ble_eq_true rfl) ?_ d_Q_findLeast_90
    exact ⟨i, _, Fa, Nx, _, ρ, pv, hD, j_oo, j_oa, j_fa, j_nx, j_re, j_so, j_rp, hR, tF, tN, tW, tρ, hfr⟩
