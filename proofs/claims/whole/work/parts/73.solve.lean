/-! The class: solve. -/
theorem rS_upN {g : Nat → ClassId} {T0 n w : Nat} {ro : Nat → Nat} {ρ : Nat → Nat → Nat} {S S1 : mp_M} {i : Nat} {x : Nat → Nat} (h : rS g T0 n w ro (fun i j => nI (ρ i j)) S) (h1 : S1 (ro i) = some (T0 + i, .inl (g 0, w, .inl (fun j => nI (x j)))))
    (fr : ∀ j, j < n → j ≠ i → ∀ e9, S (ro j) = some (T0 + j, e9) → S1 (ro j) = some (T0 + j, e9)) : rS g T0 n w ro (fun a j => nI (va_up ρ i x a j)) S1 := by
  intro j hj
  by_cases e : j = i
  · subst e
    have : (fun q => nI (va_up ρ j x j q)) = fun q => nI (x q) := by funext q; rw [mp_us]
    show S1 (ro j) = some (T0 + j, .inl (g 0, w, .inl (fun q => nI (va_up ρ j x j q))))
    rw [this]; exact h1
  · have : (fun q => nI (va_up ρ i x j q)) = fun q => nI (ρ j q) := by funext q; rw [mp_un e]
    show S1 (ro j) = some (T0 + j, .inl (g 0, w, .inl (fun q => nI (va_up ρ i x j q))))
    rw [this]; exact fr j hj e _ (h j hj)
def roB (n : Nat) (h : Nat → m3) (z : Nat → Nat) (mo : Nat → Nat → m3) (co : Nat → Nat → fF) (nl : Nat) (r s1 zc1 : Int32) (kQ : Nat → Nat) (dl : Nat → Int32) (CL ZZ : Nat → Nat → fF) (MQ : Nat → Nat) : Prop :=
  (r = -1 ∧ ¬ bas n h z mo co) ∨ (r = -2 ∧ bas n h z mo co ∧ ¬ finP n h nl) ∨ (r = -3 ∧ bas n h z mo co ∧ finP n h nl ∧ ∃ Q9 lf, colS (lfP n h nl) Q9 17 lf) ∨
  (bas n h z mo co ∧ finP n h nl ∧ ∃ (s9 zc : Nat) (lf : Nat → m3) (DG : Nat → Nat), r = nI zc ∧ s1 = nI s9 ∧ zc1 = nI zc ∧ (∀ k, k < s9 → kQ k = kT (lf k)) ∧ (∀ l, l < nl → dl l = nI (DG l)) ∧ rnC n h z mo co nl s9 lf DG CL zc ZZ ∧ ∀ k, k < zc → muB n h z mo co nl s9 lf (ZZ k) (MQ k))
def lrB (s : Nat) (PT : Nat → Nat → fF) (i : Nat) (DG : Nat → Nat) (dl : Nat → Int32) (CL : Nat → Nat → fF) (RC : Nat → Nat) (RT : Nat → Nat → Nat) : Prop := ∀ l, l < i → dgP s (vqN PT l s) (DG l) ∧ dl l = nI (DG l) ∧ CL l = asg (DG l) (rwN s (vqN PT l s) (DG l)) ∧ RC l ≤ 16 ∧ rtS (RC l) (RT l) (phF (CL l))
theorem lrB_up {s : Nat} {PT : Nat → Nat → fF} {i : Nat} {DG : Nat → Nat} {dl : Nat → Int32} {CL : Nat → Nat → fF} {RC : Nat → Nat} {RT : Nat → Nat → Nat} (H : lrB s PT i DG dl CL RC RT) {D9 n9 : Nat} {IT : Nat → Nat} (h1 : dgP s (vqN PT i s) D9) (h2 : n9 ≤ 16) (h3 : rtS n9 IT (phF (asg D9 (rwN s (vqN PT i s) D9)))) : lrB s PT (i + 1) (va_up DG i D9) (va_up dl i (nI D9)) (va_up CL i (asg D9 (rwN s (vqN PT i s) D9))) (va_up RC i n9) (va_up RT i IT) := by
  intro l hl
  by_cases e : l = i
  · subst e
    rw [mp_us, mp_us, mp_us, mp_us, mp_us]
    exact ⟨h1, rfl, rfl, h2, h3⟩
  · rw [mp_un e, mp_un e, mp_un e, mp_un e, mp_un e]
    exact H l (by omega)
theorem asg_ol {s D9 : Nat} (hs : s ≤ 16) (hD : D9 ≤ 16) (v : Nat → Nat → fF) : olP (D9 + 1) (asg D9 (rwN s v D9)) ∧ asg D9 (rwN s v D9) D9 = 1 := by
  have h1 : asg D9 (rwN s v D9) D9 = 1 := by unfold asg; rw [if_pos (Nat.le_refl _), rw_top hs]
  refine ⟨⟨by omega, fun k hk => by unfold asg; rw [if_neg (by omega)], fun _ => ?_⟩, h1⟩
  rw [show D9 + 1 - 1 = D9 by omega, h1]; decide
theorem ph_pe {s D9 : Nat} (hD : D9 ≤ 16) (v : Nat → Nat → fF) (a : fF) : pe (D9 + 1) (asg D9 (rwN s v D9)) a = phF (asg D9 (rwN s v D9)) a := by
  unfold phF
  exact (pe_ol (fun k hk => by unfold asg; rw [if_neg (by omega)]) (by omega) a).symm
theorem zz_B {n : Nat} {h : Nat → m3} {z : Nat → Nat} {mo : Nat → Nat → m3} {co : Nat → Nat → fF} (hL : mL n h z mo co) {nl s : Nat} {lf : Nat → m3} (hF : lfS n h z mo (InL nl) s lf) (hs : s ≤ 16) (hn1 : 1 ≤ nl) {PT : Nat → Nat → fF} {DG : Nat → Nat} {dl : Nat → Int32} {CL : Nat → Nat → fF} {RC : Nat → Nat} {RT : Nat → Nat → Nat} (H : lrB s PT nl DG dl CL RC RT) (ho : ∀ l, nl ≤ l → l < 3 → RC l = 1 ∧ RT l 0 = 0) :
    (∀ l, l < 3 → RC l ≤ 16) ∧ (∀ l, l < 3 → ∀ i, i < RC l → RT l i < 32003) ∧ (∀ Q n9 ZZ, Q ≤ RC 0 * RC 1 * RC 2 → zkS (zqP n z mo co RT (RC 1) (RC 2)) (zqX RT (RC 1) (RC 2)) Q n9 ZZ → n9 ≤ 16) ∧ (∀ l, l < nl → rtS (RC l) (RT l) (fun a => pe (DG l + 1) (CL l) a)) := by
  have r2 : ∀ l, l < 3 → ∀ i, i < RC l → RT l i < 32003 := fun l hl i hi => by
    by_cases e : l < nl
    · exact (((H l e).2.2.2.2.2 _).mp ⟨i, hi, rfl⟩).1
    · obtain ⟨a1, a2⟩ := ho l (by omega) hl
      obtain rfl : i = 0 := by omega
      rw [a2]; decide
  refine ⟨fun l hl => ?_, r2, fun Q n9 ZZ hQ hz => Nat.le_trans (zb_16 hL hF hn1 (fun l hl i j hij hj => ?_) r2 (fun l hl h3 => (ho l hl h3).1) Q n9 ZZ hQ hz) hs, fun l hl => ?_⟩
  · by_cases e : l < nl
    · exact (H l e).2.2.2.1
    · rw [(ho l (by omega) hl).1]; decide
  · by_cases e : l < nl
    · exact (H l e).2.2.2.2.1 i j hij hj
    · have := (ho l (by omega) hl).1; omega
  · obtain ⟨a1, a2, a3, a4, a5⟩ := H l hl
    have := a1.1
    refine rtS_cg (fun _ _ => rfl) (fun a => ?_) a5
    rw [a3]; exact ph_pe (by omega) _ a
theorem rn_B {n : Nat} {h : Nat → m3} {z : Nat → Nat} {mo : Nat → Nat → m3} {co : Nat → Nat → fF} {nl s : Nat} {lq : Nat → Nat} (hs : s ≤ 16) (hc : colS (lfP n h nl) (tr3 28) s lq) {PT : Nat → Nat → fF} (hpt : ptI n h z mo co s (fun k => Ep (lq k)) nl 0 PT) {DG : Nat → Nat} {dl : Nat → Int32} {CL : Nat → Nat → fF} {RC : Nat → Nat} {RT : Nat → Nat → Nat} (H : lrB s PT nl DG dl CL RC RT) (ho : ∀ l, nl ≤ l → l < 3 → RC l = 1 ∧ RT l 0 = 0) (hr : ∀ l, l < nl → rtS (RC l) (RT l) (fun a => pe (DG l + 1) (CL l) a)) {zc : Nat} {ZZ : Nat → Nat → fF} (hz : zkS (zqP n z mo co RT (RC 1) (RC 2)) (zqX RT (RC 1) (RC 2)) (RC 0 * RC 1 * RC 2) zc ZZ) (hzc : zc ≤ 16) : rnC n h z mo co nl s (fun k => Ep (lq k)) DG CL zc ZZ :=
  ⟨hs, ⟨lq, hc, fun _ _ => rfl⟩, fun l hl => ⟨dgP_cg (vS_N hpt hl) (H l hl).1, fun k hk => by rw [(H l hl).2.2.1]; unfold asg; rw [if_pos (by omega), rw_cg (vS_N hpt hl)]⟩, hzc, RT, RC, hr, ho, hz⟩
theorem mu_of {n : Nat} {h : Nat → m3} {z : Nat → Nat} {mo : Nat → Nat → m3} {co : Nat → Nat → fF} {nl s : Nat} {lf : Nat → m3} {PT : Nat → Nat → fF} (H : ptI n h z mo co s lf nl 0 PT) {ζ : Nat → fF} {n1 : Nat} {ρ1 : Nat → Nat → fF} {p1 : Nat → Nat} (hsp : spn s n1 ρ1 p1) (he : ∀ bb : Nat → fF, (∀ a, a < n1 → sm s (fun i => bb i * ρ1 a i) = 0) ↔ (∀ l, l < nl → ∀ r, r < s → sm s (fun i => bb i * itr (mvt s (mzt (ptM PT l) (ζ l))) s (eK r) i) = 0)) : muB n h z mo co nl s lf ζ (s - n1) := by
  refine ⟨n1, ρ1, p1, hsp, fun bb => ?_, rfl⟩
  rw [he bb]
  constructor
  · intro q l hl k hk; rw [← pt_mv H hl]; exact q l hl k hk
  · intro q l hl k hk; rw [pt_mv H hl]; exact q l hl k hk
theorem lsB_e9 {n : Nat} {h : Nat → m3} {z : Nat → Nat} {mo : Nat → Nat → m3} {co : Nat → Nat → fF} {mcap mz : Nat → Nat} {mkf mnf : Nat → Nat → Int32} {hf : Nat → Int32} (H : lsB n h z mo co mcap mz mkf mnf hf) : ∀ i, i < n → e9 (h i) := fun i hi => (H.2.2 i hi).2.2.2.2.1
theorem hIn_h {n : Nat} {h : Nat → m3} {z : Nat → Nat} {mo : Nat → Nat → m3} {co : Nat → Nat → fF} {nl : Nat} (hL : mL n h z mo co) (hIn : ∀ i, i < n → ∀ k, k < z i → InL nl (mo i k)) : ∀ i, i < n → InL nl (h i) := fun i hi => by
  obtain ⟨h1, h2, _⟩ := hL i hi
  rw [← h2]; exact hIn i hi 0 h1
theorem kE_kT (q : Nat) : kE q = kT (Ep q) := rfl
theorem one_up {nl i : Nat} {RC : Nat → Nat} {RT : Nat → Nat → Nat} (ho : ∀ l, nl ≤ l → l < 3 → RC l = 1 ∧ RT l 0 = 0) (hi : i < nl) (n9 : Nat) (IT : Nat → Nat) : ∀ l, nl ≤ l → l < 3 → va_up RC i n9 l = 1 ∧ va_up RT i IT l 0 = 0 := fun l h1 h2 => by
  rw [mp_un (by omega), mp_un (by omega)]; exact ho l h1 h2
theorem trn_up {N : Nat} {CL : Nat → Nat → fF} (H : ∀ i, trn N (CL i)) {i : Nat} {v : Nat → fF} (hv : trn N v) : ∀ j, trn N (va_up CL i v j) := fun j => by
  by_cases e : j = i
  · rw [e, mp_us]; exact hv
  · rw [mp_un e]; exact H j
theorem xl_N {nl l : Nat} {u : m3} (hl : l < nl) (hnl : nl ≤ 3) (hu : u.1 ≤ 8 ∧ u.2.1 ≤ 8 ∧ u.2.2 ≤ 8) (hI : InL nl u) : pl3 (ad3 (xlT l) u) < tr3 (9 * nl + 1) := by
  have h1 := InL_xl hl hI
  have h2 := xl_9 (l := l) hu
  exact pl_lt (by unfold InL at h1; omega)
theorem bas_B {n : Nat} {h : Nat → m3} {z : Nat → Nat} {mo : Nat → Nat → m3} {co : Nat → Nat → fF} (hL : mL n h z mo co) (hb : bas n h z mo co) : ∀ j i t, i < n → Ws z mo co (nu n h z mo co j) t i = 0 :=
  buch2 hL (fun i j hij hj hs => hb i j hij hj hs)

theorem d_V_solve_16 : decode b_V_solve 16 = .ok (.iconst (-1), 1) := by decide +kernel
theorem d_V_solve_17 : decode b_V_solve 17 = .ok (.ireturn, 1) := by decide +kernel
theorem d_V_solve_32 : decode b_V_solve 32 = .ok (.aload_n 0, 1) := by decide +kernel
theorem d_V_solve_33 : decode b_V_solve 33 = .ok (.getfield 62, 3) := by decide +kernel
theorem d_V_solve_36 : decode b_V_solve 36 = .ok (.aload_n 1, 1) := by decide +kernel
theorem d_V_solve_37 : decode b_V_solve 37 = .ok (.aload_n 0, 1) := by decide +kernel
theorem d_V_solve_38 : decode b_V_solve 38 = .ok (.getfield 55, 3) := by decide +kernel
theorem d_V_solve_41 : decode b_V_solve 41 = .ok (.invokevirtual 80, 3) := by decide +kernel
theorem d_V_solve_44 : decode b_V_solve 44 = .ok (.ifCond .ne 6, 3) := by decide +kernel
theorem d_V_solve_47 : decode b_V_solve 47 = .ok (.bipush (-3), 2) := by decide +kernel
theorem d_V_solve_49 : decode b_V_solve 49 = .ok (.ireturn, 1) := by decide +kernel
theorem d_V_solve_50 : decode b_V_solve 50 = .ok (.aload_n 0, 1) := by decide +kernel
theorem d_V_solve_51 : decode b_V_solve 51 = .ok (.getfield 62, 3) := by decide +kernel
theorem d_V_solve_54 : decode b_V_solve 54 = .ok (.aload_n 1, 1) := by decide +kernel
theorem d_V_solve_55 : decode b_V_solve 55 = .ok (.aload_n 0, 1) := by decide +kernel
theorem d_V_solve_56 : decode b_V_solve 56 = .ok (.getfield 55, 3) := by decide +kernel
theorem d_V_solve_59 : decode b_V_solve 59 = .ok (.invokevirtual 84, 3) := by decide +kernel
theorem d_V_solve_62 : decode b_V_solve 62 = .ok (.iconst 0, 1) := by decide +kernel
theorem d_V_solve_63 : decode b_V_solve 63 = .ok (.istore_n 2, 1) := by decide +kernel
theorem d_V_solve_64 : decode b_V_solve 64 = .ok (.iload_n 2, 1) := by decide +kernel
theorem d_V_solve_65 : decode b_V_solve 65 = .ok (.aload_n 0, 1) := by decide +kernel
theorem d_V_solve_66 : decode b_V_solve 66 = .ok (.getfield 46, 3) := by decide +kernel
theorem d_V_solve_69 : decode b_V_solve 69 = .ok (.if_icmp .ge 48, 3) := by decide +kernel
theorem d_V_solve_72 : decode b_V_solve 72 = .ok (.aload_n 0, 1) := by decide +kernel
theorem d_V_solve_73 : decode b_V_solve 73 = .ok (.getfield 62, 3) := by decide +kernel
theorem d_V_solve_76 : decode b_V_solve 76 = .ok (.iload_n 2, 1) := by decide +kernel
theorem d_V_solve_77 : decode b_V_solve 77 = .ok (.aload_n 0, 1) := by decide +kernel
theorem d_V_solve_78 : decode b_V_solve 78 = .ok (.getfield 20, 3) := by decide +kernel
theorem d_V_solve_81 : decode b_V_solve 81 = .ok (.iload_n 2, 1) := by decide +kernel
theorem d_V_solve_82 : decode b_V_solve 82 = .ok (.aaload, 1) := by decide +kernel
theorem d_V_solve_83 : decode b_V_solve 83 = .ok (.invokevirtual 88, 3) := by decide +kernel
theorem d_V_solve_86 : decode b_V_solve 86 = .ok (.aload_n 0, 1) := by decide +kernel
theorem d_V_solve_87 : decode b_V_solve 87 = .ok (.getfield 29, 3) := by decide +kernel
theorem d_V_solve_90 : decode b_V_solve 90 = .ok (.iload_n 2, 1) := by decide +kernel
theorem d_V_solve_91 : decode b_V_solve 91 = .ok (.aload_n 0, 1) := by decide +kernel
theorem d_V_solve_92 : decode b_V_solve 92 = .ok (.getfield 12, 3) := by decide +kernel
theorem d_V_solve_95 : decode b_V_solve 95 = .ok (.aload_n 0, 1) := by decide +kernel
theorem d_V_solve_96 : decode b_V_solve 96 = .ok (.getfield 20, 3) := by decide +kernel
theorem d_V_solve_99 : decode b_V_solve 99 = .ok (.iload_n 2, 1) := by decide +kernel
theorem d_V_solve_100 : decode b_V_solve 100 = .ok (.aaload, 1) := by decide +kernel
theorem d_V_solve_101 : decode b_V_solve 101 = .ok (.aload_n 0, 1) := by decide +kernel
theorem d_V_solve_102 : decode b_V_solve 102 = .ok (.getfield 26, 3) := by decide +kernel
theorem d_V_solve_105 : decode b_V_solve 105 = .ok (.iload_n 2, 1) := by decide +kernel
theorem d_V_solve_106 : decode b_V_solve 106 = .ok (.aaload, 1) := by decide +kernel
theorem d_V_solve_107 : decode b_V_solve 107 = .ok (.invokevirtual 92, 3) := by decide +kernel
theorem d_V_solve_110 : decode b_V_solve 110 = .ok (.iastore, 1) := by decide +kernel
theorem d_V_solve_111 : decode b_V_solve 111 = .ok (.iinc 2 1, 3) := by decide +kernel
theorem d_V_solve_114 : decode b_V_solve 114 = .ok (.goto (-50), 3) := by decide +kernel
theorem d_V_solve_117 : decode b_V_solve 117 = .ok (.aload_n 0, 1) := by decide +kernel
theorem d_V_solve_118 : decode b_V_solve 118 = .ok (.aload_n 1, 1) := by decide +kernel
theorem d_V_solve_119 : decode b_V_solve 119 = .ok (.invokevirtual 96, 3) := by decide +kernel
theorem d_V_solve_122 : decode b_V_solve 122 = .ok (.iconst 0, 1) := by decide +kernel
theorem d_V_solve_123 : decode b_V_solve 123 = .ok (.istore_n 2, 1) := by decide +kernel
theorem d_V_solve_124 : decode b_V_solve 124 = .ok (.iload_n 2, 1) := by decide +kernel
theorem d_V_solve_125 : decode b_V_solve 125 = .ok (.aload_n 0, 1) := by decide +kernel
theorem d_V_solve_126 : decode b_V_solve 126 = .ok (.getfield 67, 3) := by decide +kernel
theorem d_V_solve_129 : decode b_V_solve 129 = .ok (.if_icmp .ge 28, 3) := by decide +kernel
theorem d_V_solve_132 : decode b_V_solve 132 = .ok (.aload_n 0, 1) := by decide +kernel
theorem d_V_solve_133 : decode b_V_solve 133 = .ok (.getfield 36, 3) := by decide +kernel
theorem d_V_solve_136 : decode b_V_solve 136 = .ok (.iload_n 2, 1) := by decide +kernel
theorem d_V_solve_137 : decode b_V_solve 137 = .ok (.aload_n 0, 1) := by decide +kernel
theorem d_V_solve_138 : decode b_V_solve 138 = .ok (.getfield 62, 3) := by decide +kernel
theorem d_V_solve_141 : decode b_V_solve 141 = .ok (.aload_n 0, 1) := by decide +kernel
theorem d_V_solve_142 : decode b_V_solve 142 = .ok (.getfield 33, 3) := by decide +kernel
theorem d_V_solve_145 : decode b_V_solve 145 = .ok (.iload_n 2, 1) := by decide +kernel
theorem d_V_solve_146 : decode b_V_solve 146 = .ok (.aaload, 1) := by decide +kernel
theorem d_V_solve_147 : decode b_V_solve 147 = .ok (.invokevirtual 100, 3) := by decide +kernel
theorem d_V_solve_150 : decode b_V_solve 150 = .ok (.iastore, 1) := by decide +kernel
theorem d_V_solve_151 : decode b_V_solve 151 = .ok (.iinc 2 1, 3) := by decide +kernel
theorem d_V_solve_154 : decode b_V_solve 154 = .ok (.goto (-30), 3) := by decide +kernel
theorem d_V_solve_157 : decode b_V_solve 157 = .ok (.aload_n 0, 1) := by decide +kernel
theorem d_V_solve_158 : decode b_V_solve 158 = .ok (.getfield 67, 3) := by decide +kernel
theorem d_V_solve_161 : decode b_V_solve 161 = .ok (.ireturn, 1) := by decide +kernel
set_option maxHeartbeats 4000000 in
set_option maxRecDepth 100000 in
theorem lp_V_so1 {p : Program} {l : Launch} {e : Env} {R : Room} {s : State} {m : MethodId} {args : Array Value} {below : List Frame} {meth : Method} {c : Code} {Q : State → Prop} {D : mp_G} {g : Nat → ClassId} {A : Nat → Prop} {cells slots : Nat} (hx : p.tables.exec = Jvm.exec) (hb : c.code = b_V_solve) (hml : c.maxLocals = 3) (hg : ∀ w ∈ gw, w.before args s = true) (hown : s.vm.findClass R_V = some m.cls) (hK : mp_K D classes (tys g) s) (hRf : 6 ≤ R.frames) (hRl : 139 ≤ R.locals) (hRc : cells ≤ R.cells) (hRs : slots ≤ R.slots) {B : mp_M} {vo d9 ra ka qo ky pr lw ll mu fa nx re so1 rq1 rp1 so2 rq2 rp2 zo fs lz rr rc za mu9 po pn pp on na ot ta lo ma hd n nl N9 : Nat} {fe fz le la : Nat → Nat} {kp : Nat → Int32} {me mk mn mcap mz : Nat → Nat} {mkf mnf : Nat → Nat → Int32} {hf : Nat → Int32} {h : Nat → m3} {z : Nat → Nat} {mo : Nat → Nat → m3} {co : Nat → Nat → fF} {s9 : Nat} {kQ : Nat → Nat} {PT : Nat → Nat → fF} {lwf : Nat → Nat} {llf : Nat → Nat} {MU : Nat → Nat → fF} {z2 : Int32} {ρ2 : Nat → Nat → fF} {p2 : Nat → Nat} {ZZ : Nat → Nat → fF} {MQ : Nat → Nat} {X : Nat → fF} {W9 : Nat → Nat → fF} (hB : lsB n h z mo co mcap mz mkf mnf hf) (hnl : nl ≤ 3) (hn1 : 1 ≤ nl) (hs : s9 ≤ 16) : ∀ (k : Nat) (i : Nat) (DG : Nat → Nat) (dl : Nat → Int32) (CL : Nat → Nat → fF) (RT : Nat → Nat → Nat) (RC : Nat → Nat) (Fa : Nat → fF) (Nx : Nat → fF) (Re : Nat → fF) (z1 : Int32) (ρ1 : Nat → Nat → fF) (p1 : Nat → Nat) (z3 : Int32) (dgE : Nat → Int32) (CF : Nat → Nat → fF) (dn : Int32) (cn : Nat → fF) (dt : Int32) (ct : Nat → fF) (S : mp_M) (H : Heap) (locs : List Loc) (ls : Array Slot), i + k = nl → (lrB s9 PT i DG dl CL RC RT) → (∀ l, nl ≤ l → l < 3 → RC l = 1 ∧ RT l 0 = 0) → (trn 16 Fa) → (trn 16 Nx) → (trn 33 Re) → (∀ r, trn 33 (ρ1 r)) → (trn 33 cn) → (trn 33 ct) → (∀ i, trn 33 (CF i)) → (∀ i, trn 33 (CL i)) → S vo = some (10, .inr (7, [.int (nI nl), .ref d9, .ref qo, .ref zo, .ref lz, .ref rr, .ref rc, .ref za, .ref mu9, .int (nI 0), .ref po])) → S d9 = some (11, .inr (5, [.ref ra, .ref ka])) → S ra = some (12, .inl ((g 0), N9, .inl (fun j => nI (zR j).val))) → S ka = some (13, .inl ((g 0), N9, .inl kp)) → S qo = some (14, .inr (4, [.int (nI nl), .ref ky, .int (nI s9), .ref pr, .ref lw, .ref ll, .ref mu, .ref fa, .ref nx, .ref re, .ref so1, .ref so2])) → S ky = some (15, .inl ((g 0), 16, .inl (fun j => nI (kQ j)))) → S pr = some (16, .inl ((g 1), 48, .inr (.inr (.inr (.inr (rfs (fun ii => pr + 1 + ii) 48)))))) → S lw = some (17, .inl ((g 0), 16, .inl (fun j => nI (lwf j)))) → S ll = some (18, .inl ((g 0), 16, .inl (fun j => nI (llf j)))) → S mu = some (19, .inl ((g 1), 16, .inr (.inr (.inr (.inr (rfs (fun ii => mu + 1 + ii) 16)))))) → S fa = some (20, .inl ((g 0), 16, .inl (fun j => nI (Fa j).val))) → S nx = some (21, .inl ((g 0), 16, .inl (fun j => nI (Nx j).val))) → S re = some (22, .inl ((g 0), 33, .inl (fun j => nI (Re j).val))) → S so1 = some (23, .inr (8, [.ref rq1, .ref rp1, .int z1])) → S rq1 = some (24, .inl ((g 1), 16, .inr (.inr (.inr (.inr (rfs (fun ii => rq1 + 1 + ii) 16)))))) → S rp1 = some (25, .inl ((g 0), 16, .inl (fun j => nI (p1 j)))) → S so2 = some (26, .inr (8, [.ref rq2, .ref rp2, .int z2])) → S rq2 = some (27, .inl ((g 1), 16, .inr (.inr (.inr (.inr (rfs (fun ii => rq2 + 1 + ii) 16)))))) → S rp2 = some (28, .inl ((g 0), 16, .inl (fun j => nI (p2 j)))) → S zo = some (30, .inr (6, [.ref fs, .int z3, .ref on, .ref ot])) → S fs = some (31, .inl ((g 3), 16, .inr (.inr (.inr (.inr (rfs fe 16)))))) → S lz = some (32, .inl ((g 3), 3, .inr (.inr (.inr (.inr (rfs le 3)))))) → S rr = some (33, .inl ((g 1), 3, .inr (.inr (.inr (.inr (rfs (fun ii => rr + 1 + ii) 3)))))) → S rc = some (34, .inl ((g 0), 3, .inl (fun j => nI (RC j)))) → S za = some (35, .inl ((g 1), 16, .inr (.inr (.inr (.inr (rfs (fun ii => za + 1 + ii) 16)))))) → S mu9 = some (36, .inl ((g 0), 16, .inl (fun j => nI (MQ j)))) → S po = some (37, .inr (2, [.ref pn, .ref pp])) → S pn = some (38, .inl ((g 0), 3, .inl (fun j => nI (X j).val))) → S pp = some (39, .inl ((g 1), 3, .inr (.inr (.inr (.inr (rfs (fun ii => pp + 1 + ii) 3)))))) → S on = some (560, .inr (1, [.ref na, .int dn])) → S na = some ((560 + 1), .inl ((g 0), 33, .inl (fun j => nI (cn j).val))) → S ot = some (562, .inr (1, [.ref ta, .int dt])) → S ta = some ((562 + 1), .inl ((g 0), 33, .inl (fun j => nI (ct j).val))) → S lo = some (2, .inr (9, [.ref ma, .ref hd, .int (nI n)])) → S ma = some (4, .inl ((g 2), 12, .inr (.inr (.inr (.inr (rfs me 12)))))) → S hd = some (5, .inl ((g 0), 12, .inl hf)) → (rS g 400 48 16 (fun ii => pr + 1 + ii) (fun ii j => nI (PT ii j).val) S) → (rS g 450 16 16 (fun ii => mu + 1 + ii) (fun ii j => nI (MU ii j).val) S) → (rS g 470 16 33 (fun ii => rq1 + 1 + ii) (fun ii j => nI (ρ1 ii j).val) S) → (rS g 490 16 16 (fun ii => rq2 + 1 + ii) (fun ii j => nI (ρ2 ii j).val) S) → (oS g 520 16 fe fz dgE (fun ii j => nI (CF ii j).val) S) → (oS g 570 3 le la dl (fun ii j => nI (CL ii j).val) S) → (rS g 580 3 16 (fun ii => rr + 1 + ii) (fun ii j => nI (RT ii j)) S) → (rS g 590 16 3 (fun ii => za + 1 + ii) (fun ii j => nI (ZZ ii j).val) S) → (rS g 610 3 10 (fun ii => pp + 1 + ii) (fun ii j => nI (W9 ii j).val) S) → (yS g 300 12 me mk mn mcap mz mkf mnf S) → (∀ b t e9, B b = some (t, e9) → ((t < 10 ∨ 40 ≤ t)) → ((t < 400 ∨ 700 ≤ t)) → S b = some (t, e9)) → mp_I D classes A s.heap S H locs → lv_has ls 3 [(2, .int (nI i)), (1, .ref lo), (0, .ref vo)] → (∀ (DG : Nat → Nat) (dl : Nat → Int32) (CL : Nat → Nat → fF) (RT : Nat → Nat → Nat) (RC : Nat → Nat) (Fa : Nat → fF) (Nx : Nat → fF) (Re : Nat → fF) (z1 : Int32) (ρ1 : Nat → Nat → fF) (p1 : Nat → Nat) (z3 : Int32) (dgE : Nat → Int32) (CF : Nat → Nat → fF) (dn : Int32) (cn : Nat → fF) (dt : Int32) (ct : Nat → fF) (S : mp_M) (H : Heap) (locs : List Loc) (ls : Array Slot), (lrB s9 PT nl DG dl CL RC RT) → (∀ l, nl ≤ l → l < 3 → RC l = 1 ∧ RT l 0 = 0) → (trn 16 Fa) → (trn 16 Nx) → (trn 33 Re) → (∀ r, trn 33 (ρ1 r)) → (trn 33 cn) → (trn 33 ct) → (∀ nl, trn 33 (CF nl)) → (∀ nl, trn 33 (CL nl)) → S vo = some (10, .inr (7, [.int (nI nl), .ref d9, .ref qo, .ref zo, .ref lz, .ref rr, .ref rc, .ref za, .ref mu9, .int (nI 0), .ref po])) → S d9 = some (11, .inr (5, [.ref ra, .ref ka])) → S ra = some (12, .inl ((g 0), N9, .inl (fun j => nI (zR j).val))) → S ka = some (13, .inl ((g 0), N9, .inl kp)) → S qo = some (14, .inr (4, [.int (nI nl), .ref ky, .int (nI s9), .ref pr, .ref lw, .ref ll, .ref mu, .ref fa, .ref nx, .ref re, .ref so1, .ref so2])) → S ky = some (15, .inl ((g 0), 16, .inl (fun j => nI (kQ j)))) → S pr = some (16, .inl ((g 1), 48, .inr (.inr (.inr (.inr (rfs (fun ii => pr + 1 + ii) 48)))))) → S lw = some (17, .inl ((g 0), 16, .inl (fun j => nI (lwf j)))) → S ll = some (18, .inl ((g 0), 16, .inl (fun j => nI (llf j)))) → S mu = some (19, .inl ((g 1), 16, .inr (.inr (.inr (.inr (rfs (fun ii => mu + 1 + ii) 16)))))) → S fa = some (20, .inl ((g 0), 16, .inl (fun j => nI (Fa j).val))) → S nx = some (21, .inl ((g 0), 16, .inl (fun j => nI (Nx j).val))) → S re = some (22, .inl ((g 0), 33, .inl (fun j => nI (Re j).val))) → S so1 = some (23, .inr (8, [.ref rq1, .ref rp1, .int z1])) → S rq1 = some (24, .inl ((g 1), 16, .inr (.inr (.inr (.inr (rfs (fun ii => rq1 + 1 + ii) 16)))))) → S rp1 = some (25, .inl ((g 0), 16, .inl (fun j => nI (p1 j)))) → S so2 = some (26, .inr (8, [.ref rq2, .ref rp2, .int z2])) → S rq2 = some (27, .inl ((g 1), 16, .inr (.inr (.inr (.inr (rfs (fun ii => rq2 + 1 + ii) 16)))))) → S rp2 = some (28, .inl ((g 0), 16, .inl (fun j => nI (p2 j)))) → S zo = some (30, .inr (6, [.ref fs, .int z3, .ref on, .ref ot])) → S fs = some (31, .inl ((g 3), 16, .inr (.inr (.inr (.inr (rfs fe 16)))))) → S lz = some (32, .inl ((g 3), 3, .inr (.inr (.inr (.inr (rfs le 3)))))) → S rr = some (33, .inl ((g 1), 3, .inr (.inr (.inr (.inr (rfs (fun ii => rr + 1 + ii) 3)))))) → S rc = some (34, .inl ((g 0), 3, .inl (fun j => nI (RC j)))) → S za = some (35, .inl ((g 1), 16, .inr (.inr (.inr (.inr (rfs (fun ii => za + 1 + ii) 16)))))) → S mu9 = some (36, .inl ((g 0), 16, .inl (fun j => nI (MQ j)))) → S po = some (37, .inr (2, [.ref pn, .ref pp])) → S pn = some (38, .inl ((g 0), 3, .inl (fun j => nI (X j).val))) → S pp = some (39, .inl ((g 1), 3, .inr (.inr (.inr (.inr (rfs (fun ii => pp + 1 + ii) 3)))))) → S on = some (560, .inr (1, [.ref na, .int dn])) → S na = some ((560 + 1), .inl ((g 0), 33, .inl (fun j => nI (cn j).val))) → S ot = some (562, .inr (1, [.ref ta, .int dt])) → S ta = some ((562 + 1), .inl ((g 0), 33, .inl (fun j => nI (ct j).val))) → S lo = some (2, .inr (9, [.ref ma, .ref hd, .int (nI n)])) → S ma = some (4, .inl ((g 2), 12, .inr (.inr (.inr (.inr (rfs me 12)))))) → S hd = some (5, .inl ((g 0), 12, .inl hf)) → (rS g 400 48 16 (fun ii => pr + 1 + ii) (fun ii j => nI (PT ii j).val) S) → (rS g 450 16 16 (fun ii => mu + 1 + ii) (fun ii j => nI (MU ii j).val) S) → (rS g 470 16 33 (fun ii => rq1 + 1 + ii) (fun ii j => nI (ρ1 ii j).val) S) → (rS g 490 16 16 (fun ii => rq2 + 1 + ii) (fun ii j => nI (ρ2 ii j).val) S) → (oS g 520 16 fe fz dgE (fun ii j => nI (CF ii j).val) S) → (oS g 570 3 le la dl (fun ii j => nI (CL ii j).val) S) → (rS g 580 3 16 (fun ii => rr + 1 + ii) (fun ii j => nI (RT ii j)) S) → (rS g 590 16 3 (fun ii => za + 1 + ii) (fun ii j => nI (ZZ ii j).val) S) → (rS g 610 3 10 (fun ii => pp + 1 + ii) (fun ii j => nI (W9 ii j).val) S) → (yS g 300 12 me mk mn mcap mz mkf mnf S) → (∀ b t e9, B b = some (t, e9) → ((t < 10 ∨ 40 ≤ t)) → ((t < 400 ∨ 700 ≤ t)) → S b = some (t, e9)) → mp_I D classes A s.heap S H locs → lv_has ls 3 [(2, .int (nI nl)), (1, .ref lo), (0, .ref vo)] → W p l e R s m args below meth c H locs cells slots Q (F0 m 117 ls [])) → W p l e R s m args below meth c H locs cells slots Q (F0 m 64 ls []) := by
  intro k
  induction k with
  | zero =>
    intro i DG dl CL RT RC Fa Nx Re z1 ρ1 p1 z3 dgE CF dn cn dt ct S H locs ls hi hlr hone tFa tNx tRe tρ1 tcn tct tCF tCL h_vo h_d9 h_ra h_ka h_qo h_ky h_pr h_lw h_ll h_mu h_fa h_nx h_re h_so1 h_rq1 h_rp1 h_so2 h_rq2 h_rp2 h_zo h_fs h_lz h_rr h_rc h_za h_mu9 h_po h_pn h_pp h_on h_na h_ot h_ta h_lo h_ma h_hd hP hMU hR1 hR2 hE hLo hRR hZ hW hY hfr hI hl kx
    refine lv_iload_n hx hb d_V_solve_64 rfl (lv_at hl 0 rfl) ?_
    refine lv_aload_n hx hb d_V_solve_65 rfl (lv_at hl 2 rfl) ?_
    refine mp_get (C := R_V) (T := F_V) (N := 11) (v := .int (nI nl)) hx hb hg i_V hown hK.va hI h_vo rfl 0 (by decide) (hg _ q_259) (fun _ h9 => h9) rfl d_V_solve_66 ?_
    refine lv_icmp_ge (tgt := 117) hx hb d_V_solve_69 (by decide) (fun _ => ?_) (fun h9 => absurd ((nI_leI (by omega) (by omega)).mpr (by omega)) h9)
    obtain rfl : i = nl := by omega
    exact kx DG dl CL RT RC Fa Nx Re z1 ρ1 p1 z3 dgE CF dn cn dt ct S H locs ls hlr hone tFa tNx tRe tρ1 tcn tct tCF tCL h_vo h_d9 h_ra h_ka h_qo h_ky h_pr h_lw h_ll h_mu h_fa h_nx h_re h_so1 h_rq1 h_rp1 h_so2 h_rq2 h_rp2 h_zo h_fs h_lz h_rr h_rc h_za h_mu9 h_po h_pn h_pp h_on h_na h_ot h_ta h_lo h_ma h_hd hP hMU hR1 hR2 hE hLo hRR hZ hW hY hfr hI (lv_sub hl [0, 1, 2] rfl)
  | succ k ih =>
    intro i DG dl CL RT RC Fa Nx Re z1 ρ1 p1 z3 dgE CF dn cn dt ct S H locs ls hi hlr hone tFa tNx tRe tρ1 tcn tct tCF tCL h_vo h_d9 h_ra h_ka h_qo h_ky h_pr h_lw h_ll h_mu h_fa h_nx h_re h_so1 h_rq1 h_rp1 h_so2 h_rq2 h_rp2 h_zo h_fs h_lz h_rr h_rc h_za h_mu9 h_po h_pn h_pp h_on h_na h_ot h_ta h_lo h_ma h_hd hP hMU hR1 hR2 hE hLo hRR hZ hW hY hfr hI hl kx
    refine lv_iload_n hx hb d_V_solve_64 rfl (lv_at hl 0 rfl) ?_
    refine lv_aload_n hx hb d_V_solve_65 rfl (lv_at hl 2 rfl) ?_
    refine mp_get (C := R_V) (T := F_V) (N := 11) (v := .int (nI nl)) hx hb hg i_V hown hK.va hI h_vo rfl 0 (by decide) (hg _ q_259) (fun _ h9 => h9) rfl d_V_solve_66 ?_
    refine lv_icmp_ge (tgt := 117) hx hb d_V_solve_69 (by decide) (fun h9 => absurd h9 (by rw [nI_leI (by omega) (by omega)]; omega)) (fun _ => ?_)
    refine lv_aload_n hx hb d_V_solve_72 rfl (lv_at hl 2 rfl) ?_
    refine mp_get (C := R_V) (T := F_V) (N := 11) (v := .ref qo) hx hb hg i_V hown hK.va hI h_vo rfl 2 (by decide) (hg _ q_261) (fun _ h9 => h9) rfl d_V_solve_73 ?_
    refine lv_iload_n hx hb d_V_solve_76 rfl (lv_at hl 0 rfl) ?_
    refine lv_aload_n hx hb d_V_solve_77 rfl (lv_at hl 2 rfl) ?_
    refine mp_get (C := R_V) (T := F_V) (N := 11) (v := .ref lz) hx hb hg i_V hown hK.va hI h_vo rfl 4 (by decide) (hg _ q_264) (fun _ h9 => h9) rfl d_V_solve_78 ?_
    refine lv_iload_n hx hb d_V_solve_81 rfl (lv_at hl 0 rfl) ?_
    refine mp_aldq (b := le i) hx hb hK.va hI 3 h_lz rfl (vp_in_nI (show i < 3 by omega) (by omega)) (by rw [nI_clamp (by omega)]; exact rfs_at (by omega)) d_V_solve_82 ?_
    have hLoi := hLo i (by omega)
    refine mp_callv hI (va_runV (As := [.int (nI i), .ref (le i)]) (rest := []) ⟨hx, hb, hml, hown, hg⟩ (c_Q_findLeast l D g S _ qo pr fa nx re so1 rq1 rp1 (le i) (la i) (570 + 2 * i) s9 i (.int (nI nl)) (.ref ky) (.ref lw) (.ref ll) (.ref mu) (.ref so2) (dl i) PT (CL i) z1 Fa Nx Re ρ1 p1 h_qo h_pr h_fa h_nx h_re h_so1 h_rq1 h_rp1 hLoi.1 hLoi.2 hP hR1 (by omega) hs (by omega) (tCL i) tFa tNx tRe tρ1) ⟨(callB_of 2 hg (wd_goodG q_389) rfl rfl rfl (hg _ q_21) (hg _ q_386) (by decide +kernel) ⟨Nat.le_trans (Nat.le_of_ble_eq_true rfl) hRf, Nat.le_trans (Nat.le_of_ble_eq_true rfl) hRl⟩), hg _ q_387, hg _ q_388⟩ (mp_preV (C := R_Q) (T := F_Q) hI hK h_qo rfl [.int (nI i), .ref (le i)]) rfl rfl hl.1 rfl (lv_room (Nat.le_of_ble_eq_true rfl)) d_V_solve_83 ⟨by omega, by omega⟩) (fun S1 H2 locs p_3 hI => ?_)
    obtain ⟨D9, z9, Fa9, Nx9, Re9, ρ9, p9, hdeg, q_oo, q_oa, q_fa, q_nx, q_re, q_so1, q_rp1, q_R1, tFa9, tNx9, tRe9, tρ9, fq⟩ := p_3
    have hLo0 := hLo
    have h_vo : S1 vo = some (10, .inr (7, [.int (nI nl), .ref d9, .ref qo, .ref zo, .ref lz, .ref rr, .ref rc, .ref za, .ref mu9, .int (nI 0), .ref po])) := fq vo _ _ h_vo (by omega) (by omega) (by omega) (by omega) (by omega) (by omega) (by omega) (by omega)
    have h_d9 : S1 d9 = some (11, .inr (5, [.ref ra, .ref ka])) := fq d9 _ _ h_d9 (by omega) (by omega) (by omega) (by omega) (by omega) (by omega) (by omega) (by omega)
    have h_ra : S1 ra = some (12, .inl ((g 0), N9, .inl (fun j => nI (zR j).val))) := fq ra _ _ h_ra (by omega) (by omega) (by omega) (by omega) (by omega) (by omega) (by omega) (by omega)
    have h_ka : S1 ka = some (13, .inl ((g 0), N9, .inl kp)) := fq ka _ _ h_ka (by omega) (by omega) (by omega) (by omega) (by omega) (by omega) (by omega) (by omega)
    have h_qo : S1 qo = some (14, .inr (4, [.int (nI nl), .ref ky, .int (nI s9), .ref pr, .ref lw, .ref ll, .ref mu, .ref fa, .ref nx, .ref re, .ref so1, .ref so2])) := fq qo _ _ h_qo (by omega) (by omega) (by omega) (by omega) (by omega) (by omega) (by omega) (by omega)
    have h_ky : S1 ky = some (15, .inl ((g 0), 16, .inl (fun j => nI (kQ j)))) := fq ky _ _ h_ky (by omega) (by omega) (by omega) (by omega) (by omega) (by omega) (by omega) (by omega)
    have h_pr : S1 pr = some (16, .inl ((g 1), 48, .inr (.inr (.inr (.inr (rfs (fun ii => pr + 1 + ii) 48)))))) := fq pr _ _ h_pr (by omega) (by omega) (by omega) (by omega) (by omega) (by omega) (by omega) (by omega)
    have h_lw : S1 lw = some (17, .inl ((g 0), 16, .inl (fun j => nI (lwf j)))) := fq lw _ _ h_lw (by omega) (by omega) (by omega) (by omega) (by omega) (by omega) (by omega) (by omega)
    have h_ll : S1 ll = some (18, .inl ((g 0), 16, .inl (fun j => nI (llf j)))) := fq ll _ _ h_ll (by omega) (by omega) (by omega) (by omega) (by omega) (by omega) (by omega) (by omega)
    have h_mu : S1 mu = some (19, .inl ((g 1), 16, .inr (.inr (.inr (.inr (rfs (fun ii => mu + 1 + ii) 16)))))) := fq mu _ _ h_mu (by omega) (by omega) (by omega) (by omega) (by omega) (by omega) (by omega) (by omega)
    have h_rq1 : S1 rq1 = some (24, .inl ((g 1), 16, .inr (.inr (.inr (.inr (rfs (fun ii => rq1 + 1 + ii) 16)))))) := fq rq1 _ _ h_rq1 (by omega) (by omega) (by omega) (by omega) (by omega) (by omega) (by omega) (by omega)
    have h_so2 : S1 so2 = some (26, .inr (8, [.ref rq2, .ref rp2, .int z2])) := fq so2 _ _ h_so2 (by omega) (by omega) (by omega) (by omega) (by omega) (by omega) (by omega) (by omega)
    have h_rq2 : S1 rq2 = some (27, .inl ((g 1), 16, .inr (.inr (.inr (.inr (rfs (fun ii => rq2 + 1 + ii) 16)))))) := fq rq2 _ _ h_rq2 (by omega) (by omega) (by omega) (by omega) (by omega) (by omega) (by omega) (by omega)
    have h_rp2 : S1 rp2 = some (28, .inl ((g 0), 16, .inl (fun j => nI (p2 j)))) := fq rp2 _ _ h_rp2 (by omega) (by omega) (by omega) (by omega) (by omega) (by omega) (by omega) (by omega)
    have h_zo : S1 zo = some (30, .inr (6, [.ref fs, .int z3, .ref on, .ref ot])) := fq zo _ _ h_zo (by omega) (by omega) (by omega) (by omega) (by omega) (by omega) (by omega) (by omega)
    have h_fs : S1 fs = some (31, .inl ((g 3), 16, .inr (.inr (.inr (.inr (rfs fe 16)))))) := fq fs _ _ h_fs (by omega) (by omega) (by omega) (by omega) (by omega) (by omega) (by omega) (by omega)
    have h_lz : S1 lz = some (32, .inl ((g 3), 3, .inr (.inr (.inr (.inr (rfs le 3)))))) := fq lz _ _ h_lz (by omega) (by omega) (by omega) (by omega) (by omega) (by omega) (by omega) (by omega)
    have h_rr : S1 rr = some (33, .inl ((g 1), 3, .inr (.inr (.inr (.inr (rfs (fun ii => rr + 1 + ii) 3)))))) := fq rr _ _ h_rr (by omega) (by omega) (by omega) (by omega) (by omega) (by omega) (by omega) (by omega)
    have h_rc : S1 rc = some (34, .inl ((g 0), 3, .inl (fun j => nI (RC j)))) := fq rc _ _ h_rc (by omega) (by omega) (by omega) (by omega) (by omega) (by omega) (by omega) (by omega)
    have h_za : S1 za = some (35, .inl ((g 1), 16, .inr (.inr (.inr (.inr (rfs (fun ii => za + 1 + ii) 16)))))) := fq za _ _ h_za (by omega) (by omega) (by omega) (by omega) (by omega) (by omega) (by omega) (by omega)
    have h_mu9 : S1 mu9 = some (36, .inl ((g 0), 16, .inl (fun j => nI (MQ j)))) := fq mu9 _ _ h_mu9 (by omega) (by omega) (by omega) (by omega) (by omega) (by omega) (by omega) (by omega)
    have h_po : S1 po = some (37, .inr (2, [.ref pn, .ref pp])) := fq po _ _ h_po (by omega) (by omega) (by omega) (by omega) (by omega) (by omega) (by omega) (by omega)
    have h_pn : S1 pn = some (38, .inl ((g 0), 3, .inl (fun j => nI (X j).val))) := fq pn _ _ h_pn (by omega) (by omega) (by omega) (by omega) (by omega) (by omega) (by omega) (by omega)
    have h_pp : S1 pp = some (39, .inl ((g 1), 3, .inr (.inr (.inr (.inr (rfs (fun ii => pp + 1 + ii) 3)))))) := fq pp _ _ h_pp (by omega) (by omega) (by omega) (by omega) (by omega) (by omega) (by omega) (by omega)
    have h_on : S1 on = some (560, .inr (1, [.ref na, .int dn])) := fq on _ _ h_on (by omega) (by omega) (by omega) (by omega) (by omega) (by omega) (by omega) (by omega)
    have h_na : S1 na = some ((560 + 1), .inl ((g 0), 33, .inl (fun j => nI (cn j).val))) := fq na _ _ h_na (by omega) (by omega) (by omega) (by omega) (by omega) (by omega) (by omega) (by omega)
    have h_ot : S1 ot = some (562, .inr (1, [.ref ta, .int dt])) := fq ot _ _ h_ot (by omega) (by omega) (by omega) (by omega) (by omega) (by omega) (by omega) (by omega)
    have h_ta : S1 ta = some ((562 + 1), .inl ((g 0), 33, .inl (fun j => nI (ct j).val))) := fq ta _ _ h_ta (by omega) (by omega) (by omega) (by omega) (by omega) (by omega) (by omega) (by omega)
    have h_lo : S1 lo = some (2, .inr (9, [.ref ma, .ref hd, .int (nI n)])) := fq lo _ _ h_lo (by omega) (by omega) (by omega) (by omega) (by omega) (by omega) (by omega) (by omega)
    have h_ma : S1 ma = some (4, .inl ((g 2), 12, .inr (.inr (.inr (.inr (rfs me 12)))))) := fq ma _ _ h_ma (by omega) (by omega) (by omega) (by omega) (by omega) (by omega) (by omega) (by omega)
    have h_hd : S1 hd = some (5, .inl ((g 0), 12, .inl hf)) := fq hd _ _ h_hd (by omega) (by omega) (by omega) (by omega) (by omega) (by omega) (by omega) (by omega)
    have hfr : ∀ b t e9, B b = some (t, e9) → ((t < 10 ∨ 40 ≤ t)) → ((t < 400 ∨ 700 ≤ t)) → S1 b = some (t, e9) := fun b t e9 h9 k0 k1 => by have h8 := hfr b t e9 h9 k0 k1; exact fq b _ _ h8 (by omega) (by omega) (by omega) (by omega) (by omega) (by omega) (by omega) (by omega)
    have hP := rS_kept hP (S1 := S1) (fun b t9 e9 hb9 h1 h2 => by have h8 : S1 b = some (t9, e9) := fq b _ _ hb9 (by omega) (by omega) (by omega) (by omega) (by omega) (by omega) (by omega) (by omega); rw [h8, hb9])
    have hMU := rS_kept hMU (S1 := S1) (fun b t9 e9 hb9 h1 h2 => by have h8 : S1 b = some (t9, e9) := fq b _ _ hb9 (by omega) (by omega) (by omega) (by omega) (by omega) (by omega) (by omega) (by omega); rw [h8, hb9])
    have hR2 := rS_kept hR2 (S1 := S1) (fun b t9 e9 hb9 h1 h2 => by have h8 : S1 b = some (t9, e9) := fq b _ _ hb9 (by omega) (by omega) (by omega) (by omega) (by omega) (by omega) (by omega) (by omega); rw [h8, hb9])
    have hE := oS_kept hE (S1 := S1) (fun b t9 e9 hb9 h1 h2 => by have h8 : S1 b = some (t9, e9) := fq b _ _ hb9 (by omega) (by omega) (by omega) (by omega) (by omega) (by omega) (by omega) (by omega); rw [h8, hb9])
    have hRR := rS_kept hRR (S1 := S1) (fun b t9 e9 hb9 h1 h2 => by have h8 : S1 b = some (t9, e9) := fq b _ _ hb9 (by omega) (by omega) (by omega) (by omega) (by omega) (by omega) (by omega) (by omega); rw [h8, hb9])
    have hZ := rS_kept hZ (S1 := S1) (fun b t9 e9 hb9 h1 h2 => by have h8 : S1 b = some (t9, e9) := fq b _ _ hb9 (by omega) (by omega) (by omega) (by omega) (by omega) (by omega) (by omega) (by omega); rw [h8, hb9])
    have hW := rS_kept hW (S1 := S1) (fun b t9 e9 hb9 h1 h2 => by have h8 : S1 b = some (t9, e9) := fq b _ _ hb9 (by omega) (by omega) (by omega) (by omega) (by omega) (by omega) (by omega) (by omega); rw [h8, hb9])
    have hY := yS_kept hY (S1 := S1) (fun b t9 e9 hb9 h1 h2 => by have h8 : S1 b = some (t9, e9) := fq b _ _ hb9 (by omega) (by omega) (by omega) (by omega) (by omega) (by omega) (by omega) (by omega); rw [h8, hb9])
    have h_fa := q_fa
    have h_nx := q_nx
    have h_re := q_re
    have h_so1 := q_so1
    have h_rp1 := q_rp1
    have hR1 := q_R1
    have hLo : oS g 570 3 le la (va_up dl i (nI D9)) (fun ii j => nI ((va_up CL i (asg D9 (rwN s9 (vqN PT i s9) D9))) ii j).val) S1 := oS_up hLo0 q_oo q_oa (fun b t e9 h9 k1 k2 k3 k4 => fq b t e9 h9 (by omega) (by omega) (by omega) (by omega) (by omega) (by omega) (by omega) (by omega))
    have hD9 := hdeg.1
    obtain ⟨hol, hol1⟩ := asg_ol hs (show D9 ≤ 16 by omega) (vqN PT i s9)
    refine lv_aload_n hx hb d_V_solve_86 rfl (lv_at hl 2 rfl) ?_
    refine mp_get (C := R_V) (T := F_V) (N := 11) (v := .ref rc) hx hb hg i_V hown hK.va hI h_vo rfl 6 (by decide) (hg _ q_267) (fun _ h9 => h9) rfl d_V_solve_87 ?_
    refine lv_iload_n hx hb d_V_solve_90 rfl (lv_at hl 0 rfl) ?_
    refine lv_aload_n hx hb d_V_solve_91 rfl (lv_at hl 2 rfl) ?_
    refine mp_get (C := R_V) (T := F_V) (N := 11) (v := .ref zo) hx hb hg i_V hown hK.va hI h_vo rfl 3 (by decide) (hg _ q_263) (fun _ h9 => h9) rfl d_V_solve_92 ?_
    refine lv_aload_n hx hb d_V_solve_95 rfl (lv_at hl 2 rfl) ?_
    refine mp_get (C := R_V) (T := F_V) (N := 11) (v := .ref lz) hx hb hg i_V hown hK.va hI h_vo rfl 4 (by decide) (hg _ q_264) (fun _ h9 => h9) rfl d_V_solve_96 ?_
    refine lv_iload_n hx hb d_V_solve_99 rfl (lv_at hl 0 rfl) ?_
    refine mp_aldq (b := le i) hx hb hK.va hI 3 h_lz rfl (vp_in_nI (show i < 3 by omega) (by omega)) (by rw [nI_clamp (by omega)]; exact rfs_at (by omega)) d_V_solve_100 ?_
    refine lv_aload_n hx hb d_V_solve_101 rfl (lv_at hl 2 rfl) ?_
    refine mp_get (C := R_V) (T := F_V) (N := 11) (v := .ref rr) hx hb hg i_V hown hK.va hI h_vo rfl 5 (by decide) (hg _ q_266) (fun _ h9 => h9) rfl d_V_solve_102 ?_
    refine lv_iload_n hx hb d_V_solve_105 rfl (lv_at hl 0 rfl) ?_
    refine mp_ald2 (b := rr + 1 + i) hx hb hK.va hI 1 h_rr rfl (vp_in_nI (show i < 3 by omega) (by omega)) (by rw [nI_clamp (by omega)]; exact rfs_at (by omega)) d_V_solve_106 ?_
    refine mp_calli hI (va_runV (As := [.ref (le i), .ref (rr + 1 + i)]) (rest := [.int (nI i), .ref rc]) ⟨hx, hb, hml, hown, hg⟩ (c_Z_find l D g S1 _ zo fs on na ot ta (le i) (la i) (rr + 1 + i) (570 + 2 * i) (580 + i) D9 fe fz (asg D9 (rwN s9 (vqN PT i s9) D9)) z3 dgE CF dn dt cn ct (RT i) h_zo h_fs h_on h_na h_ot h_ta q_oo q_oa (hRR i (by omega)) hE (by omega) (by omega) hol hol1 tCF tcn tct) ⟨(callB_of 2 hg (wd_goodG q_432) rfl rfl rfl (hg _ q_17) (hg _ q_429) (by decide +kernel) ⟨Nat.le_trans (Nat.le_of_ble_eq_true rfl) hRf, Nat.le_trans (Nat.le_of_ble_eq_true rfl) hRl⟩), hg _ q_430, hg _ q_431⟩ (mp_preV (C := R_Z) (T := F_Z) hI hK h_zo rfl [.ref (le i), .ref (rr + 1 + i)]) rfl rfl hl.1 rfl (lv_room (Nat.le_of_ble_eq_true rfl)) d_V_solve_107 ⟨by omega, by omega⟩) (fun r8 S5 H6 locs p_7 hI => ?_)
    obtain ⟨n9, IT, z9b, dg9, CF8, dn9, dt9, cn9, ct9, rfl, hn9, hrt, tCF8, tcn9, tct9, q_zo, q_on, q_na, q_ot, q_ta, q_ia, q_E, fq⟩ := p_7
    have hRR0 := hRR
    have h_vo : S5 vo = some (10, .inr (7, [.int (nI nl), .ref d9, .ref qo, .ref zo, .ref lz, .ref rr, .ref rc, .ref za, .ref mu9, .int (nI 0), .ref po])) := fq vo _ _ h_vo (by omega) (by omega) (by omega)
    have h_d9 : S5 d9 = some (11, .inr (5, [.ref ra, .ref ka])) := fq d9 _ _ h_d9 (by omega) (by omega) (by omega)
    have h_ra : S5 ra = some (12, .inl ((g 0), N9, .inl (fun j => nI (zR j).val))) := fq ra _ _ h_ra (by omega) (by omega) (by omega)
    have h_ka : S5 ka = some (13, .inl ((g 0), N9, .inl kp)) := fq ka _ _ h_ka (by omega) (by omega) (by omega)
    have h_qo : S5 qo = some (14, .inr (4, [.int (nI nl), .ref ky, .int (nI s9), .ref pr, .ref lw, .ref ll, .ref mu, .ref fa, .ref nx, .ref re, .ref so1, .ref so2])) := fq qo _ _ h_qo (by omega) (by omega) (by omega)
    have h_ky : S5 ky = some (15, .inl ((g 0), 16, .inl (fun j => nI (kQ j)))) := fq ky _ _ h_ky (by omega) (by omega) (by omega)
    have h_pr : S5 pr = some (16, .inl ((g 1), 48, .inr (.inr (.inr (.inr (rfs (fun ii => pr + 1 + ii) 48)))))) := fq pr _ _ h_pr (by omega) (by omega) (by omega)
    have h_lw : S5 lw = some (17, .inl ((g 0), 16, .inl (fun j => nI (lwf j)))) := fq lw _ _ h_lw (by omega) (by omega) (by omega)
    have h_ll : S5 ll = some (18, .inl ((g 0), 16, .inl (fun j => nI (llf j)))) := fq ll _ _ h_ll (by omega) (by omega) (by omega)
    have h_mu : S5 mu = some (19, .inl ((g 1), 16, .inr (.inr (.inr (.inr (rfs (fun ii => mu + 1 + ii) 16)))))) := fq mu _ _ h_mu (by omega) (by omega) (by omega)
    have h_fa : S5 fa = some (20, .inl ((g 0), 16, .inl (fun j => nI (Fa9 j).val))) := fq fa _ _ h_fa (by omega) (by omega) (by omega)
    have h_nx : S5 nx = some (21, .inl ((g 0), 16, .inl (fun j => nI (Nx9 j).val))) := fq nx _ _ h_nx (by omega) (by omega) (by omega)
    have h_re : S5 re = some (22, .inl ((g 0), 33, .inl (fun j => nI (Re9 j).val))) := fq re _ _ h_re (by omega) (by omega) (by omega)
    have h_so1 : S5 so1 = some (23, .inr (8, [.ref rq1, .ref rp1, .int z9])) := fq so1 _ _ h_so1 (by omega) (by omega) (by omega)
    have h_rq1 : S5 rq1 = some (24, .inl ((g 1), 16, .inr (.inr (.inr (.inr (rfs (fun ii => rq1 + 1 + ii) 16)))))) := fq rq1 _ _ h_rq1 (by omega) (by omega) (by omega)
    have h_rp1 : S5 rp1 = some (25, .inl ((g 0), 16, .inl (fun j => nI (p9 j)))) := fq rp1 _ _ h_rp1 (by omega) (by omega) (by omega)
    have h_so2 : S5 so2 = some (26, .inr (8, [.ref rq2, .ref rp2, .int z2])) := fq so2 _ _ h_so2 (by omega) (by omega) (by omega)
    have h_rq2 : S5 rq2 = some (27, .inl ((g 1), 16, .inr (.inr (.inr (.inr (rfs (fun ii => rq2 + 1 + ii) 16)))))) := fq rq2 _ _ h_rq2 (by omega) (by omega) (by omega)
    have h_rp2 : S5 rp2 = some (28, .inl ((g 0), 16, .inl (fun j => nI (p2 j)))) := fq rp2 _ _ h_rp2 (by omega) (by omega) (by omega)
    have h_fs : S5 fs = some (31, .inl ((g 3), 16, .inr (.inr (.inr (.inr (rfs fe 16)))))) := fq fs _ _ h_fs (by omega) (by omega) (by omega)
    have h_lz : S5 lz = some (32, .inl ((g 3), 3, .inr (.inr (.inr (.inr (rfs le 3)))))) := fq lz _ _ h_lz (by omega) (by omega) (by omega)
    have h_rr : S5 rr = some (33, .inl ((g 1), 3, .inr (.inr (.inr (.inr (rfs (fun ii => rr + 1 + ii) 3)))))) := fq rr _ _ h_rr (by omega) (by omega) (by omega)
    have h_rc : S5 rc = some (34, .inl ((g 0), 3, .inl (fun j => nI (RC j)))) := fq rc _ _ h_rc (by omega) (by omega) (by omega)
    have h_za : S5 za = some (35, .inl ((g 1), 16, .inr (.inr (.inr (.inr (rfs (fun ii => za + 1 + ii) 16)))))) := fq za _ _ h_za (by omega) (by omega) (by omega)
    have h_mu9 : S5 mu9 = some (36, .inl ((g 0), 16, .inl (fun j => nI (MQ j)))) := fq mu9 _ _ h_mu9 (by omega) (by omega) (by omega)
    have h_po : S5 po = some (37, .inr (2, [.ref pn, .ref pp])) := fq po _ _ h_po (by omega) (by omega) (by omega)
    have h_pn : S5 pn = some (38, .inl ((g 0), 3, .inl (fun j => nI (X j).val))) := fq pn _ _ h_pn (by omega) (by omega) (by omega)
    have h_pp : S5 pp = some (39, .inl ((g 1), 3, .inr (.inr (.inr (.inr (rfs (fun ii => pp + 1 + ii) 3)))))) := fq pp _ _ h_pp (by omega) (by omega) (by omega)
    have h_lo : S5 lo = some (2, .inr (9, [.ref ma, .ref hd, .int (nI n)])) := fq lo _ _ h_lo (by omega) (by omega) (by omega)
    have h_ma : S5 ma = some (4, .inl ((g 2), 12, .inr (.inr (.inr (.inr (rfs me 12)))))) := fq ma _ _ h_ma (by omega) (by omega) (by omega)
    have h_hd : S5 hd = some (5, .inl ((g 0), 12, .inl hf)) := fq hd _ _ h_hd (by omega) (by omega) (by omega)
    have hfr : ∀ b t e9, B b = some (t, e9) → ((t < 10 ∨ 40 ≤ t)) → ((t < 400 ∨ 700 ≤ t)) → S5 b = some (t, e9) := fun b t e9 h9 k0 k1 => by have h8 := hfr b t e9 h9 k0 k1; exact fq b _ _ h8 (by omega) (by omega) (by omega)
    have hP := rS_kept hP (S1 := S5) (fun b t9 e9 hb9 h1 h2 => by have h8 : S5 b = some (t9, e9) := fq b _ _ hb9 (by omega) (by omega) (by omega); rw [h8, hb9])
    have hMU := rS_kept hMU (S1 := S5) (fun b t9 e9 hb9 h1 h2 => by have h8 : S5 b = some (t9, e9) := fq b _ _ hb9 (by omega) (by omega) (by omega); rw [h8, hb9])
    have hR2 := rS_kept hR2 (S1 := S5) (fun b t9 e9 hb9 h1 h2 => by have h8 : S5 b = some (t9, e9) := fq b _ _ hb9 (by omega) (by omega) (by omega); rw [h8, hb9])
    have hZ := rS_kept hZ (S1 := S5) (fun b t9 e9 hb9 h1 h2 => by have h8 : S5 b = some (t9, e9) := fq b _ _ hb9 (by omega) (by omega) (by omega); rw [h8, hb9])
    have hW := rS_kept hW (S1 := S5) (fun b t9 e9 hb9 h1 h2 => by have h8 : S5 b = some (t9, e9) := fq b _ _ hb9 (by omega) (by omega) (by omega); rw [h8, hb9])
    have hY := yS_kept hY (S1 := S5) (fun b t9 e9 hb9 h1 h2 => by have h8 : S5 b = some (t9, e9) := fq b _ _ hb9 (by omega) (by omega) (by omega); rw [h8, hb9])
    have hR1 := rS_kept hR1 (S1 := S5) (fun b t9 e9 hb9 h1 h2 => by have h8 : S5 b = some (t9, e9) := fq b _ _ hb9 (by omega) (by omega) (by omega); rw [h8, hb9])
    have hLo := oS_kept hLo (S1 := S5) (fun b t9 e9 hb9 h1 h2 => by have h8 : S5 b = some (t9, e9) := fq b _ _ hb9 (by omega) (by omega) (by omega); rw [h8, hb9])
    have h_zo := q_zo
    have h_on := q_on
    have h_na := q_na
    have h_ot := q_ot
    have h_ta := q_ta
    have hE := q_E
    have hRR : rS g 580 3 16 (fun ii => rr + 1 + ii) (fun ii j => nI ((va_up RT i IT) ii j)) S5 := rS_upN hRR0 q_ia (fun j hj hne e9 h9 => fq _ _ _ h9 (by omega) (by omega) (by omega))
    refine mp_iast hx hb hK.va hI 0 h_rc rfl (vp_in_nI (show i < 3 by omega) (by omega)) d_V_solve_110 (fun S9 H10 locs e_11 hI => ?_)
    have h_rc_o := h_rc
    have e_11 : S9 = va_up S5 rc (some (34, .inl ((g 0), 3, .inl (upd (fun j => nI (RC j)) (nI i).toNatClampNeg (nI n9))))) := e_11
    have h_rc_o := h_rc
    have h_vo : S9 vo = some (10, .inr (7, [.int (nI nl), .ref d9, .ref qo, .ref zo, .ref lz, .ref rr, .ref rc, .ref za, .ref mu9, .int (nI 0), .ref po])) := by rw [e_11]; exact mp_keep h_vo h_rc (by decide)
    have h_d9 : S9 d9 = some (11, .inr (5, [.ref ra, .ref ka])) := by rw [e_11]; exact mp_keep h_d9 h_rc (by decide)
    have h_ra : S9 ra = some (12, .inl ((g 0), N9, .inl (fun j => nI (zR j).val))) := by rw [e_11]; exact mp_keep h_ra h_rc (by decide)
    have h_ka : S9 ka = some (13, .inl ((g 0), N9, .inl kp)) := by rw [e_11]; exact mp_keep h_ka h_rc (by decide)
    have h_qo : S9 qo = some (14, .inr (4, [.int (nI nl), .ref ky, .int (nI s9), .ref pr, .ref lw, .ref ll, .ref mu, .ref fa, .ref nx, .ref re, .ref so1, .ref so2])) := by rw [e_11]; exact mp_keep h_qo h_rc (by decide)
    have h_ky : S9 ky = some (15, .inl ((g 0), 16, .inl (fun j => nI (kQ j)))) := by rw [e_11]; exact mp_keep h_ky h_rc (by decide)
    have h_pr : S9 pr = some (16, .inl ((g 1), 48, .inr (.inr (.inr (.inr (rfs (fun ii => pr + 1 + ii) 48)))))) := by rw [e_11]; exact mp_keep h_pr h_rc (by decide)
    have h_lw : S9 lw = some (17, .inl ((g 0), 16, .inl (fun j => nI (lwf j)))) := by rw [e_11]; exact mp_keep h_lw h_rc (by decide)
    have h_ll : S9 ll = some (18, .inl ((g 0), 16, .inl (fun j => nI (llf j)))) := by rw [e_11]; exact mp_keep h_ll h_rc (by decide)
    have h_mu : S9 mu = some (19, .inl ((g 1), 16, .inr (.inr (.inr (.inr (rfs (fun ii => mu + 1 + ii) 16)))))) := by rw [e_11]; exact mp_keep h_mu h_rc (by decide)
    have h_fa : S9 fa = some (20, .inl ((g 0), 16, .inl (fun j => nI (Fa9 j).val))) := by rw [e_11]; exact mp_keep h_fa h_rc (by decide)
    have h_nx : S9 nx = some (21, .inl ((g 0), 16, .inl (fun j => nI (Nx9 j).val))) := by rw [e_11]; exact mp_keep h_nx h_rc (by decide)
    have h_re : S9 re = some (22, .inl ((g 0), 33, .inl (fun j => nI (Re9 j).val))) := by rw [e_11]; exact mp_keep h_re h_rc (by decide)
    have h_so1 : S9 so1 = some (23, .inr (8, [.ref rq1, .ref rp1, .int z9])) := by rw [e_11]; exact mp_keep h_so1 h_rc (by decide)
    have h_rq1 : S9 rq1 = some (24, .inl ((g 1), 16, .inr (.inr (.inr (.inr (rfs (fun ii => rq1 + 1 + ii) 16)))))) := by rw [e_11]; exact mp_keep h_rq1 h_rc (by decide)
    have h_rp1 : S9 rp1 = some (25, .inl ((g 0), 16, .inl (fun j => nI (p9 j)))) := by rw [e_11]; exact mp_keep h_rp1 h_rc (by decide)
    have h_so2 : S9 so2 = some (26, .inr (8, [.ref rq2, .ref rp2, .int z2])) := by rw [e_11]; exact mp_keep h_so2 h_rc (by decide)
    have h_rq2 : S9 rq2 = some (27, .inl ((g 1), 16, .inr (.inr (.inr (.inr (rfs (fun ii => rq2 + 1 + ii) 16)))))) := by rw [e_11]; exact mp_keep h_rq2 h_rc (by decide)
    have h_rp2 : S9 rp2 = some (28, .inl ((g 0), 16, .inl (fun j => nI (p2 j)))) := by rw [e_11]; exact mp_keep h_rp2 h_rc (by decide)
    have h_zo : S9 zo = some (30, .inr (6, [.ref fs, .int z9b, .ref on, .ref ot])) := by rw [e_11]; exact mp_keep h_zo h_rc (by decide)
    have h_fs : S9 fs = some (31, .inl ((g 3), 16, .inr (.inr (.inr (.inr (rfs fe 16)))))) := by rw [e_11]; exact mp_keep h_fs h_rc (by decide)
    have h_lz : S9 lz = some (32, .inl ((g 3), 3, .inr (.inr (.inr (.inr (rfs le 3)))))) := by rw [e_11]; exact mp_keep h_lz h_rc (by decide)
    have h_rr : S9 rr = some (33, .inl ((g 1), 3, .inr (.inr (.inr (.inr (rfs (fun ii => rr + 1 + ii) 3)))))) := by rw [e_11]; exact mp_keep h_rr h_rc (by decide)
    have h_za : S9 za = some (35, .inl ((g 1), 16, .inr (.inr (.inr (.inr (rfs (fun ii => za + 1 + ii) 16)))))) := by rw [e_11]; exact mp_keep h_za h_rc (by decide)
    have h_mu9 : S9 mu9 = some (36, .inl ((g 0), 16, .inl (fun j => nI (MQ j)))) := by rw [e_11]; exact mp_keep h_mu9 h_rc (by decide)
    have h_po : S9 po = some (37, .inr (2, [.ref pn, .ref pp])) := by rw [e_11]; exact mp_keep h_po h_rc (by decide)
    have h_pn : S9 pn = some (38, .inl ((g 0), 3, .inl (fun j => nI (X j).val))) := by rw [e_11]; exact mp_keep h_pn h_rc (by decide)
    have h_pp : S9 pp = some (39, .inl ((g 1), 3, .inr (.inr (.inr (.inr (rfs (fun ii => pp + 1 + ii) 3)))))) := by rw [e_11]; exact mp_keep h_pp h_rc (by decide)
    have h_on : S9 on = some (560, .inr (1, [.ref na, .int dn9])) := by rw [e_11]; exact mp_keep h_on h_rc (by decide)
    have h_na : S9 na = some ((560 + 1), .inl ((g 0), 33, .inl (fun j => nI (cn9 j).val))) := by rw [e_11]; exact mp_keep h_na h_rc (by omega)
    have h_ot : S9 ot = some (562, .inr (1, [.ref ta, .int dt9])) := by rw [e_11]; exact mp_keep h_ot h_rc (by decide)
    have h_ta : S9 ta = some ((562 + 1), .inl ((g 0), 33, .inl (fun j => nI (ct9 j).val))) := by rw [e_11]; exact mp_keep h_ta h_rc (by omega)
    have h_lo : S9 lo = some (2, .inr (9, [.ref ma, .ref hd, .int (nI n)])) := by rw [e_11]; exact mp_keep h_lo h_rc (by decide)
    have h_ma : S9 ma = some (4, .inl ((g 2), 12, .inr (.inr (.inr (.inr (rfs me 12)))))) := by rw [e_11]; exact mp_keep h_ma h_rc (by decide)
    have h_hd : S9 hd = some (5, .inl ((g 0), 12, .inl hf)) := by rw [e_11]; exact mp_keep h_hd h_rc (by decide)
    have h_rc : S9 rc = some (34, .inl ((g 0), 3, .inl (upd (fun j => nI (RC j)) (nI i).toNatClampNeg (nI n9)))) := by rw [e_11]; exact mp_us _ _ _
    have hP := rS_kept hP (S1 := S9) (fun b t9 e9 hb9 h1 h2 => by rw [e_11]; exact mp_un (mp_ne hb9 h_rc_o (by omega)))
    have hMU := rS_kept hMU (S1 := S9) (fun b t9 e9 hb9 h1 h2 => by rw [e_11]; exact mp_un (mp_ne hb9 h_rc_o (by omega)))
    have hR2 := rS_kept hR2 (S1 := S9) (fun b t9 e9 hb9 h1 h2 => by rw [e_11]; exact mp_un (mp_ne hb9 h_rc_o (by omega)))
    have hZ := rS_kept hZ (S1 := S9) (fun b t9 e9 hb9 h1 h2 => by rw [e_11]; exact mp_un (mp_ne hb9 h_rc_o (by omega)))
    have hW := rS_kept hW (S1 := S9) (fun b t9 e9 hb9 h1 h2 => by rw [e_11]; exact mp_un (mp_ne hb9 h_rc_o (by omega)))
    have hY := yS_kept hY (S1 := S9) (fun b t9 e9 hb9 h1 h2 => by rw [e_11]; exact mp_un (mp_ne hb9 h_rc_o (by omega)))
    have hR1 := rS_kept hR1 (S1 := S9) (fun b t9 e9 hb9 h1 h2 => by rw [e_11]; exact mp_un (mp_ne hb9 h_rc_o (by omega)))
    have hLo := oS_kept hLo (S1 := S9) (fun b t9 e9 hb9 h1 h2 => by rw [e_11]; exact mp_un (mp_ne hb9 h_rc_o (by omega)))
    have hE := oS_kept hE (S1 := S9) (fun b t9 e9 hb9 h1 h2 => by rw [e_11]; exact mp_un (mp_ne hb9 h_rc_o (by omega)))
    have hRR := rS_kept hRR (S1 := S9) (fun b t9 e9 hb9 h1 h2 => by rw [e_11]; exact mp_un (mp_ne hb9 h_rc_o (by omega)))
    have hfr : ∀ b t e9, B b = some (t, e9) → ((t < 10 ∨ 40 ≤ t)) → ((t < 400 ∨ 700 ≤ t)) → S9 b = some (t, e9) := fun b t e9 h9 k0 k1 => by rw [e_11]; exact mp_keep (hfr b t e9 h9 k0 k1) h_rc_o (by omega)
    rw [nI_clamp (by omega), nIf_up] at h_rc
    refine lv_iinc (v := nI (i + 1)) (lv' := [(2, .int (nI (i + 1))), (1, .ref lo), (0, .ref vo)]) hx hb d_V_solve_111 hl (k := 0) rfl (nI_1 _) (by decide) rfl (fun ls hl => ?_)
    refine lv_goto (tgt := 64) hx hb d_V_solve_114 (by decide) ?_
    exact ih (i + 1) (va_up DG i D9) (va_up dl i (nI D9)) (va_up CL i (asg D9 (rwN s9 (vqN PT i s9) D9))) (va_up RT i IT) (va_up RC i n9) (Fa9) (Nx9) (Re9) (z9) (ρ9) (p9) (z9b) (dg9) (CF8) (dn9) (cn9) (dt9) (ct9) S9 H10 locs ls (by omega) (lrB_up hlr hdeg hn9 hrt) (one_up hone (by omega) _ _) tFa9 tNx9 tRe9 tρ9 tcn9 tct9 tCF8 (trn_up tCL (asg_t (by omega))) h_vo h_d9 h_ra h_ka h_qo h_ky h_pr h_lw h_ll h_mu h_fa h_nx h_re h_so1 h_rq1 h_rp1 h_so2 h_rq2 h_rp2 h_zo h_fs h_lz h_rr h_rc h_za h_mu9 h_po h_pn h_pp h_on h_na h_ot h_ta h_lo h_ma h_hd hP hMU hR1 hR2 hE hLo hRR hZ hW hY hfr hI (lv_sub hl [0, 1, 2] rfl) kx
set_option maxHeartbeats 4000000 in
set_option maxRecDepth 100000 in
theorem lp_V_so2 {p : Program} {l : Launch} {e : Env} {R : Room} {s : State} {m : MethodId} {args : Array Value} {below : List Frame} {meth : Method} {c : Code} {Q : State → Prop} {D : mp_G} {g : Nat → ClassId} {A : Nat → Prop} {cells slots : Nat} (hx : p.tables.exec = Jvm.exec) (hb : c.code = b_V_solve) (hml : c.maxLocals = 3) (hg : ∀ w ∈ gw, w.before args s = true) (hown : s.vm.findClass R_V = some m.cls) (hK : mp_K D classes (tys g) s) (hRf : 5 ≤ R.frames) (hRl : 116 ≤ R.locals) (hRc : cells ≤ R.cells) (hRs : slots ≤ R.slots) {B : mp_M} {vo d9 ra ka qo ky pr lw ll mu fa nx re so1 rq1 rp1 so2 rq2 rp2 zo fs lz rr rc za mu9 po pn pp on na ot ta lo ma hd n nl N9 : Nat} {fe fz le la : Nat → Nat} {kp : Nat → Int32} {me mk mn mcap mz : Nat → Nat} {mkf mnf : Nat → Nat → Int32} {hf : Nat → Int32} {h : Nat → m3} {z : Nat → Nat} {mo : Nat → Nat → m3} {co : Nat → Nat → fF} {s9 : Nat} {zc : Nat} {kQ : Nat → Nat} {PT : Nat → Nat → fF} {lwf : Nat → Nat} {llf : Nat → Nat} {Re : Nat → fF} {z1 : Int32} {ρ1 : Nat → Nat → fF} {p1 : Nat → Nat} {z3 : Int32} {dn : Int32} {cn : Nat → fF} {dt : Int32} {ct : Nat → fF} {dgE : Nat → Int32} {CF : Nat → Nat → fF} {dl : Nat → Int32} {CL : Nat → Nat → fF} {RT : Nat → Nat → Nat} {RC : Nat → Nat} {ZZ : Nat → Nat → fF} {X : Nat → fF} {W9 : Nat → Nat → fF} {lf : Nat → m3} (hB : lsB n h z mo co mcap mz mkf mnf hf) (hnl : nl ≤ 3) (hn1 : 1 ≤ nl) (hs : s9 ≤ 16) (hzc : zc ≤ 16) (hlow : ∀ k, 0 < k → k < s9 → lwf k < k ∧ llf k < 3) (hGs : ∀ ζ : Nat → fF, ∀ l, l < nl → ∀ k, 0 < k → k < s9 → ∀ j, j < s9 → mltF PT (llf k) s9 (itr (mvt s9 (mzt (ptM PT l) (ζ l))) s9 (eK (lwf k))) j = itr (mvt s9 (mzt (ptM PT l) (ζ l))) s9 (eK k) j) (hpt : ptI n h z mo co s9 lf nl 0 PT) : ∀ (k : Nat) (i : Nat) (MQ : Nat → Nat) (Fa : Nat → fF) (Nx : Nat → fF) (MU : Nat → Nat → fF) (z2 : Int32) (ρ2 : Nat → Nat → fF) (p2 : Nat → Nat) (S : mp_M) (H : Heap) (locs : List Loc) (ls : Array Slot), i + k = zc → (∀ k8, k8 < i → muB n h z mo co nl s9 lf (ZZ k8) (MQ k8)) → (∀ r, trn 16 (MU r)) → (trn 16 Fa) → (trn 16 Nx) → (∀ r, trn 16 (ρ2 r)) → S vo = some (10, .inr (7, [.int (nI nl), .ref d9, .ref qo, .ref zo, .ref lz, .ref rr, .ref rc, .ref za, .ref mu9, .int (nI zc), .ref po])) → S d9 = some (11, .inr (5, [.ref ra, .ref ka])) → S ra = some (12, .inl ((g 0), N9, .inl (fun j => nI (zR j).val))) → S ka = some (13, .inl ((g 0), N9, .inl kp)) → S qo = some (14, .inr (4, [.int (nI nl), .ref ky, .int (nI s9), .ref pr, .ref lw, .ref ll, .ref mu, .ref fa, .ref nx, .ref re, .ref so1, .ref so2])) → S ky = some (15, .inl ((g 0), 16, .inl (fun j => nI (kQ j)))) → S pr = some (16, .inl ((g 1), 48, .inr (.inr (.inr (.inr (rfs (fun ii => pr + 1 + ii) 48)))))) → S lw = some (17, .inl ((g 0), 16, .inl (fun j => nI (lwf j)))) → S ll = some (18, .inl ((g 0), 16, .inl (fun j => nI (llf j)))) → S mu = some (19, .inl ((g 1), 16, .inr (.inr (.inr (.inr (rfs (fun ii => mu + 1 + ii) 16)))))) → S fa = some (20, .inl ((g 0), 16, .inl (fun j => nI (Fa j).val))) → S nx = some (21, .inl ((g 0), 16, .inl (fun j => nI (Nx j).val))) → S re = some (22, .inl ((g 0), 33, .inl (fun j => nI (Re j).val))) → S so1 = some (23, .inr (8, [.ref rq1, .ref rp1, .int z1])) → S rq1 = some (24, .inl ((g 1), 16, .inr (.inr (.inr (.inr (rfs (fun ii => rq1 + 1 + ii) 16)))))) → S rp1 = some (25, .inl ((g 0), 16, .inl (fun j => nI (p1 j)))) → S so2 = some (26, .inr (8, [.ref rq2, .ref rp2, .int z2])) → S rq2 = some (27, .inl ((g 1), 16, .inr (.inr (.inr (.inr (rfs (fun ii => rq2 + 1 + ii) 16)))))) → S rp2 = some (28, .inl ((g 0), 16, .inl (fun j => nI (p2 j)))) → S zo = some (30, .inr (6, [.ref fs, .int z3, .ref on, .ref ot])) → S fs = some (31, .inl ((g 3), 16, .inr (.inr (.inr (.inr (rfs fe 16)))))) → S lz = some (32, .inl ((g 3), 3, .inr (.inr (.inr (.inr (rfs le 3)))))) → S rr = some (33, .inl ((g 1), 3, .inr (.inr (.inr (.inr (rfs (fun ii => rr + 1 + ii) 3)))))) → S rc = some (34, .inl ((g 0), 3, .inl (fun j => nI (RC j)))) → S za = some (35, .inl ((g 1), 16, .inr (.inr (.inr (.inr (rfs (fun ii => za + 1 + ii) 16)))))) → S mu9 = some (36, .inl ((g 0), 16, .inl (fun j => nI (MQ j)))) → S po = some (37, .inr (2, [.ref pn, .ref pp])) → S pn = some (38, .inl ((g 0), 3, .inl (fun j => nI (X j).val))) → S pp = some (39, .inl ((g 1), 3, .inr (.inr (.inr (.inr (rfs (fun ii => pp + 1 + ii) 3)))))) → S on = some (560, .inr (1, [.ref na, .int dn])) → S na = some ((560 + 1), .inl ((g 0), 33, .inl (fun j => nI (cn j).val))) → S ot = some (562, .inr (1, [.ref ta, .int dt])) → S ta = some ((562 + 1), .inl ((g 0), 33, .inl (fun j => nI (ct j).val))) → S lo = some (2, .inr (9, [.ref ma, .ref hd, .int (nI n)])) → S ma = some (4, .inl ((g 2), 12, .inr (.inr (.inr (.inr (rfs me 12)))))) → S hd = some (5, .inl ((g 0), 12, .inl hf)) → (rS g 400 48 16 (fun ii => pr + 1 + ii) (fun ii j => nI (PT ii j).val) S) → (rS g 450 16 16 (fun ii => mu + 1 + ii) (fun ii j => nI (MU ii j).val) S) → (rS g 470 16 33 (fun ii => rq1 + 1 + ii) (fun ii j => nI (ρ1 ii j).val) S) → (rS g 490 16 16 (fun ii => rq2 + 1 + ii) (fun ii j => nI (ρ2 ii j).val) S) → (oS g 520 16 fe fz dgE (fun ii j => nI (CF ii j).val) S) → (oS g 570 3 le la dl (fun ii j => nI (CL ii j).val) S) → (rS g 580 3 16 (fun ii => rr + 1 + ii) (fun ii j => nI (RT ii j)) S) → (rS g 590 16 3 (fun ii => za + 1 + ii) (fun ii j => nI (ZZ ii j).val) S) → (rS g 610 3 10 (fun ii => pp + 1 + ii) (fun ii j => nI (W9 ii j).val) S) → (yS g 300 12 me mk mn mcap mz mkf mnf S) → (∀ b t e9, B b = some (t, e9) → ((t < 10 ∨ 40 ≤ t)) → ((t < 400 ∨ 700 ≤ t)) → S b = some (t, e9)) → mp_I D classes A s.heap S H locs → lv_has ls 3 [(2, .int (nI i)), (1, .ref lo), (0, .ref vo)] → (∀ (MQ : Nat → Nat) (Fa : Nat → fF) (Nx : Nat → fF) (MU : Nat → Nat → fF) (z2 : Int32) (ρ2 : Nat → Nat → fF) (p2 : Nat → Nat) (S : mp_M) (H : Heap) (locs : List Loc) (ls : Array Slot), (∀ k8, k8 < zc → muB n h z mo co nl s9 lf (ZZ k8) (MQ k8)) → (∀ r, trn 16 (MU r)) → (trn 16 Fa) → (trn 16 Nx) → (∀ r, trn 16 (ρ2 r)) → S vo = some (10, .inr (7, [.int (nI nl), .ref d9, .ref qo, .ref zo, .ref lz, .ref rr, .ref rc, .ref za, .ref mu9, .int (nI zc), .ref po])) → S d9 = some (11, .inr (5, [.ref ra, .ref ka])) → S ra = some (12, .inl ((g 0), N9, .inl (fun j => nI (zR j).val))) → S ka = some (13, .inl ((g 0), N9, .inl kp)) → S qo = some (14, .inr (4, [.int (nI nl), .ref ky, .int (nI s9), .ref pr, .ref lw, .ref ll, .ref mu, .ref fa, .ref nx, .ref re, .ref so1, .ref so2])) → S ky = some (15, .inl ((g 0), 16, .inl (fun j => nI (kQ j)))) → S pr = some (16, .inl ((g 1), 48, .inr (.inr (.inr (.inr (rfs (fun ii => pr + 1 + ii) 48)))))) → S lw = some (17, .inl ((g 0), 16, .inl (fun j => nI (lwf j)))) → S ll = some (18, .inl ((g 0), 16, .inl (fun j => nI (llf j)))) → S mu = some (19, .inl ((g 1), 16, .inr (.inr (.inr (.inr (rfs (fun ii => mu + 1 + ii) 16)))))) → S fa = some (20, .inl ((g 0), 16, .inl (fun j => nI (Fa j).val))) → S nx = some (21, .inl ((g 0), 16, .inl (fun j => nI (Nx j).val))) → S re = some (22, .inl ((g 0), 33, .inl (fun j => nI (Re j).val))) → S so1 = some (23, .inr (8, [.ref rq1, .ref rp1, .int z1])) → S rq1 = some (24, .inl ((g 1), 16, .inr (.inr (.inr (.inr (rfs (fun ii => rq1 + 1 + ii) 16)))))) → S rp1 = some (25, .inl ((g 0), 16, .inl (fun j => nI (p1 j)))) → S so2 = some (26, .inr (8, [.ref rq2, .ref rp2, .int z2])) → S rq2 = some (27, .inl ((g 1), 16, .inr (.inr (.inr (.inr (rfs (fun ii => rq2 + 1 + ii) 16)))))) → S rp2 = some (28, .inl ((g 0), 16, .inl (fun j => nI (p2 j)))) → S zo = some (30, .inr (6, [.ref fs, .int z3, .ref on, .ref ot])) → S fs = some (31, .inl ((g 3), 16, .inr (.inr (.inr (.inr (rfs fe 16)))))) → S lz = some (32, .inl ((g 3), 3, .inr (.inr (.inr (.inr (rfs le 3)))))) → S rr = some (33, .inl ((g 1), 3, .inr (.inr (.inr (.inr (rfs (fun ii => rr + 1 + ii) 3)))))) → S rc = some (34, .inl ((g 0), 3, .inl (fun j => nI (RC j)))) → S za = some (35, .inl ((g 1), 16, .inr (.inr (.inr (.inr (rfs (fun ii => za + 1 + ii) 16)))))) → S mu9 = some (36, .inl ((g 0), 16, .inl (fun j => nI (MQ j)))) → S po = some (37, .inr (2, [.ref pn, .ref pp])) → S pn = some (38, .inl ((g 0), 3, .inl (fun j => nI (X j).val))) → S pp = some (39, .inl ((g 1), 3, .inr (.inr (.inr (.inr (rfs (fun ii => pp + 1 + ii) 3)))))) → S on = some (560, .inr (1, [.ref na, .int dn])) → S na = some ((560 + 1), .inl ((g 0), 33, .inl (fun j => nI (cn j).val))) → S ot = some (562, .inr (1, [.ref ta, .int dt])) → S ta = some ((562 + 1), .inl ((g 0), 33, .inl (fun j => nI (ct j).val))) → S lo = some (2, .inr (9, [.ref ma, .ref hd, .int (nI n)])) → S ma = some (4, .inl ((g 2), 12, .inr (.inr (.inr (.inr (rfs me 12)))))) → S hd = some (5, .inl ((g 0), 12, .inl hf)) → (rS g 400 48 16 (fun ii => pr + 1 + ii) (fun ii j => nI (PT ii j).val) S) → (rS g 450 16 16 (fun ii => mu + 1 + ii) (fun ii j => nI (MU ii j).val) S) → (rS g 470 16 33 (fun ii => rq1 + 1 + ii) (fun ii j => nI (ρ1 ii j).val) S) → (rS g 490 16 16 (fun ii => rq2 + 1 + ii) (fun ii j => nI (ρ2 ii j).val) S) → (oS g 520 16 fe fz dgE (fun ii j => nI (CF ii j).val) S) → (oS g 570 3 le la dl (fun ii j => nI (CL ii j).val) S) → (rS g 580 3 16 (fun ii => rr + 1 + ii) (fun ii j => nI (RT ii j)) S) → (rS g 590 16 3 (fun ii => za + 1 + ii) (fun ii j => nI (ZZ ii j).val) S) → (rS g 610 3 10 (fun ii => pp + 1 + ii) (fun ii j => nI (W9 ii j).val) S) → (yS g 300 12 me mk mn mcap mz mkf mnf S) → (∀ b t e9, B b = some (t, e9) → ((t < 10 ∨ 40 ≤ t)) → ((t < 400 ∨ 700 ≤ t)) → S b = some (t, e9)) → mp_I D classes A s.heap S H locs → lv_has ls 3 [(2, .int (nI zc)), (1, .ref lo), (0, .ref vo)] → W p l e R s m args below meth c H locs cells slots Q (F0 m 157 ls [])) → W p l e R s m args below meth c H locs cells slots Q (F0 m 124 ls []) := by
  intro k
  induction k with
  | zero =>
    intro i MQ Fa Nx MU z2 ρ2 p2 S H locs ls hi hmu tMU tFa tNx tρ2 h_vo h_d9 h_ra h_ka h_qo h_ky h_pr h_lw h_ll h_mu h_fa h_nx h_re h_so1 h_rq1 h_rp1 h_so2 h_rq2 h_rp2 h_zo h_fs h_lz h_rr h_rc h_za h_mu9 h_po h_pn h_pp h_on h_na h_ot h_ta h_lo h_ma h_hd hP hMU hR1 hR2 hE hLo hRR hZ hW hY hfr hI hl kx
    refine lv_iload_n hx hb d_V_solve_124 rfl (lv_at hl 0 rfl) ?_
    refine lv_aload_n hx hb d_V_solve_125 rfl (lv_at hl 2 rfl) ?_
    refine mp_get (C := R_V) (T := F_V) (N := 11) (v := .int (nI zc)) hx hb hg i_V hown hK.va hI h_vo rfl 9 (by decide) (hg _ q_272) (fun _ h9 => h9) rfl d_V_solve_126 ?_
    refine lv_icmp_ge (tgt := 157) hx hb d_V_solve_129 (by decide) (fun _ => ?_) (fun h9 => absurd ((nI_leI (by omega) (by omega)).mpr (by omega)) h9)
    obtain rfl : i = zc := by omega
    exact kx MQ Fa Nx MU z2 ρ2 p2 S H locs ls hmu tMU tFa tNx tρ2 h_vo h_d9 h_ra h_ka h_qo h_ky h_pr h_lw h_ll h_mu h_fa h_nx h_re h_so1 h_rq1 h_rp1 h_so2 h_rq2 h_rp2 h_zo h_fs h_lz h_rr h_rc h_za h_mu9 h_po h_pn h_pp h_on h_na h_ot h_ta h_lo h_ma h_hd hP hMU hR1 hR2 hE hLo hRR hZ hW hY hfr hI (lv_sub hl [0, 1, 2] rfl)
  | succ k ih =>
    intro i MQ Fa Nx MU z2 ρ2 p2 S H locs ls hi hmu tMU tFa tNx tρ2 h_vo h_d9 h_ra h_ka h_qo h_ky h_pr h_lw h_ll h_mu h_fa h_nx h_re h_so1 h_rq1 h_rp1 h_so2 h_rq2 h_rp2 h_zo h_fs h_lz h_rr h_rc h_za h_mu9 h_po h_pn h_pp h_on h_na h_ot h_ta h_lo h_ma h_hd hP hMU hR1 hR2 hE hLo hRR hZ hW hY hfr hI hl kx
    refine lv_iload_n hx hb d_V_solve_124 rfl (lv_at hl 0 rfl) ?_
    refine lv_aload_n hx hb d_V_solve_125 rfl (lv_at hl 2 rfl) ?_
    refine mp_get (C := R_V) (T := F_V) (N := 11) (v := .int (nI zc)) hx hb hg i_V hown hK.va hI h_vo rfl 9 (by decide) (hg _ q_272) (fun _ h9 => h9) rfl d_V_solve_126 ?_
    refine lv_icmp_ge (tgt := 157) hx hb d_V_solve_129 (by decide) (fun h9 => absurd h9 (by rw [nI_leI (by omega) (by omega)]; omega)) (fun _ => ?_)
    refine lv_aload_n hx hb d_V_solve_132 rfl (lv_at hl 2 rfl) ?_
    refine mp_get (C := R_V) (T := F_V) (N := 11) (v := .ref mu9) hx hb hg i_V hown hK.va hI h_vo rfl 8 (by decide) (hg _ q_270) (fun _ h9 => h9) rfl d_V_solve_133 ?_
    refine lv_iload_n hx hb d_V_solve_136 rfl (lv_at hl 0 rfl) ?_
    refine lv_aload_n hx hb d_V_solve_137 rfl (lv_at hl 2 rfl) ?_
    refine mp_get (C := R_V) (T := F_V) (N := 11) (v := .ref qo) hx hb hg i_V hown hK.va hI h_vo rfl 2 (by decide) (hg _ q_261) (fun _ h9 => h9) rfl d_V_solve_138 ?_
    refine lv_aload_n hx hb d_V_solve_141 rfl (lv_at hl 2 rfl) ?_
    refine mp_get (C := R_V) (T := F_V) (N := 11) (v := .ref za) hx hb hg i_V hown hK.va hI h_vo rfl 7 (by decide) (hg _ q_268) (fun _ h9 => h9) rfl d_V_solve_142 ?_
    refine lv_iload_n hx hb d_V_solve_145 rfl (lv_at hl 0 rfl) ?_
    refine mp_ald2 (b := za + 1 + i) hx hb hK.va hI 1 h_za rfl (vp_in_nI (show i < 16 by omega) (by omega)) (by rw [nI_clamp (by omega)]; exact rfs_at (by omega)) d_V_solve_146 ?_
    refine mp_calli hI (va_runV (As := [.ref (za + 1 + i)]) (rest := [.int (nI i), .ref mu9]) ⟨hx, hb, hml, hown, hg⟩ (c_Q_multiplicityAt l D g S _ qo pr lw ll mu fa so2 rq2 rp2 nx (za + 1 + i) (590 + i) nl s9 (.ref ky) (.ref re) (.ref so1) PT lwf llf (ZZ i) z2 Fa Nx MU ρ2 p2 h_qo h_pr h_lw h_ll h_mu h_fa h_so2 h_rq2 h_rp2 h_nx (hZ i (by omega)) hP hMU hR2 (by omega) hnl hs hlow (hGs (ZZ i)) tFa tNx tρ2 tMU) ⟨(callB_of 1 hg (wd_goodG q_518) rfl rfl rfl (hg _ q_21) (hg _ q_515) (by decide +kernel) ⟨Nat.le_trans (Nat.le_of_ble_eq_true rfl) hRf, Nat.le_trans (Nat.le_of_ble_eq_true rfl) hRl⟩), hg _ q_516, hg _ q_517⟩ (mp_preV (C := R_Q) (T := F_Q) hI hK h_qo rfl [.ref (za + 1 + i)]) rfl rfl hl.1 rfl (lv_room (Nat.le_of_ble_eq_true rfl)) d_V_solve_147 ⟨by omega, by omega⟩) (fun r4 S1 H2 locs p_3 hI => ?_)
    obtain ⟨n9, Fa9, Nx9, MU9, ρ9, p9, hle, rfl, hsp, heq, q_fa, q_nx, q_so2, q_rp2, q_MU, q_R2, tFa9, tNx9, tρ9, tMU9, fq⟩ := p_3
    have h_vo : S1 vo = some (10, .inr (7, [.int (nI nl), .ref d9, .ref qo, .ref zo, .ref lz, .ref rr, .ref rc, .ref za, .ref mu9, .int (nI zc), .ref po])) := fq vo _ _ h_vo (by omega) (by omega) (by omega) (by omega) (by omega) (by omega)
    have h_d9 : S1 d9 = some (11, .inr (5, [.ref ra, .ref ka])) := fq d9 _ _ h_d9 (by omega) (by omega) (by omega) (by omega) (by omega) (by omega)
    have h_ra : S1 ra = some (12, .inl ((g 0), N9, .inl (fun j => nI (zR j).val))) := fq ra _ _ h_ra (by omega) (by omega) (by omega) (by omega) (by omega) (by omega)
    have h_ka : S1 ka = some (13, .inl ((g 0), N9, .inl kp)) := fq ka _ _ h_ka (by omega) (by omega) (by omega) (by omega) (by omega) (by omega)
    have h_qo : S1 qo = some (14, .inr (4, [.int (nI nl), .ref ky, .int (nI s9), .ref pr, .ref lw, .ref ll, .ref mu, .ref fa, .ref nx, .ref re, .ref so1, .ref so2])) := fq qo _ _ h_qo (by omega) (by omega) (by omega) (by omega) (by omega) (by omega)
    have h_ky : S1 ky = some (15, .inl ((g 0), 16, .inl (fun j => nI (kQ j)))) := fq ky _ _ h_ky (by omega) (by omega) (by omega) (by omega) (by omega) (by omega)
    have h_pr : S1 pr = some (16, .inl ((g 1), 48, .inr (.inr (.inr (.inr (rfs (fun ii => pr + 1 + ii) 48)))))) := fq pr _ _ h_pr (by omega) (by omega) (by omega) (by omega) (by omega) (by omega)
    have h_lw : S1 lw = some (17, .inl ((g 0), 16, .inl (fun j => nI (lwf j)))) := fq lw _ _ h_lw (by omega) (by omega) (by omega) (by omega) (by omega) (by omega)
    have h_ll : S1 ll = some (18, .inl ((g 0), 16, .inl (fun j => nI (llf j)))) := fq ll _ _ h_ll (by omega) (by omega) (by omega) (by omega) (by omega) (by omega)
    have h_mu : S1 mu = some (19, .inl ((g 1), 16, .inr (.inr (.inr (.inr (rfs (fun ii => mu + 1 + ii) 16)))))) := fq mu _ _ h_mu (by omega) (by omega) (by omega) (by omega) (by omega) (by omega)
    have h_re : S1 re = some (22, .inl ((g 0), 33, .inl (fun j => nI (Re j).val))) := fq re _ _ h_re (by omega) (by omega) (by omega) (by omega) (by omega) (by omega)
    have h_so1 : S1 so1 = some (23, .inr (8, [.ref rq1, .ref rp1, .int z1])) := fq so1 _ _ h_so1 (by omega) (by omega) (by omega) (by omega) (by omega) (by omega)
    have h_rq1 : S1 rq1 = some (24, .inl ((g 1), 16, .inr (.inr (.inr (.inr (rfs (fun ii => rq1 + 1 + ii) 16)))))) := fq rq1 _ _ h_rq1 (by omega) (by omega) (by omega) (by omega) (by omega) (by omega)
    have h_rp1 : S1 rp1 = some (25, .inl ((g 0), 16, .inl (fun j => nI (p1 j)))) := fq rp1 _ _ h_rp1 (by omega) (by omega) (by omega) (by omega) (by omega) (by omega)
    have h_rq2 : S1 rq2 = some (27, .inl ((g 1), 16, .inr (.inr (.inr (.inr (rfs (fun ii => rq2 + 1 + ii) 16)))))) := fq rq2 _ _ h_rq2 (by omega) (by omega) (by omega) (by omega) (by omega) (by omega)
    have h_zo : S1 zo = some (30, .inr (6, [.ref fs, .int z3, .ref on, .ref ot])) := fq zo _ _ h_zo (by omega) (by omega) (by omega) (by omega) (by omega) (by omega)
    have h_fs : S1 fs = some (31, .inl ((g 3), 16, .inr (.inr (.inr (.inr (rfs fe 16)))))) := fq fs _ _ h_fs (by omega) (by omega) (by omega) (by omega) (by omega) (by omega)
    have h_lz : S1 lz = some (32, .inl ((g 3), 3, .inr (.inr (.inr (.inr (rfs le 3)))))) := fq lz _ _ h_lz (by omega) (by omega) (by omega) (by omega) (by omega) (by omega)
    have h_rr : S1 rr = some (33, .inl ((g 1), 3, .inr (.inr (.inr (.inr (rfs (fun ii => rr + 1 + ii) 3)))))) := fq rr _ _ h_rr (by omega) (by omega) (by omega) (by omega) (by omega) (by omega)
    have h_rc : S1 rc = some (34, .inl ((g 0), 3, .inl (fun j => nI (RC j)))) := fq rc _ _ h_rc (by omega) (by omega) (by omega) (by omega) (by omega) (by omega)
    have h_za : S1 za = some (35, .inl ((g 1), 16, .inr (.inr (.inr (.inr (rfs (fun ii => za + 1 + ii) 16)))))) := fq za _ _ h_za (by omega) (by omega) (by omega) (by omega) (by omega) (by omega)
    have h_mu9 : S1 mu9 = some (36, .inl ((g 0), 16, .inl (fun j => nI (MQ j)))) := fq mu9 _ _ h_mu9 (by omega) (by omega) (by omega) (by omega) (by omega) (by omega)
    have h_po : S1 po = some (37, .inr (2, [.ref pn, .ref pp])) := fq po _ _ h_po (by omega) (by omega) (by omega) (by omega) (by omega) (by omega)
    have h_pn : S1 pn = some (38, .inl ((g 0), 3, .inl (fun j => nI (X j).val))) := fq pn _ _ h_pn (by omega) (by omega) (by omega) (by omega) (by omega) (by omega)
    have h_pp : S1 pp = some (39, .inl ((g 1), 3, .inr (.inr (.inr (.inr (rfs (fun ii => pp + 1 + ii) 3)))))) := fq pp _ _ h_pp (by omega) (by omega) (by omega) (by omega) (by omega) (by omega)
    have h_on : S1 on = some (560, .inr (1, [.ref na, .int dn])) := fq on _ _ h_on (by omega) (by omega) (by omega) (by omega) (by omega) (by omega)
    have h_na : S1 na = some ((560 + 1), .inl ((g 0), 33, .inl (fun j => nI (cn j).val))) := fq na _ _ h_na (by omega) (by omega) (by omega) (by omega) (by omega) (by omega)
    have h_ot : S1 ot = some (562, .inr (1, [.ref ta, .int dt])) := fq ot _ _ h_ot (by omega) (by omega) (by omega) (by omega) (by omega) (by omega)
    have h_ta : S1 ta = some ((562 + 1), .inl ((g 0), 33, .inl (fun j => nI (ct j).val))) := fq ta _ _ h_ta (by omega) (by omega) (by omega) (by omega) (by omega) (by omega)
    have h_lo : S1 lo = some (2, .inr (9, [.ref ma, .ref hd, .int (nI n)])) := fq lo _ _ h_lo (by omega) (by omega) (by omega) (by omega) (by omega) (by omega)
    have h_ma : S1 ma = some (4, .inl ((g 2), 12, .inr (.inr (.inr (.inr (rfs me 12)))))) := fq ma _ _ h_ma (by omega) (by omega) (by omega) (by omega) (by omega) (by omega)
    have h_hd : S1 hd = some (5, .inl ((g 0), 12, .inl hf)) := fq hd _ _ h_hd (by omega) (by omega) (by omega) (by omega) (by omega) (by omega)
    have hfr : ∀ b t e9, B b = some (t, e9) → ((t < 10 ∨ 40 ≤ t)) → ((t < 400 ∨ 700 ≤ t)) → S1 b = some (t, e9) := fun b t e9 h9 k0 k1 => by have h8 := hfr b t e9 h9 k0 k1; exact fq b _ _ h8 (by omega) (by omega) (by omega) (by omega) (by omega) (by omega)
    have hP := rS_kept hP (S1 := S1) (fun b t9 e9 hb9 h1 h2 => by have h8 : S1 b = some (t9, e9) := fq b _ _ hb9 (by omega) (by omega) (by omega) (by omega) (by omega) (by omega); rw [h8, hb9])
    have hR1 := rS_kept hR1 (S1 := S1) (fun b t9 e9 hb9 h1 h2 => by have h8 : S1 b = some (t9, e9) := fq b _ _ hb9 (by omega) (by omega) (by omega) (by omega) (by omega) (by omega); rw [h8, hb9])
    have hE := oS_kept hE (S1 := S1) (fun b t9 e9 hb9 h1 h2 => by have h8 : S1 b = some (t9, e9) := fq b _ _ hb9 (by omega) (by omega) (by omega) (by omega) (by omega) (by omega); rw [h8, hb9])
    have hLo := oS_kept hLo (S1 := S1) (fun b t9 e9 hb9 h1 h2 => by have h8 : S1 b = some (t9, e9) := fq b _ _ hb9 (by omega) (by omega) (by omega) (by omega) (by omega) (by omega); rw [h8, hb9])
    have hRR := rS_kept hRR (S1 := S1) (fun b t9 e9 hb9 h1 h2 => by have h8 : S1 b = some (t9, e9) := fq b _ _ hb9 (by omega) (by omega) (by omega) (by omega) (by omega) (by omega); rw [h8, hb9])
    have hZ := rS_kept hZ (S1 := S1) (fun b t9 e9 hb9 h1 h2 => by have h8 : S1 b = some (t9, e9) := fq b _ _ hb9 (by omega) (by omega) (by omega) (by omega) (by omega) (by omega); rw [h8, hb9])
    have hW := rS_kept hW (S1 := S1) (fun b t9 e9 hb9 h1 h2 => by have h8 : S1 b = some (t9, e9) := fq b _ _ hb9 (by omega) (by omega) (by omega) (by omega) (by omega) (by omega); rw [h8, hb9])
    have hY := yS_kept hY (S1 := S1) (fun b t9 e9 hb9 h1 h2 => by have h8 : S1 b = some (t9, e9) := fq b _ _ hb9 (by omega) (by omega) (by omega) (by omega) (by omega) (by omega); rw [h8, hb9])
    have h_fa := q_fa
    have h_nx := q_nx
    have h_so2 := q_so2
    have h_rp2 := q_rp2
    have hMU := q_MU
    have hR2 := q_R2
    refine mp_iast hx hb hK.va hI 0 h_mu9 rfl (vp_in_nI (show i < 16 by omega) (by omega)) d_V_solve_150 (fun S5 H6 locs e_7 hI => ?_)
    have h_mu9_o := h_mu9
    have e_7 : S5 = va_up S1 mu9 (some (36, .inl ((g 0), 16, .inl (upd (fun j => nI (MQ j)) (nI i).toNatClampNeg (nI (s9 - n9)))))) := e_7
    have h_mu9_o := h_mu9
    have h_vo : S5 vo = some (10, .inr (7, [.int (nI nl), .ref d9, .ref qo, .ref zo, .ref lz, .ref rr, .ref rc, .ref za, .ref mu9, .int (nI zc), .ref po])) := by rw [e_7]; exact mp_keep h_vo h_mu9 (by decide)
    have h_d9 : S5 d9 = some (11, .inr (5, [.ref ra, .ref ka])) := by rw [e_7]; exact mp_keep h_d9 h_mu9 (by decide)
    have h_ra : S5 ra = some (12, .inl ((g 0), N9, .inl (fun j => nI (zR j).val))) := by rw [e_7]; exact mp_keep h_ra h_mu9 (by decide)
    have h_ka : S5 ka = some (13, .inl ((g 0), N9, .inl kp)) := by rw [e_7]; exact mp_keep h_ka h_mu9 (by decide)
    have h_qo : S5 qo = some (14, .inr (4, [.int (nI nl), .ref ky, .int (nI s9), .ref pr, .ref lw, .ref ll, .ref mu, .ref fa, .ref nx, .ref re, .ref so1, .ref so2])) := by rw [e_7]; exact mp_keep h_qo h_mu9 (by decide)
    have h_ky : S5 ky = some (15, .inl ((g 0), 16, .inl (fun j => nI (kQ j)))) := by rw [e_7]; exact mp_keep h_ky h_mu9 (by decide)
    have h_pr : S5 pr = some (16, .inl ((g 1), 48, .inr (.inr (.inr (.inr (rfs (fun ii => pr + 1 + ii) 48)))))) := by rw [e_7]; exact mp_keep h_pr h_mu9 (by decide)
    have h_lw : S5 lw = some (17, .inl ((g 0), 16, .inl (fun j => nI (lwf j)))) := by rw [e_7]; exact mp_keep h_lw h_mu9 (by decide)
    have h_ll : S5 ll = some (18, .inl ((g 0), 16, .inl (fun j => nI (llf j)))) := by rw [e_7]; exact mp_keep h_ll h_mu9 (by decide)
    have h_mu : S5 mu = some (19, .inl ((g 1), 16, .inr (.inr (.inr (.inr (rfs (fun ii => mu + 1 + ii) 16)))))) := by rw [e_7]; exact mp_keep h_mu h_mu9 (by decide)
    have h_fa : S5 fa = some (20, .inl ((g 0), 16, .inl (fun j => nI (Fa9 j).val))) := by rw [e_7]; exact mp_keep h_fa h_mu9 (by decide)
    have h_nx : S5 nx = some (21, .inl ((g 0), 16, .inl (fun j => nI (Nx9 j).val))) := by rw [e_7]; exact mp_keep h_nx h_mu9 (by decide)
    have h_re : S5 re = some (22, .inl ((g 0), 33, .inl (fun j => nI (Re j).val))) := by rw [e_7]; exact mp_keep h_re h_mu9 (by decide)
    have h_so1 : S5 so1 = some (23, .inr (8, [.ref rq1, .ref rp1, .int z1])) := by rw [e_7]; exact mp_keep h_so1 h_mu9 (by decide)
    have h_rq1 : S5 rq1 = some (24, .inl ((g 1), 16, .inr (.inr (.inr (.inr (rfs (fun ii => rq1 + 1 + ii) 16)))))) := by rw [e_7]; exact mp_keep h_rq1 h_mu9 (by decide)
    have h_rp1 : S5 rp1 = some (25, .inl ((g 0), 16, .inl (fun j => nI (p1 j)))) := by rw [e_7]; exact mp_keep h_rp1 h_mu9 (by decide)
    have h_so2 : S5 so2 = some (26, .inr (8, [.ref rq2, .ref rp2, .int (nI n9)])) := by rw [e_7]; exact mp_keep h_so2 h_mu9 (by decide)
    have h_rq2 : S5 rq2 = some (27, .inl ((g 1), 16, .inr (.inr (.inr (.inr (rfs (fun ii => rq2 + 1 + ii) 16)))))) := by rw [e_7]; exact mp_keep h_rq2 h_mu9 (by decide)
    have h_rp2 : S5 rp2 = some (28, .inl ((g 0), 16, .inl (fun j => nI (p9 j)))) := by rw [e_7]; exact mp_keep h_rp2 h_mu9 (by decide)
    have h_zo : S5 zo = some (30, .inr (6, [.ref fs, .int z3, .ref on, .ref ot])) := by rw [e_7]; exact mp_keep h_zo h_mu9 (by decide)
    have h_fs : S5 fs = some (31, .inl ((g 3), 16, .inr (.inr (.inr (.inr (rfs fe 16)))))) := by rw [e_7]; exact mp_keep h_fs h_mu9 (by decide)
    have h_lz : S5 lz = some (32, .inl ((g 3), 3, .inr (.inr (.inr (.inr (rfs le 3)))))) := by rw [e_7]; exact mp_keep h_lz h_mu9 (by decide)
    have h_rr : S5 rr = some (33, .inl ((g 1), 3, .inr (.inr (.inr (.inr (rfs (fun ii => rr + 1 + ii) 3)))))) := by rw [e_7]; exact mp_keep h_rr h_mu9 (by decide)
    have h_rc : S5 rc = some (34, .inl ((g 0), 3, .inl (fun j => nI (RC j)))) := by rw [e_7]; exact mp_keep h_rc h_mu9 (by decide)
    have h_za : S5 za = some (35, .inl ((g 1), 16, .inr (.inr (.inr (.inr (rfs (fun ii => za + 1 + ii) 16)))))) := by rw [e_7]; exact mp_keep h_za h_mu9 (by decide)
    have h_po : S5 po = some (37, .inr (2, [.ref pn, .ref pp])) := by rw [e_7]; exact mp_keep h_po h_mu9 (by decide)
    have h_pn : S5 pn = some (38, .inl ((g 0), 3, .inl (fun j => nI (X j).val))) := by rw [e_7]; exact mp_keep h_pn h_mu9 (by decide)
    have h_pp : S5 pp = some (39, .inl ((g 1), 3, .inr (.inr (.inr (.inr (rfs (fun ii => pp + 1 + ii) 3)))))) := by rw [e_7]; exact mp_keep h_pp h_mu9 (by decide)
    have h_on : S5 on = some (560, .inr (1, [.ref na, .int dn])) := by rw [e_7]; exact mp_keep h_on h_mu9 (by decide)
    have h_na : S5 na = some ((560 + 1), .inl ((g 0), 33, .inl (fun j => nI (cn j).val))) := by rw [e_7]; exact mp_keep h_na h_mu9 (by omega)
    have h_ot : S5 ot = some (562, .inr (1, [.ref ta, .int dt])) := by rw [e_7]; exact mp_keep h_ot h_mu9 (by decide)
    have h_ta : S5 ta = some ((562 + 1), .inl ((g 0), 33, .inl (fun j => nI (ct j).val))) := by rw [e_7]; exact mp_keep h_ta h_mu9 (by omega)
    have h_lo : S5 lo = some (2, .inr (9, [.ref ma, .ref hd, .int (nI n)])) := by rw [e_7]; exact mp_keep h_lo h_mu9 (by decide)
    have h_ma : S5 ma = some (4, .inl ((g 2), 12, .inr (.inr (.inr (.inr (rfs me 12)))))) := by rw [e_7]; exact mp_keep h_ma h_mu9 (by decide)
    have h_hd : S5 hd = some (5, .inl ((g 0), 12, .inl hf)) := by rw [e_7]; exact mp_keep h_hd h_mu9 (by decide)
    have h_mu9 : S5 mu9 = some (36, .inl ((g 0), 16, .inl (upd (fun j => nI (MQ j)) (nI i).toNatClampNeg (nI (s9 - n9))))) := by rw [e_7]; exact mp_us _ _ _
    have hP := rS_kept hP (S1 := S5) (fun b t9 e9 hb9 h1 h2 => by rw [e_7]; exact mp_un (mp_ne hb9 h_mu9_o (by omega)))
    have hR1 := rS_kept hR1 (S1 := S5) (fun b t9 e9 hb9 h1 h2 => by rw [e_7]; exact mp_un (mp_ne hb9 h_mu9_o (by omega)))
    have hE := oS_kept hE (S1 := S5) (fun b t9 e9 hb9 h1 h2 => by rw [e_7]; exact mp_un (mp_ne hb9 h_mu9_o (by omega)))
    have hLo := oS_kept hLo (S1 := S5) (fun b t9 e9 hb9 h1 h2 => by rw [e_7]; exact mp_un (mp_ne hb9 h_mu9_o (by omega)))
    have hRR := rS_kept hRR (S1 := S5) (fun b t9 e9 hb9 h1 h2 => by rw [e_7]; exact mp_un (mp_ne hb9 h_mu9_o (by omega)))
    have hZ := rS_kept hZ (S1 := S5) (fun b t9 e9 hb9 h1 h2 => by rw [e_7]; exact mp_un (mp_ne hb9 h_mu9_o (by omega)))
    have hW := rS_kept hW (S1 := S5) (fun b t9 e9 hb9 h1 h2 => by rw [e_7]; exact mp_un (mp_ne hb9 h_mu9_o (by omega)))
    have hY := yS_kept hY (S1 := S5) (fun b t9 e9 hb9 h1 h2 => by rw [e_7]; exact mp_un (mp_ne hb9 h_mu9_o (by omega)))
    have hMU := rS_kept hMU (S1 := S5) (fun b t9 e9 hb9 h1 h2 => by rw [e_7]; exact mp_un (mp_ne hb9 h_mu9_o (by omega)))
    have hR2 := rS_kept hR2 (S1 := S5) (fun b t9 e9 hb9 h1 h2 => by rw [e_7]; exact mp_un (mp_ne hb9 h_mu9_o (by omega)))
    have hfr : ∀ b t e9, B b = some (t, e9) → ((t < 10 ∨ 40 ≤ t)) → ((t < 400 ∨ 700 ≤ t)) → S5 b = some (t, e9) := fun b t e9 h9 k0 k1 => by rw [e_7]; exact mp_keep (hfr b t e9 h9 k0 k1) h_mu9_o (by omega)
    rw [nI_clamp (by omega), nIf_up] at h_mu9
    refine lv_iinc (v := nI (i + 1)) (lv' := [(2, .int (nI (i + 1))), (1, .ref lo), (0, .ref vo)]) hx hb d_V_solve_151 hl (k := 0) rfl (nI_1 _) (by decide) rfl (fun ls hl => ?_)
    refine lv_goto (tgt := 124) hx hb d_V_solve_154 (by decide) ?_
    exact ih (i + 1) (va_up MQ i (s9 - n9)) Fa9 Nx9 MU9 (nI n9) ρ9 p9 S5 H6 locs ls (by omega) (fun k8 hk8 => by by_cases e9 : k8 = i; exact (by rw [e9, mp_us]; exact mu_of hpt hsp heq); exact (by rw [mp_un e9]; exact hmu k8 (by omega))) tMU9 tFa9 tNx9 tρ9 h_vo h_d9 h_ra h_ka h_qo h_ky h_pr h_lw h_ll h_mu h_fa h_nx h_re h_so1 h_rq1 h_rp1 h_so2 h_rq2 h_rp2 h_zo h_fs h_lz h_rr h_rc h_za h_mu9 h_po h_pn h_pp h_on h_na h_ot h_ta h_lo h_ma h_hd hP hMU hR1 hR2 hE hLo hRR hZ hW hY hfr hI (lv_sub hl [0, 1, 2] rfl) kx
set_option maxHeartbeats 4000000 in
set_option maxRecDepth 100000 in
/-- the class: solve -/
theorem c_V_solve (l : Launch) (D : mp_G) (g : Nat → ClassId) (S : mp_M) (sz : Nat) (vo d9 ra ka qo ky pr lw ll mu fa nx re so1 rq1 rp1 so2 rq2 rp2 zo fs lz rr rc za mu9 po pn pp on na ot ta lo ma hd n nl N9 : Nat) (fe fz le la : Nat → Nat) (kp : Nat → Int32) (me mk mn mcap mz : Nat → Nat) (mkf mnf : Nat → Nat → Int32) (hf : Nat → Int32) (h : Nat → m3) (z : Nat → Nat) (mo : Nat → Nat → m3) (co : Nat → Nat → fF) (s1 : Int32) (kQ : Nat → Nat) (PT : Nat → Nat → fF) (lwf : Nat → Nat) (llf : Nat → Nat) (MU : Nat → Nat → fF) (Fa : Nat → fF) (Nx : Nat → fF) (Re : Nat → fF) (z1 : Int32) (ρ1 : Nat → Nat → fF) (p1 : Nat → Nat) (z2 : Int32) (ρ2 : Nat → Nat → fF) (p2 : Nat → Nat) (z3 : Int32) (dn : Int32) (cn : Nat → fF) (dt : Int32) (ct : Nat → fF) (dgE : Nat → Int32) (CF : Nat → Nat → fF) (dl : Nat → Int32) (CL : Nat → Nat → fF) (RT : Nat → Nat → Nat) (RC : Nat → Nat) (ZZ : Nat → Nat → fF) (MQ : Nat → Nat) (X : Nat → fF) (W9 : Nat → Nat → fF) (zc1 : Int32) (h_vo : S vo = some (10, .inr (7, [.int (nI nl), .ref d9, .ref qo, .ref zo, .ref lz, .ref rr, .ref rc, .ref za, .ref mu9, .int zc1, .ref po]))) (h_d9 : S d9 = some (11, .inr (5, [.ref ra, .ref ka]))) (h_ra : S ra = some (12, .inl ((g 0), N9, .inl (fun j => nI (zR j).val)))) (h_ka : S ka = some (13, .inl ((g 0), N9, .inl kp))) (h_qo : S qo = some (14, .inr (4, [.int (nI nl), .ref ky, .int s1, .ref pr, .ref lw, .ref ll, .ref mu, .ref fa, .ref nx, .ref re, .ref so1, .ref so2]))) (h_ky : S ky = some (15, .inl ((g 0), 16, .inl (fun j => nI (kQ j))))) (h_pr : S pr = some (16, .inl ((g 1), 48, .inr (.inr (.inr (.inr (rfs (fun ii => pr + 1 + ii) 48))))))) (h_lw : S lw = some (17, .inl ((g 0), 16, .inl (fun j => nI (lwf j))))) (h_ll : S ll = some (18, .inl ((g 0), 16, .inl (fun j => nI (llf j))))) (h_mu : S mu = some (19, .inl ((g 1), 16, .inr (.inr (.inr (.inr (rfs (fun ii => mu + 1 + ii) 16))))))) (h_fa : S fa = some (20, .inl ((g 0), 16, .inl (fun j => nI (Fa j).val)))) (h_nx : S nx = some (21, .inl ((g 0), 16, .inl (fun j => nI (Nx j).val)))) (h_re : S re = some (22, .inl ((g 0), 33, .inl (fun j => nI (Re j).val)))) (h_so1 : S so1 = some (23, .inr (8, [.ref rq1, .ref rp1, .int z1]))) (h_rq1 : S rq1 = some (24, .inl ((g 1), 16, .inr (.inr (.inr (.inr (rfs (fun ii => rq1 + 1 + ii) 16))))))) (h_rp1 : S rp1 = some (25, .inl ((g 0), 16, .inl (fun j => nI (p1 j))))) (h_so2 : S so2 = some (26, .inr (8, [.ref rq2, .ref rp2, .int z2]))) (h_rq2 : S rq2 = some (27, .inl ((g 1), 16, .inr (.inr (.inr (.inr (rfs (fun ii => rq2 + 1 + ii) 16))))))) (h_rp2 : S rp2 = some (28, .inl ((g 0), 16, .inl (fun j => nI (p2 j))))) (h_zo : S zo = some (30, .inr (6, [.ref fs, .int z3, .ref on, .ref ot]))) (h_fs : S fs = some (31, .inl ((g 3), 16, .inr (.inr (.inr (.inr (rfs fe 16))))))) (h_lz : S lz = some (32, .inl ((g 3), 3, .inr (.inr (.inr (.inr (rfs le 3))))))) (h_rr : S rr = some (33, .inl ((g 1), 3, .inr (.inr (.inr (.inr (rfs (fun ii => rr + 1 + ii) 3))))))) (h_rc : S rc = some (34, .inl ((g 0), 3, .inl (fun j => nI (RC j))))) (h_za : S za = some (35, .inl ((g 1), 16, .inr (.inr (.inr (.inr (rfs (fun ii => za + 1 + ii) 16))))))) (h_mu9 : S mu9 = some (36, .inl ((g 0), 16, .inl (fun j => nI (MQ j))))) (h_po : S po = some (37, .inr (2, [.ref pn, .ref pp]))) (h_pn : S pn = some (38, .inl ((g 0), 3, .inl (fun j => nI (X j).val)))) (h_pp : S pp = some (39, .inl ((g 1), 3, .inr (.inr (.inr (.inr (rfs (fun ii => pp + 1 + ii) 3))))))) (h_on : S on = some (560, .inr (1, [.ref na, .int dn]))) (h_na : S na = some ((560 + 1), .inl ((g 0), 33, .inl (fun j => nI (cn j).val)))) (h_ot : S ot = some (562, .inr (1, [.ref ta, .int dt]))) (h_ta : S ta = some ((562 + 1), .inl ((g 0), 33, .inl (fun j => nI (ct j).val)))) (h_lo : S lo = some (2, .inr (9, [.ref ma, .ref hd, .int (nI n)]))) (h_ma : S ma = some (4, .inl ((g 2), 12, .inr (.inr (.inr (.inr (rfs me 12))))))) (h_hd : S hd = some (5, .inl ((g 0), 12, .inl hf))) (hP : rS g 400 48 16 (fun ii => pr + 1 + ii) (fun ii j => nI (PT ii j).val) S) (hMU : rS g 450 16 16 (fun ii => mu + 1 + ii) (fun ii j => nI (MU ii j).val) S) (hR1 : rS g 470 16 33 (fun ii => rq1 + 1 + ii) (fun ii j => nI (ρ1 ii j).val) S) (hR2 : rS g 490 16 16 (fun ii => rq2 + 1 + ii) (fun ii j => nI (ρ2 ii j).val) S) (hE : oS g 520 16 fe fz dgE (fun ii j => nI (CF ii j).val) S) (hLo : oS g 570 3 le la dl (fun ii j => nI (CL ii j).val) S) (hRR : rS g 580 3 16 (fun ii => rr + 1 + ii) (fun ii j => nI (RT ii j)) S) (hZ : rS g 590 16 3 (fun ii => za + 1 + ii) (fun ii j => nI (ZZ ii j).val) S) (hW : rS g 610 3 10 (fun ii => pp + 1 + ii) (fun ii j => nI (W9 ii j).val) S) (hY : yS g 300 12 me mk mn mcap mz mkf mnf S) (hB : lsB n h z mo co mcap mz mkf mnf hf) (hnl : nl ≤ 3) (hn1 : 1 ≤ nl) (hFL : FL kp N9) (hN9 : N9 = tr3 (9 * nl + 1)) (hIn : ∀ i, i < n → ∀ k, k < z i → InL nl (mo i k)) (hone : ∀ l, nl ≤ l → l < 3 → RC l = 1 ∧ RT l 0 = 0) (tPT : ∀ r, trn 16 (PT r)) (tMU : ∀ r, trn 16 (MU r)) (tFa : trn 16 Fa) (tNx : trn 16 Nx) (tRe : trn 33 Re) (tρ1 : ∀ r, trn 33 (ρ1 r)) (tρ2 : ∀ r, trn 16 (ρ2 r)) (tcn : trn 33 cn) (tct : trn 33 ct) (tCF : ∀ i, trn 33 (CF i)) (tCL : ∀ i, trn 33 (CL i)) : Met l y_V_solve w_V_solve ({ frames := 6, cells := 0, slots := 0, locals := 139 }) (va_Pc [.ref vo, .ref lo] (mp_B0 D classes (tys g) S sz)) (va_Qi (fun (r : Int32) (S1 : mp_M) => ∃ (s1_ : Int32) (kQ_ : Nat → Nat) (PT_ : Nat → Nat → fF) (lwf_ : Nat → Nat) (llf_ : Nat → Nat) (MU_ : Nat → Nat → fF) (Fa_ : Nat → fF) (Nx_ : Nat → fF) (Re_ : Nat → fF) (z1_ : Int32) (ρ1_ : Nat → Nat → fF) (p1_ : Nat → Nat) (z2_ : Int32) (ρ2_ : Nat → Nat → fF) (p2_ : Nat → Nat) (z3_ : Int32) (dn_ : Int32) (cn_ : Nat → fF) (dt_ : Int32) (ct_ : Nat → fF) (dgE_ : Nat → Int32) (CF_ : Nat → Nat → fF) (dl_ : Nat → Int32) (CL_ : Nat → Nat → fF) (RT_ : Nat → Nat → Nat) (RC_ : Nat → Nat) (ZZ_ : Nat → Nat → fF) (MQ_ : Nat → Nat) (X_ : Nat → fF) (W9_ : Nat → Nat → fF) (zc1_ : Int32), roB n h z mo co nl r s1_ zc1_ kQ_ dl_ CL_ ZZ_ MQ_ ∧ (∀ l, nl ≤ l → l < 3 → RC_ l = 1 ∧ RT_ l 0 = 0) ∧ (∀ r, trn 16 (PT_ r)) ∧ (∀ r, trn 16 (MU_ r)) ∧ (trn 16 Fa_) ∧ (trn 16 Nx_) ∧ (trn 33 Re_) ∧ (∀ r, trn 33 (ρ1_ r)) ∧ (∀ r, trn 16 (ρ2_ r)) ∧ (trn 33 cn_) ∧ (trn 33 ct_) ∧ (∀ i, trn 33 (CF_ i)) ∧ (∀ i, trn 33 (CL_ i)) ∧ S1 vo = some (10, .inr (7, [.int (nI nl), .ref d9, .ref qo, .ref zo, .ref lz, .ref rr, .ref rc, .ref za, .ref mu9, .int zc1_, .ref po])) ∧ S1 d9 = some (11, .inr (5, [.ref ra, .ref ka])) ∧ S1 ra = some (12, .inl ((g 0), N9, .inl (fun j => nI (zR j).val))) ∧ S1 ka = some (13, .inl ((g 0), N9, .inl kp)) ∧ S1 qo = some (14, .inr (4, [.int (nI nl), .ref ky, .int s1_, .ref pr, .ref lw, .ref ll, .ref mu, .ref fa, .ref nx, .ref re, .ref so1, .ref so2])) ∧ S1 ky = some (15, .inl ((g 0), 16, .inl (fun j => nI (kQ_ j)))) ∧ S1 pr = some (16, .inl ((g 1), 48, .inr (.inr (.inr (.inr (rfs (fun ii => pr + 1 + ii) 48)))))) ∧ S1 lw = some (17, .inl ((g 0), 16, .inl (fun j => nI (lwf_ j)))) ∧ S1 ll = some (18, .inl ((g 0), 16, .inl (fun j => nI (llf_ j)))) ∧ S1 mu = some (19, .inl ((g 1), 16, .inr (.inr (.inr (.inr (rfs (fun ii => mu + 1 + ii) 16)))))) ∧ S1 fa = some (20, .inl ((g 0), 16, .inl (fun j => nI (Fa_ j).val))) ∧ S1 nx = some (21, .inl ((g 0), 16, .inl (fun j => nI (Nx_ j).val))) ∧ S1 re = some (22, .inl ((g 0), 33, .inl (fun j => nI (Re_ j).val))) ∧ S1 so1 = some (23, .inr (8, [.ref rq1, .ref rp1, .int z1_])) ∧ S1 rq1 = some (24, .inl ((g 1), 16, .inr (.inr (.inr (.inr (rfs (fun ii => rq1 + 1 + ii) 16)))))) ∧ S1 rp1 = some (25, .inl ((g 0), 16, .inl (fun j => nI (p1_ j)))) ∧ S1 so2 = some (26, .inr (8, [.ref rq2, .ref rp2, .int z2_])) ∧ S1 rq2 = some (27, .inl ((g 1), 16, .inr (.inr (.inr (.inr (rfs (fun ii => rq2 + 1 + ii) 16)))))) ∧ S1 rp2 = some (28, .inl ((g 0), 16, .inl (fun j => nI (p2_ j)))) ∧ S1 zo = some (30, .inr (6, [.ref fs, .int z3_, .ref on, .ref ot])) ∧ S1 fs = some (31, .inl ((g 3), 16, .inr (.inr (.inr (.inr (rfs fe 16)))))) ∧ S1 lz = some (32, .inl ((g 3), 3, .inr (.inr (.inr (.inr (rfs le 3)))))) ∧ S1 rr = some (33, .inl ((g 1), 3, .inr (.inr (.inr (.inr (rfs (fun ii => rr + 1 + ii) 3)))))) ∧ S1 rc = some (34, .inl ((g 0), 3, .inl (fun j => nI (RC_ j)))) ∧ S1 za = some (35, .inl ((g 1), 16, .inr (.inr (.inr (.inr (rfs (fun ii => za + 1 + ii) 16)))))) ∧ S1 mu9 = some (36, .inl ((g 0), 16, .inl (fun j => nI (MQ_ j)))) ∧ S1 po = some (37, .inr (2, [.ref pn, .ref pp])) ∧ S1 pn = some (38, .inl ((g 0), 3, .inl (fun j => nI (X_ j).val))) ∧ S1 pp = some (39, .inl ((g 1), 3, .inr (.inr (.inr (.inr (rfs (fun ii => pp + 1 + ii) 3)))))) ∧ S1 on = some (560, .inr (1, [.ref na, .int dn_])) ∧ S1 na = some ((560 + 1), .inl ((g 0), 33, .inl (fun j => nI (cn_ j).val))) ∧ S1 ot = some (562, .inr (1, [.ref ta, .int dt_])) ∧ S1 ta = some ((562 + 1), .inl ((g 0), 33, .inl (fun j => nI (ct_ j).val))) ∧ (rS g 400 48 16 (fun ii => pr + 1 + ii) (fun ii j => nI (PT_ ii j).val) S1) ∧ (rS g 450 16 16 (fun ii => mu + 1 + ii) (fun ii j => nI (MU_ ii j).val) S1) ∧ (rS g 470 16 33 (fun ii => rq1 + 1 + ii) (fun ii j => nI (ρ1_ ii j).val) S1) ∧ (rS g 490 16 16 (fun ii => rq2 + 1 + ii) (fun ii j => nI (ρ2_ ii j).val) S1) ∧ (oS g 520 16 fe fz dgE_ (fun ii j => nI (CF_ ii j).val) S1) ∧ (oS g 570 3 le la dl_ (fun ii j => nI (CL_ ii j).val) S1) ∧ (rS g 580 3 16 (fun ii => rr + 1 + ii) (fun ii j => nI (RT_ ii j)) S1) ∧ (rS g 590 16 3 (fun ii => za + 1 + ii) (fun ii j => nI (ZZ_ ii j).val) S1) ∧ (rS g 610 3 10 (fun ii => pp + 1 + ii) (fun ii j => nI (W9_ ii j).val) S1) ∧ (∀ b t e9, S b = some (t, e9) → ((t < 10 ∨ 40 ≤ t)) → ((t < 400 ∨ 700 ≤ t)) → S1 b = some (t, e9))) (mp_B1 D classes S sz) (mp_A S sz)) 0 0 (mp_A S sz) := by
  refine Met.ofW (cc := b_V_solve) (maxL := 3) (ret := (some .int)) (by decide) rfl ?_
  intro p e s m args below meth c s₁ B hml hv
  obtain ⟨rfl, hsz, hH, hK⟩ := hv
  have hx := B.exec
  have hb := B.bytes
  have hr := B.returns
  have hts := atoms_spec (ws := w_V_solve) B.pre
  have hg : ∀ w ∈ gw, w.before _ s = true := fun w h => hts w (List.mem_cons_of_mem _ h)
  have hown : s.vm.findClass R_V = some m.cls := findClass_of_methodNamed B.named
  have hlocks := B.notSynchronized
  subst hsz
  have hI := mp_I.start hH
  have hl := lv_entry ([.ref vo, .ref lo]) (n := 3) (Nat.le_of_ble_eq_true rfl)
  rw [lg_entry_eq]
  generalize (lg_sl ([.ref vo, .ref lo]) ++ List.replicate (3 - (lg_sl ([.ref vo, .ref lo])).length) Slot.unset).toArray = ls at hl ⊢
  have hl : lv_has ls 3 [(0, .ref vo), (1, .ref lo)] := hl
  have hfr : ∀ b t e9, S b = some (t, e9) → ((t < 10 ∨ 40 ≤ t)) → ((t < 400 ∨ 700 ≤ t)) → S b = some (t, e9) := fun _ _ _ h9 _ _ => h9
  have hn12 := hB.2.1
  have h27 : 9 * nl ≤ 27 := by omega
  have hN8 : N9 ≤ 8000 := by rw [hN9]; exact Nat.le_trans (tr3_mono (show 9 * nl + 1 ≤ 28 by omega)) (by decide)
  refine lv_aload_n hx hb d_V_solve_0 rfl (lv_at hl 0 rfl) ?_
  refine lv_iconst (v := nI 0) hx hb d_V_solve_1 (by decide) ?_
  refine mp_put (C := R_V) (T := F_V) (N := 11) (v := .int (nI 0)) (ty := .int) hx hb hg i_V t_V t_V_ok n_V hown hK.va hI h_vo rfl 9 (by decide) (hg _ q_272) (fun _ h9 => h9) rfl (by decide +kernel) (rfl) rfl (Nat.le_of_ble_eq_true rfl) d_V_solve_2 (fun S1 H2 locs e_3 hI => ?_)
  have h_vo_o := h_vo
  have e_3 : S1 = va_up S vo (some (10, .inr (7, [.int (nI nl), .ref d9, .ref qo, .ref zo, .ref lz, .ref rr, .ref rc, .ref za, .ref mu9, .int (nI 0), .ref po]))) := e_3
  have h_vo_o := h_vo
  have h_d9 : S1 d9 = some (11, .inr (5, [.ref ra, .ref ka])) := by rw [e_3]; exact mp_keep h_d9 h_vo (by decide)
  have h_ra : S1 ra = some (12, .inl ((g 0), N9, .inl (fun j => nI (zR j).val))) := by rw [e_3]; exact mp_keep h_ra h_vo (by decide)
  have h_ka : S1 ka = some (13, .inl ((g 0), N9, .inl kp)) := by rw [e_3]; exact mp_keep h_ka h_vo (by decide)
  have h_qo : S1 qo = some (14, .inr (4, [.int (nI nl), .ref ky, .int s1, .ref pr, .ref lw, .ref ll, .ref mu, .ref fa, .ref nx, .ref re, .ref so1, .ref so2])) := by rw [e_3]; exact mp_keep h_qo h_vo (by decide)
  have h_ky : S1 ky = some (15, .inl ((g 0), 16, .inl (fun j => nI (kQ j)))) := by rw [e_3]; exact mp_keep h_ky h_vo (by decide)
  have h_pr : S1 pr = some (16, .inl ((g 1), 48, .inr (.inr (.inr (.inr (rfs (fun ii => pr + 1 + ii) 48)))))) := by rw [e_3]; exact mp_keep h_pr h_vo (by decide)
  have h_lw : S1 lw = some (17, .inl ((g 0), 16, .inl (fun j => nI (lwf j)))) := by rw [e_3]; exact mp_keep h_lw h_vo (by decide)
  have h_ll : S1 ll = some (18, .inl ((g 0), 16, .inl (fun j => nI (llf j)))) := by rw [e_3]; exact mp_keep h_ll h_vo (by decide)
  have h_mu : S1 mu = some (19, .inl ((g 1), 16, .inr (.inr (.inr (.inr (rfs (fun ii => mu + 1 + ii) 16)))))) := by rw [e_3]; exact mp_keep h_mu h_vo (by decide)
  have h_fa : S1 fa = some (20, .inl ((g 0), 16, .inl (fun j => nI (Fa j).val))) := by rw [e_3]; exact mp_keep h_fa h_vo (by decide)
  have h_nx : S1 nx = some (21, .inl ((g 0), 16, .inl (fun j => nI (Nx j).val))) := by rw [e_3]; exact mp_keep h_nx h_vo (by decide)
  have h_re : S1 re = some (22, .inl ((g 0), 33, .inl (fun j => nI (Re j).val))) := by rw [e_3]; exact mp_keep h_re h_vo (by decide)
  have h_so1 : S1 so1 = some (23, .inr (8, [.ref rq1, .ref rp1, .int z1])) := by rw [e_3]; exact mp_keep h_so1 h_vo (by decide)
  have h_rq1 : S1 rq1 = some (24, .inl ((g 1), 16, .inr (.inr (.inr (.inr (rfs (fun ii => rq1 + 1 + ii) 16)))))) := by rw [e_3]; exact mp_keep h_rq1 h_vo (by decide)
  have h_rp1 : S1 rp1 = some (25, .inl ((g 0), 16, .inl (fun j => nI (p1 j)))) := by rw [e_3]; exact mp_keep h_rp1 h_vo (by decide)
  have h_so2 : S1 so2 = some (26, .inr (8, [.ref rq2, .ref rp2, .int z2])) := by rw [e_3]; exact mp_keep h_so2 h_vo (by decide)
  have h_rq2 : S1 rq2 = some (27, .inl ((g 1), 16, .inr (.inr (.inr (.inr (rfs (fun ii => rq2 + 1 + ii) 16)))))) := by rw [e_3]; exact mp_keep h_rq2 h_vo (by decide)
  have h_rp2 : S1 rp2 = some (28, .inl ((g 0), 16, .inl (fun j => nI (p2 j)))) := by rw [e_3]; exact mp_keep h_rp2 h_vo (by decide)
  have h_zo : S1 zo = some (30, .inr (6, [.ref fs, .int z3, .ref on, .ref ot])) := by rw [e_3]; exact mp_keep h_zo h_vo (by decide)
  have h_fs : S1 fs = some (31, .inl ((g 3), 16, .inr (.inr (.inr (.inr (rfs fe 16)))))) := by rw [e_3]; exact mp_keep h_fs h_vo (by decide)
  have h_lz : S1 lz = some (32, .inl ((g 3), 3, .inr (.inr (.inr (.inr (rfs le 3)))))) := by rw [e_3]; exact mp_keep h_lz h_vo (by decide)
  have h_rr : S1 rr = some (33, .inl ((g 1), 3, .inr (.inr (.inr (.inr (rfs (fun ii => rr + 1 + ii) 3)))))) := by rw [e_3]; exact mp_keep h_rr h_vo (by decide)
  have h_rc : S1 rc = some (34, .inl ((g 0), 3, .inl (fun j => nI (RC j)))) := by rw [e_3]; exact mp_keep h_rc h_vo (by decide)
  have h_za : S1 za = some (35, .inl ((g 1), 16, .inr (.inr (.inr (.inr (rfs (fun ii => za + 1 + ii) 16)))))) := by rw [e_3]; exact mp_keep h_za h_vo (by decide)
  have h_mu9 : S1 mu9 = some (36, .inl ((g 0), 16, .inl (fun j => nI (MQ j)))) := by rw [e_3]; exact mp_keep h_mu9 h_vo (by decide)
  have h_po : S1 po = some (37, .inr (2, [.ref pn, .ref pp])) := by rw [e_3]; exact mp_keep h_po h_vo (by decide)
  have h_pn : S1 pn = some (38, .inl ((g 0), 3, .inl (fun j => nI (X j).val))) := by rw [e_3]; exact mp_keep h_pn h_vo (by decide)
  have h_pp : S1 pp = some (39, .inl ((g 1), 3, .inr (.inr (.inr (.inr (rfs (fun ii => pp + 1 + ii) 3)))))) := by rw [e_3]; exact mp_keep h_pp h_vo (by decide)
  have h_on : S1 on = some (560, .inr (1, [.ref na, .int dn])) := by rw [e_3]; exact mp_keep h_on h_vo (by decide)
  have h_na : S1 na = some ((560 + 1), .inl ((g 0), 33, .inl (fun j => nI (cn j).val))) := by rw [e_3]; exact mp_keep h_na h_vo (by omega)
  have h_ot : S1 ot = some (562, .inr (1, [.ref ta, .int dt])) := by rw [e_3]; exact mp_keep h_ot h_vo (by decide)
  have h_ta : S1 ta = some ((562 + 1), .inl ((g 0), 33, .inl (fun j => nI (ct j).val))) := by rw [e_3]; exact mp_keep h_ta h_vo (by omega)
  have h_lo : S1 lo = some (2, .inr (9, [.ref ma, .ref hd, .int (nI n)])) := by rw [e_3]; exact mp_keep h_lo h_vo (by decide)
  have h_ma : S1 ma = some (4, .inl ((g 2), 12, .inr (.inr (.inr (.inr (rfs me 12)))))) := by rw [e_3]; exact mp_keep h_ma h_vo (by decide)
  have h_hd : S1 hd = some (5, .inl ((g 0), 12, .inl hf)) := by rw [e_3]; exact mp_keep h_hd h_vo (by decide)
  have h_vo : S1 vo = some (10, .inr (7, [.int (nI nl), .ref d9, .ref qo, .ref zo, .ref lz, .ref rr, .ref rc, .ref za, .ref mu9, .int (nI 0), .ref po])) := by rw [e_3]; exact mp_us _ _ _
  have hP := rS_kept hP (S1 := S1) (fun b t9 e9 hb9 h1 h2 => by rw [e_3]; exact mp_un (mp_ne hb9 h_vo_o (by omega)))
  have hMU := rS_kept hMU (S1 := S1) (fun b t9 e9 hb9 h1 h2 => by rw [e_3]; exact mp_un (mp_ne hb9 h_vo_o (by omega)))
  have hR1 := rS_kept hR1 (S1 := S1) (fun b t9 e9 hb9 h1 h2 => by rw [e_3]; exact mp_un (mp_ne hb9 h_vo_o (by omega)))
  have hR2 := rS_kept hR2 (S1 := S1) (fun b t9 e9 hb9 h1 h2 => by rw [e_3]; exact mp_un (mp_ne hb9 h_vo_o (by omega)))
  have hE := oS_kept hE (S1 := S1) (fun b t9 e9 hb9 h1 h2 => by rw [e_3]; exact mp_un (mp_ne hb9 h_vo_o (by omega)))
  have hLo := oS_kept hLo (S1 := S1) (fun b t9 e9 hb9 h1 h2 => by rw [e_3]; exact mp_un (mp_ne hb9 h_vo_o (by omega)))
  have hRR := rS_kept hRR (S1 := S1) (fun b t9 e9 hb9 h1 h2 => by rw [e_3]; exact mp_un (mp_ne hb9 h_vo_o (by omega)))
  have hZ := rS_kept hZ (S1 := S1) (fun b t9 e9 hb9 h1 h2 => by rw [e_3]; exact mp_un (mp_ne hb9 h_vo_o (by omega)))
  have hW := rS_kept hW (S1 := S1) (fun b t9 e9 hb9 h1 h2 => by rw [e_3]; exact mp_un (mp_ne hb9 h_vo_o (by omega)))
  have hY := yS_kept hY (S1 := S1) (fun b t9 e9 hb9 h1 h2 => by rw [e_3]; exact mp_un (mp_ne hb9 h_vo_o (by omega)))
  have hfr : ∀ b t e9, S b = some (t, e9) → ((t < 10 ∨ 40 ≤ t)) → ((t < 400 ∨ 700 ≤ t)) → S1 b = some (t, e9) := fun b t e9 h9 k0 k1 => by rw [e_3]; exact mp_keep (hfr b t e9 h9 k0 k1) h_vo_o (by omega)
  refine lv_aload_n hx hb d_V_solve_5 rfl (lv_at hl 0 rfl) ?_
  refine mp_get (C := R_V) (T := F_V) (N := 11) (v := .ref d9) hx hb hg i_V hown hK.va hI h_vo rfl 1 (by decide) (hg _ q_260) (fun _ h9 => h9) rfl d_V_solve_6 ?_
  refine lv_aload_n hx hb d_V_solve_9 rfl (lv_at hl 1 rfl) ?_
  refine mp_calli hI (va_runV (As := [.ref lo]) (rest := []) ⟨hx, hb, hml, hown, hg⟩ (c_D_isBasis l D g S1 _ d9 ra ka lo ma hd n N9 (9 * nl) me mk mn mcap mz mkf mnf hf kp h z mo co h_d9 h_ra h_ka h_lo h_ma h_hd hY hB hFL hN9 h27 hN8 nl hnl hn1 rfl (hIn_h hB.1 hIn)) ⟨(callB_of 1 hg (wd_goodG q_320) rfl rfl rfl (hg _ q_20) (hg _ q_317) (by decide +kernel) ⟨Nat.le_of_ble_eq_true rfl, Nat.le_of_ble_eq_true rfl⟩), hg _ q_318, hg _ q_319⟩ (mp_preV (C := R_D) (T := F_D) hI hK h_d9 rfl [.ref lo]) rfl rfl hl.1 rfl (lv_room (Nat.le_of_ble_eq_true rfl)) d_V_solve_10 ⟨Nat.le_of_ble_eq_true rfl, Nat.le_of_ble_eq_true rfl⟩) (fun r7 S4 H5 locs p_6 hI => ?_)
  obtain ⟨q_ra, hv, fq⟩ := p_6
  have h_vo : S4 vo = some (10, .inr (7, [.int (nI nl), .ref d9, .ref qo, .ref zo, .ref lz, .ref rr, .ref rc, .ref za, .ref mu9, .int (nI 0), .ref po])) := fq vo _ _ h_vo (by omega)
  have h_d9 : S4 d9 = some (11, .inr (5, [.ref ra, .ref ka])) := fq d9 _ _ h_d9 (by omega)
  have h_ka : S4 ka = some (13, .inl ((g 0), N9, .inl kp)) := fq ka _ _ h_ka (by omega)
  have h_qo : S4 qo = some (14, .inr (4, [.int (nI nl), .ref ky, .int s1, .ref pr, .ref lw, .ref ll, .ref mu, .ref fa, .ref nx, .ref re, .ref so1, .ref so2])) := fq qo _ _ h_qo (by omega)
  have h_ky : S4 ky = some (15, .inl ((g 0), 16, .inl (fun j => nI (kQ j)))) := fq ky _ _ h_ky (by omega)
  have h_pr : S4 pr = some (16, .inl ((g 1), 48, .inr (.inr (.inr (.inr (rfs (fun ii => pr + 1 + ii) 48)))))) := fq pr _ _ h_pr (by omega)
  have h_lw : S4 lw = some (17, .inl ((g 0), 16, .inl (fun j => nI (lwf j)))) := fq lw _ _ h_lw (by omega)
  have h_ll : S4 ll = some (18, .inl ((g 0), 16, .inl (fun j => nI (llf j)))) := fq ll _ _ h_ll (by omega)
  have h_mu : S4 mu = some (19, .inl ((g 1), 16, .inr (.inr (.inr (.inr (rfs (fun ii => mu + 1 + ii) 16)))))) := fq mu _ _ h_mu (by omega)
  have h_fa : S4 fa = some (20, .inl ((g 0), 16, .inl (fun j => nI (Fa j).val))) := fq fa _ _ h_fa (by omega)
  have h_nx : S4 nx = some (21, .inl ((g 0), 16, .inl (fun j => nI (Nx j).val))) := fq nx _ _ h_nx (by omega)
  have h_re : S4 re = some (22, .inl ((g 0), 33, .inl (fun j => nI (Re j).val))) := fq re _ _ h_re (by omega)
  have h_so1 : S4 so1 = some (23, .inr (8, [.ref rq1, .ref rp1, .int z1])) := fq so1 _ _ h_so1 (by omega)
  have h_rq1 : S4 rq1 = some (24, .inl ((g 1), 16, .inr (.inr (.inr (.inr (rfs (fun ii => rq1 + 1 + ii) 16)))))) := fq rq1 _ _ h_rq1 (by omega)
  have h_rp1 : S4 rp1 = some (25, .inl ((g 0), 16, .inl (fun j => nI (p1 j)))) := fq rp1 _ _ h_rp1 (by omega)
  have h_so2 : S4 so2 = some (26, .inr (8, [.ref rq2, .ref rp2, .int z2])) := fq so2 _ _ h_so2 (by omega)
  have h_rq2 : S4 rq2 = some (27, .inl ((g 1), 16, .inr (.inr (.inr (.inr (rfs (fun ii => rq2 + 1 + ii) 16)))))) := fq rq2 _ _ h_rq2 (by omega)
  have h_rp2 : S4 rp2 = some (28, .inl ((g 0), 16, .inl (fun j => nI (p2 j)))) := fq rp2 _ _ h_rp2 (by omega)
  have h_zo : S4 zo = some (30, .inr (6, [.ref fs, .int z3, .ref on, .ref ot])) := fq zo _ _ h_zo (by omega)
  have h_fs : S4 fs = some (31, .inl ((g 3), 16, .inr (.inr (.inr (.inr (rfs fe 16)))))) := fq fs _ _ h_fs (by omega)
  have h_lz : S4 lz = some (32, .inl ((g 3), 3, .inr (.inr (.inr (.inr (rfs le 3)))))) := fq lz _ _ h_lz (by omega)
  have h_rr : S4 rr = some (33, .inl ((g 1), 3, .inr (.inr (.inr (.inr (rfs (fun ii => rr + 1 + ii) 3)))))) := fq rr _ _ h_rr (by omega)
  have h_rc : S4 rc = some (34, .inl ((g 0), 3, .inl (fun j => nI (RC j)))) := fq rc _ _ h_rc (by omega)
  have h_za : S4 za = some (35, .inl ((g 1), 16, .inr (.inr (.inr (.inr (rfs (fun ii => za + 1 + ii) 16)))))) := fq za _ _ h_za (by omega)
  have h_mu9 : S4 mu9 = some (36, .inl ((g 0), 16, .inl (fun j => nI (MQ j)))) := fq mu9 _ _ h_mu9 (by omega)
  have h_po : S4 po = some (37, .inr (2, [.ref pn, .ref pp])) := fq po _ _ h_po (by omega)
  have h_pn : S4 pn = some (38, .inl ((g 0), 3, .inl (fun j => nI (X j).val))) := fq pn _ _ h_pn (by omega)
  have h_pp : S4 pp = some (39, .inl ((g 1), 3, .inr (.inr (.inr (.inr (rfs (fun ii => pp + 1 + ii) 3)))))) := fq pp _ _ h_pp (by omega)
  have h_on : S4 on = some (560, .inr (1, [.ref na, .int dn])) := fq on _ _ h_on (by omega)
  have h_na : S4 na = some ((560 + 1), .inl ((g 0), 33, .inl (fun j => nI (cn j).val))) := fq na _ _ h_na (by omega)
  have h_ot : S4 ot = some (562, .inr (1, [.ref ta, .int dt])) := fq ot _ _ h_ot (by omega)
  have h_ta : S4 ta = some ((562 + 1), .inl ((g 0), 33, .inl (fun j => nI (ct j).val))) := fq ta _ _ h_ta (by omega)
  have h_lo : S4 lo = some (2, .inr (9, [.ref ma, .ref hd, .int (nI n)])) := fq lo _ _ h_lo (by omega)
  have h_ma : S4 ma = some (4, .inl ((g 2), 12, .inr (.inr (.inr (.inr (rfs me 12)))))) := fq ma _ _ h_ma (by omega)
  have h_hd : S4 hd = some (5, .inl ((g 0), 12, .inl hf)) := fq hd _ _ h_hd (by omega)
  have hfr : ∀ b t e9, S b = some (t, e9) → ((t < 10 ∨ 40 ≤ t)) → ((t < 400 ∨ 700 ≤ t)) → S4 b = some (t, e9) := fun b t e9 h9 k0 k1 => by have h8 := hfr b t e9 h9 k0 k1; exact fq b _ _ h8 (by omega)
  have hP := rS_kept hP (S1 := S4) (fun b t9 e9 hb9 h1 h2 => by have h8 : S4 b = some (t9, e9) := fq b _ _ hb9 (by omega); rw [h8, hb9])
  have hMU := rS_kept hMU (S1 := S4) (fun b t9 e9 hb9 h1 h2 => by have h8 : S4 b = some (t9, e9) := fq b _ _ hb9 (by omega); rw [h8, hb9])
  have hR1 := rS_kept hR1 (S1 := S4) (fun b t9 e9 hb9 h1 h2 => by have h8 : S4 b = some (t9, e9) := fq b _ _ hb9 (by omega); rw [h8, hb9])
  have hR2 := rS_kept hR2 (S1 := S4) (fun b t9 e9 hb9 h1 h2 => by have h8 : S4 b = some (t9, e9) := fq b _ _ hb9 (by omega); rw [h8, hb9])
  have hE := oS_kept hE (S1 := S4) (fun b t9 e9 hb9 h1 h2 => by have h8 : S4 b = some (t9, e9) := fq b _ _ hb9 (by omega); rw [h8, hb9])
  have hLo := oS_kept hLo (S1 := S4) (fun b t9 e9 hb9 h1 h2 => by have h8 : S4 b = some (t9, e9) := fq b _ _ hb9 (by omega); rw [h8, hb9])
  have hRR := rS_kept hRR (S1 := S4) (fun b t9 e9 hb9 h1 h2 => by have h8 : S4 b = some (t9, e9) := fq b _ _ hb9 (by omega); rw [h8, hb9])
  have hZ := rS_kept hZ (S1 := S4) (fun b t9 e9 hb9 h1 h2 => by have h8 : S4 b = some (t9, e9) := fq b _ _ hb9 (by omega); rw [h8, hb9])
  have hW := rS_kept hW (S1 := S4) (fun b t9 e9 hb9 h1 h2 => by have h8 : S4 b = some (t9, e9) := fq b _ _ hb9 (by omega); rw [h8, hb9])
  have hY := yS_kept hY (S1 := S4) (fun b t9 e9 hb9 h1 h2 => by have h8 : S4 b = some (t9, e9) := fq b _ _ hb9 (by omega); rw [h8, hb9])
  have h_ra := q_ra
  rcases hv with ⟨rfl, hbas⟩ | ⟨rfl, hbas⟩
  · refine lv_if_ne (tgt := 18) hx hb d_V_solve_13 (by decide) (fun _ => ?_) (fun h9 => absurd h9 (by decide))
    refine lv_aload_n hx hb d_V_solve_18 rfl (lv_at hl 1 rfl) ?_
    refine lv_aload_n hx hb d_V_solve_19 rfl (lv_at hl 0 rfl) ?_
    refine mp_get (C := R_V) (T := F_V) (N := 11) (v := .int (nI nl)) hx hb hg i_V hown hK.va hI h_vo rfl 0 (by decide) (hg _ q_259) (fun _ h9 => h9) rfl d_V_solve_20 ?_
    refine mp_calli hI (va_runV (As := [.int (nI nl)]) (rest := []) ⟨hx, hb, hml, hown, hg⟩ (c_K_isFinite l D g S4 _ lo hd n nl (.ref ma) hf (fun i => (h i).1) (fun i => (h i).2.1) (fun i => (h i).2.2) h_lo h_hd (lsB_hd hB) hn12 hnl) ⟨(callB_of 1 hg (wd_goodG q_361) rfl rfl rfl (hg _ q_2) (hg _ q_358) (by decide +kernel) ⟨Nat.le_of_ble_eq_true rfl, Nat.le_of_ble_eq_true rfl⟩), hg _ q_359, hg _ q_360⟩ (mp_preV (C := R_K) (T := F_K) hI hK h_lo rfl [.int (nI nl)]) rfl rfl hl.1 rfl (lv_room (Nat.le_of_ble_eq_true rfl)) d_V_solve_23 ⟨Nat.le_of_ble_eq_true rfl, Nat.le_of_ble_eq_true rfl⟩) (fun r11 S8 H9 locs p_10 hI => ?_)
    obtain ⟨er11, eS12⟩ := p_10
    rw [eS12] at hI
    rcases er11 with ⟨rfl, hfin⟩ | ⟨rfl, hfin⟩
    · refine lv_if_ne (tgt := 32) hx hb d_V_solve_26 (by decide) (fun _ => ?_) (fun h9 => absurd h9 (by decide))
      refine lv_aload_n hx hb d_V_solve_32 rfl (lv_at hl 0 rfl) ?_
      refine mp_get (C := R_V) (T := F_V) (N := 11) (v := .ref qo) hx hb hg i_V hown hK.va hI h_vo rfl 2 (by decide) (hg _ q_261) (fun _ h9 => h9) rfl d_V_solve_33 ?_
      refine lv_aload_n hx hb d_V_solve_36 rfl (lv_at hl 1 rfl) ?_
      refine lv_aload_n hx hb d_V_solve_37 rfl (lv_at hl 0 rfl) ?_
      refine mp_get (C := R_V) (T := F_V) (N := 11) (v := .ref d9) hx hb hg i_V hown hK.va hI h_vo rfl 1 (by decide) (hg _ q_260) (fun _ h9 => h9) rfl d_V_solve_38 ?_
      refine mp_calli hI (va_runV (As := [.ref lo, .ref d9]) (rest := []) ⟨hx, hb, hml, hown, hg⟩ (c_Q_collect l D g S4 _ qo ky d9 ka lo hd nl n N9 (9 * nl) (.ref pr) (.ref lw) (.ref ll) (.ref mu) (.ref fa) (.ref nx) (.ref re) (.ref so1) (.ref so2) (.ref ra) (.ref ma) hf kp h s1 kQ h_qo h_ky h_d9 h_ka h_lo h_hd (lsB_hd hB) hn12 (by omega) hFL hN9 h27 hN8) ⟨(callB_of 2 hg (wd_goodG q_366) rfl rfl rfl (hg _ q_21) (hg _ q_363) (by decide +kernel) ⟨Nat.le_of_ble_eq_true rfl, Nat.le_of_ble_eq_true rfl⟩), hg _ q_364, hg _ q_365⟩ (mp_preV (C := R_Q) (T := F_Q) hI hK h_qo rfl [.ref lo, .ref d9]) rfl rfl hl.1 rfl (lv_room (Nat.le_of_ble_eq_true rfl)) d_V_solve_41 ⟨Nat.le_of_ble_eq_true rfl, Nat.le_of_ble_eq_true rfl⟩) (fun r16 S13 H14 locs p_15 hI => ?_)
      obtain ⟨s9, kQ9, hs, q_qo, q_ky, hv, fq⟩ := p_15
      have h_vo : S13 vo = some (10, .inr (7, [.int (nI nl), .ref d9, .ref qo, .ref zo, .ref lz, .ref rr, .ref rc, .ref za, .ref mu9, .int (nI 0), .ref po])) := fq vo _ _ h_vo (by omega) (by omega)
      have h_d9 : S13 d9 = some (11, .inr (5, [.ref ra, .ref ka])) := fq d9 _ _ h_d9 (by omega) (by omega)
      have h_ra : S13 ra = some (12, .inl ((g 0), N9, .inl (fun j => nI (zR j).val))) := fq ra _ _ h_ra (by omega) (by omega)
      have h_ka : S13 ka = some (13, .inl ((g 0), N9, .inl kp)) := fq ka _ _ h_ka (by omega) (by omega)
      have h_pr : S13 pr = some (16, .inl ((g 1), 48, .inr (.inr (.inr (.inr (rfs (fun ii => pr + 1 + ii) 48)))))) := fq pr _ _ h_pr (by omega) (by omega)
      have h_lw : S13 lw = some (17, .inl ((g 0), 16, .inl (fun j => nI (lwf j)))) := fq lw _ _ h_lw (by omega) (by omega)
      have h_ll : S13 ll = some (18, .inl ((g 0), 16, .inl (fun j => nI (llf j)))) := fq ll _ _ h_ll (by omega) (by omega)
      have h_mu : S13 mu = some (19, .inl ((g 1), 16, .inr (.inr (.inr (.inr (rfs (fun ii => mu + 1 + ii) 16)))))) := fq mu _ _ h_mu (by omega) (by omega)
      have h_fa : S13 fa = some (20, .inl ((g 0), 16, .inl (fun j => nI (Fa j).val))) := fq fa _ _ h_fa (by omega) (by omega)
      have h_nx : S13 nx = some (21, .inl ((g 0), 16, .inl (fun j => nI (Nx j).val))) := fq nx _ _ h_nx (by omega) (by omega)
      have h_re : S13 re = some (22, .inl ((g 0), 33, .inl (fun j => nI (Re j).val))) := fq re _ _ h_re (by omega) (by omega)
      have h_so1 : S13 so1 = some (23, .inr (8, [.ref rq1, .ref rp1, .int z1])) := fq so1 _ _ h_so1 (by omega) (by omega)
      have h_rq1 : S13 rq1 = some (24, .inl ((g 1), 16, .inr (.inr (.inr (.inr (rfs (fun ii => rq1 + 1 + ii) 16)))))) := fq rq1 _ _ h_rq1 (by omega) (by omega)
      have h_rp1 : S13 rp1 = some (25, .inl ((g 0), 16, .inl (fun j => nI (p1 j)))) := fq rp1 _ _ h_rp1 (by omega) (by omega)
      have h_so2 : S13 so2 = some (26, .inr (8, [.ref rq2, .ref rp2, .int z2])) := fq so2 _ _ h_so2 (by omega) (by omega)
      have h_rq2 : S13 rq2 = some (27, .inl ((g 1), 16, .inr (.inr (.inr (.inr (rfs (fun ii => rq2 + 1 + ii) 16)))))) := fq rq2 _ _ h_rq2 (by omega) (by omega)
      have h_rp2 : S13 rp2 = some (28, .inl ((g 0), 16, .inl (fun j => nI (p2 j)))) := fq rp2 _ _ h_rp2 (by omega) (by omega)
      have h_zo : S13 zo = some (30, .inr (6, [.ref fs, .int z3, .ref on, .ref ot])) := fq zo _ _ h_zo (by omega) (by omega)
      have h_fs : S13 fs = some (31, .inl ((g 3), 16, .inr (.inr (.inr (.inr (rfs fe 16)))))) := fq fs _ _ h_fs (by omega) (by omega)
      have h_lz : S13 lz = some (32, .inl ((g 3), 3, .inr (.inr (.inr (.inr (rfs le 3)))))) := fq lz _ _ h_lz (by omega) (by omega)
      have h_rr : S13 rr = some (33, .inl ((g 1), 3, .inr (.inr (.inr (.inr (rfs (fun ii => rr + 1 + ii) 3)))))) := fq rr _ _ h_rr (by omega) (by omega)
      have h_rc : S13 rc = some (34, .inl ((g 0), 3, .inl (fun j => nI (RC j)))) := fq rc _ _ h_rc (by omega) (by omega)
      have h_za : S13 za = some (35, .inl ((g 1), 16, .inr (.inr (.inr (.inr (rfs (fun ii => za + 1 + ii) 16)))))) := fq za _ _ h_za (by omega) (by omega)
      have h_mu9 : S13 mu9 = some (36, .inl ((g 0), 16, .inl (fun j => nI (MQ j)))) := fq mu9 _ _ h_mu9 (by omega) (by omega)
      have h_po : S13 po = some (37, .inr (2, [.ref pn, .ref pp])) := fq po _ _ h_po (by omega) (by omega)
      have h_pn : S13 pn = some (38, .inl ((g 0), 3, .inl (fun j => nI (X j).val))) := fq pn _ _ h_pn (by omega) (by omega)
      have h_pp : S13 pp = some (39, .inl ((g 1), 3, .inr (.inr (.inr (.inr (rfs (fun ii => pp + 1 + ii) 3)))))) := fq pp _ _ h_pp (by omega) (by omega)
      have h_on : S13 on = some (560, .inr (1, [.ref na, .int dn])) := fq on _ _ h_on (by omega) (by omega)
      have h_na : S13 na = some ((560 + 1), .inl ((g 0), 33, .inl (fun j => nI (cn j).val))) := fq na _ _ h_na (by omega) (by omega)
      have h_ot : S13 ot = some (562, .inr (1, [.ref ta, .int dt])) := fq ot _ _ h_ot (by omega) (by omega)
      have h_ta : S13 ta = some ((562 + 1), .inl ((g 0), 33, .inl (fun j => nI (ct j).val))) := fq ta _ _ h_ta (by omega) (by omega)
      have h_lo : S13 lo = some (2, .inr (9, [.ref ma, .ref hd, .int (nI n)])) := fq lo _ _ h_lo (by omega) (by omega)
      have h_ma : S13 ma = some (4, .inl ((g 2), 12, .inr (.inr (.inr (.inr (rfs me 12)))))) := fq ma _ _ h_ma (by omega) (by omega)
      have h_hd : S13 hd = some (5, .inl ((g 0), 12, .inl hf)) := fq hd _ _ h_hd (by omega) (by omega)
      have hfr : ∀ b t e9, S b = some (t, e9) → ((t < 10 ∨ 40 ≤ t)) → ((t < 400 ∨ 700 ≤ t)) → S13 b = some (t, e9) := fun b t e9 h9 k0 k1 => by have h8 := hfr b t e9 h9 k0 k1; exact fq b _ _ h8 (by omega) (by omega)
      have hP := rS_kept hP (S1 := S13) (fun b t9 e9 hb9 h1 h2 => by have h8 : S13 b = some (t9, e9) := fq b _ _ hb9 (by omega) (by omega); rw [h8, hb9])
      have hMU := rS_kept hMU (S1 := S13) (fun b t9 e9 hb9 h1 h2 => by have h8 : S13 b = some (t9, e9) := fq b _ _ hb9 (by omega) (by omega); rw [h8, hb9])
      have hR1 := rS_kept hR1 (S1 := S13) (fun b t9 e9 hb9 h1 h2 => by have h8 : S13 b = some (t9, e9) := fq b _ _ hb9 (by omega) (by omega); rw [h8, hb9])
      have hR2 := rS_kept hR2 (S1 := S13) (fun b t9 e9 hb9 h1 h2 => by have h8 : S13 b = some (t9, e9) := fq b _ _ hb9 (by omega) (by omega); rw [h8, hb9])
      have hE := oS_kept hE (S1 := S13) (fun b t9 e9 hb9 h1 h2 => by have h8 : S13 b = some (t9, e9) := fq b _ _ hb9 (by omega) (by omega); rw [h8, hb9])
      have hLo := oS_kept hLo (S1 := S13) (fun b t9 e9 hb9 h1 h2 => by have h8 : S13 b = some (t9, e9) := fq b _ _ hb9 (by omega) (by omega); rw [h8, hb9])
      have hRR := rS_kept hRR (S1 := S13) (fun b t9 e9 hb9 h1 h2 => by have h8 : S13 b = some (t9, e9) := fq b _ _ hb9 (by omega) (by omega); rw [h8, hb9])
      have hZ := rS_kept hZ (S1 := S13) (fun b t9 e9 hb9 h1 h2 => by have h8 : S13 b = some (t9, e9) := fq b _ _ hb9 (by omega) (by omega); rw [h8, hb9])
      have hW := rS_kept hW (S1 := S13) (fun b t9 e9 hb9 h1 h2 => by have h8 : S13 b = some (t9, e9) := fq b _ _ hb9 (by omega) (by omega); rw [h8, hb9])
      have hY := yS_kept hY (S1 := S13) (fun b t9 e9 hb9 h1 h2 => by have h8 : S13 b = some (t9, e9) := fq b _ _ hb9 (by omega) (by omega); rw [h8, hb9])
      have h_qo := q_qo
      have h_ky := q_ky
      rcases hv with ⟨rfl, hv⟩ | ⟨rfl, hfl⟩
      · refine lv_if_ne (tgt := 50) hx hb d_V_solve_44 (by decide) (fun _ => ?_) (fun h9 => absurd h9 (by decide))
        obtain ⟨lq, hcol0, hkq⟩ := hv
        have hcol := col_28 hfin hnl hn1 (lsB_e9 hB) (by rw [← hN9]; exact hcol0)
        have hbd : ∀ k, k < s9 → (Ep (lq k)).1 ≤ 8 ∧ (Ep (lq k)).2.1 ≤ 8 ∧ (Ep (lq k)).2.2 ≤ 8 := fun k hk => (fin_bd hfin hnl hn1 (lsB_e9 hB) (hcol.1 k hk).2).1
        have hFl := colS_lf hIn hcol (fun q hq => Nat.lt_of_lt_of_le (fin_bd hfin hnl hn1 (lsB_e9 hB) hq).2 (tr3_mono (by omega)))
        refine lv_aload_n hx hb d_V_solve_50 rfl (lv_at hl 0 rfl) ?_
        refine mp_get (C := R_V) (T := F_V) (N := 11) (v := .ref qo) hx hb hg i_V hown hK.va hI h_vo rfl 2 (by decide) (hg _ q_261) (fun _ h9 => h9) rfl d_V_solve_51 ?_
        refine lv_aload_n hx hb d_V_solve_54 rfl (lv_at hl 1 rfl) ?_
        refine lv_aload_n hx hb d_V_solve_55 rfl (lv_at hl 0 rfl) ?_
        refine mp_get (C := R_V) (T := F_V) (N := 11) (v := .ref d9) hx hb hg i_V hown hK.va hI h_vo rfl 1 (by decide) (hg _ q_260) (fun _ h9 => h9) rfl d_V_solve_56 ?_
        refine mp_callv hI (va_runV (As := [.ref lo, .ref d9]) (rest := []) ⟨hx, hb, hml, hown, hg⟩ (c_Q_findProducts l D g S13 _ qo ky pr lw ll d9 ra ka lo ma hd nl s9 n N9 (9 * nl) (.ref mu) (.ref fa) (.ref nx) (.ref re) (.ref so1) (.ref so2) kQ9 me mk mn mcap mz mkf mnf hf kp h z mo co (fun k => Ep (lq k)) PT lwf llf h_qo h_ky h_pr h_lw h_ll h_d9 h_ra h_ka h_lo h_ma h_hd hY hP hB hFL hN9 h27 hN8 hs hnl (fun k hk => ⟨hkq k hk, by rw [pl_Ep3]; exact (hcol0.1 k hk).1, (hcol.1 k hk).2.2⟩) (fun a ha k hk => by rw [hN9]; exact xl_N ha hnl (hbd k hk) (hcol.1 k hk).2.1) tPT) ⟨(callB_of 2 hg (wd_goodG q_375) rfl rfl rfl (hg _ q_21) (hg _ q_372) (by decide +kernel) ⟨Nat.le_of_ble_eq_true rfl, Nat.le_of_ble_eq_true rfl⟩), hg _ q_373, hg _ q_374⟩ (mp_preV (C := R_Q) (T := F_Q) hI hK h_qo rfl [.ref lo, .ref d9]) rfl rfl hl.1 rfl (lv_room (Nat.le_of_ble_eq_true rfl)) d_V_solve_59 ⟨Nat.le_of_ble_eq_true rfl, Nat.le_of_ble_eq_true rfl⟩) (fun S17 H18 locs p_19 hI => ?_)
        obtain ⟨PT9, lw9, ll9, hpt, hlw, tPT9, q_ra, q_lw, q_ll, q_P, fq⟩ := p_19
        have h_vo : S17 vo = some (10, .inr (7, [.int (nI nl), .ref d9, .ref qo, .ref zo, .ref lz, .ref rr, .ref rc, .ref za, .ref mu9, .int (nI 0), .ref po])) := fq vo _ _ h_vo (by omega) (by omega) (by omega) (by omega)
        have h_d9 : S17 d9 = some (11, .inr (5, [.ref ra, .ref ka])) := fq d9 _ _ h_d9 (by omega) (by omega) (by omega) (by omega)
        have h_ka : S17 ka = some (13, .inl ((g 0), N9, .inl kp)) := fq ka _ _ h_ka (by omega) (by omega) (by omega) (by omega)
        have h_qo : S17 qo = some (14, .inr (4, [.int (nI nl), .ref ky, .int (nI s9), .ref pr, .ref lw, .ref ll, .ref mu, .ref fa, .ref nx, .ref re, .ref so1, .ref so2])) := fq qo _ _ h_qo (by omega) (by omega) (by omega) (by omega)
        have h_ky : S17 ky = some (15, .inl ((g 0), 16, .inl (fun j => nI (kQ9 j)))) := fq ky _ _ h_ky (by omega) (by omega) (by omega) (by omega)
        have h_pr : S17 pr = some (16, .inl ((g 1), 48, .inr (.inr (.inr (.inr (rfs (fun ii => pr + 1 + ii) 48)))))) := fq pr _ _ h_pr (by omega) (by omega) (by omega) (by omega)
        have h_mu : S17 mu = some (19, .inl ((g 1), 16, .inr (.inr (.inr (.inr (rfs (fun ii => mu + 1 + ii) 16)))))) := fq mu _ _ h_mu (by omega) (by omega) (by omega) (by omega)
        have h_fa : S17 fa = some (20, .inl ((g 0), 16, .inl (fun j => nI (Fa j).val))) := fq fa _ _ h_fa (by omega) (by omega) (by omega) (by omega)
        have h_nx : S17 nx = some (21, .inl ((g 0), 16, .inl (fun j => nI (Nx j).val))) := fq nx _ _ h_nx (by omega) (by omega) (by omega) (by omega)
        have h_re : S17 re = some (22, .inl ((g 0), 33, .inl (fun j => nI (Re j).val))) := fq re _ _ h_re (by omega) (by omega) (by omega) (by omega)
        have h_so1 : S17 so1 = some (23, .inr (8, [.ref rq1, .ref rp1, .int z1])) := fq so1 _ _ h_so1 (by omega) (by omega) (by omega) (by omega)
        have h_rq1 : S17 rq1 = some (24, .inl ((g 1), 16, .inr (.inr (.inr (.inr (rfs (fun ii => rq1 + 1 + ii) 16)))))) := fq rq1 _ _ h_rq1 (by omega) (by omega) (by omega) (by omega)
        have h_rp1 : S17 rp1 = some (25, .inl ((g 0), 16, .inl (fun j => nI (p1 j)))) := fq rp1 _ _ h_rp1 (by omega) (by omega) (by omega) (by omega)
        have h_so2 : S17 so2 = some (26, .inr (8, [.ref rq2, .ref rp2, .int z2])) := fq so2 _ _ h_so2 (by omega) (by omega) (by omega) (by omega)
        have h_rq2 : S17 rq2 = some (27, .inl ((g 1), 16, .inr (.inr (.inr (.inr (rfs (fun ii => rq2 + 1 + ii) 16)))))) := fq rq2 _ _ h_rq2 (by omega) (by omega) (by omega) (by omega)
        have h_rp2 : S17 rp2 = some (28, .inl ((g 0), 16, .inl (fun j => nI (p2 j)))) := fq rp2 _ _ h_rp2 (by omega) (by omega) (by omega) (by omega)
        have h_zo : S17 zo = some (30, .inr (6, [.ref fs, .int z3, .ref on, .ref ot])) := fq zo _ _ h_zo (by omega) (by omega) (by omega) (by omega)
        have h_fs : S17 fs = some (31, .inl ((g 3), 16, .inr (.inr (.inr (.inr (rfs fe 16)))))) := fq fs _ _ h_fs (by omega) (by omega) (by omega) (by omega)
        have h_lz : S17 lz = some (32, .inl ((g 3), 3, .inr (.inr (.inr (.inr (rfs le 3)))))) := fq lz _ _ h_lz (by omega) (by omega) (by omega) (by omega)
        have h_rr : S17 rr = some (33, .inl ((g 1), 3, .inr (.inr (.inr (.inr (rfs (fun ii => rr + 1 + ii) 3)))))) := fq rr _ _ h_rr (by omega) (by omega) (by omega) (by omega)
        have h_rc : S17 rc = some (34, .inl ((g 0), 3, .inl (fun j => nI (RC j)))) := fq rc _ _ h_rc (by omega) (by omega) (by omega) (by omega)
        have h_za : S17 za = some (35, .inl ((g 1), 16, .inr (.inr (.inr (.inr (rfs (fun ii => za + 1 + ii) 16)))))) := fq za _ _ h_za (by omega) (by omega) (by omega) (by omega)
        have h_mu9 : S17 mu9 = some (36, .inl ((g 0), 16, .inl (fun j => nI (MQ j)))) := fq mu9 _ _ h_mu9 (by omega) (by omega) (by omega) (by omega)
        have h_po : S17 po = some (37, .inr (2, [.ref pn, .ref pp])) := fq po _ _ h_po (by omega) (by omega) (by omega) (by omega)
        have h_pn : S17 pn = some (38, .inl ((g 0), 3, .inl (fun j => nI (X j).val))) := fq pn _ _ h_pn (by omega) (by omega) (by omega) (by omega)
        have h_pp : S17 pp = some (39, .inl ((g 1), 3, .inr (.inr (.inr (.inr (rfs (fun ii => pp + 1 + ii) 3)))))) := fq pp _ _ h_pp (by omega) (by omega) (by omega) (by omega)
        have h_on : S17 on = some (560, .inr (1, [.ref na, .int dn])) := fq on _ _ h_on (by omega) (by omega) (by omega) (by omega)
        have h_na : S17 na = some ((560 + 1), .inl ((g 0), 33, .inl (fun j => nI (cn j).val))) := fq na _ _ h_na (by omega) (by omega) (by omega) (by omega)
        have h_ot : S17 ot = some (562, .inr (1, [.ref ta, .int dt])) := fq ot _ _ h_ot (by omega) (by omega) (by omega) (by omega)
        have h_ta : S17 ta = some ((562 + 1), .inl ((g 0), 33, .inl (fun j => nI (ct j).val))) := fq ta _ _ h_ta (by omega) (by omega) (by omega) (by omega)
        have h_lo : S17 lo = some (2, .inr (9, [.ref ma, .ref hd, .int (nI n)])) := fq lo _ _ h_lo (by omega) (by omega) (by omega) (by omega)
        have h_ma : S17 ma = some (4, .inl ((g 2), 12, .inr (.inr (.inr (.inr (rfs me 12)))))) := fq ma _ _ h_ma (by omega) (by omega) (by omega) (by omega)
        have h_hd : S17 hd = some (5, .inl ((g 0), 12, .inl hf)) := fq hd _ _ h_hd (by omega) (by omega) (by omega) (by omega)
        have hfr : ∀ b t e9, S b = some (t, e9) → ((t < 10 ∨ 40 ≤ t)) → ((t < 400 ∨ 700 ≤ t)) → S17 b = some (t, e9) := fun b t e9 h9 k0 k1 => by have h8 := hfr b t e9 h9 k0 k1; exact fq b _ _ h8 (by omega) (by omega) (by omega) (by omega)
        have hMU := rS_kept hMU (S1 := S17) (fun b t9 e9 hb9 h1 h2 => by have h8 : S17 b = some (t9, e9) := fq b _ _ hb9 (by omega) (by omega) (by omega) (by omega); rw [h8, hb9])
        have hR1 := rS_kept hR1 (S1 := S17) (fun b t9 e9 hb9 h1 h2 => by have h8 : S17 b = some (t9, e9) := fq b _ _ hb9 (by omega) (by omega) (by omega) (by omega); rw [h8, hb9])
        have hR2 := rS_kept hR2 (S1 := S17) (fun b t9 e9 hb9 h1 h2 => by have h8 : S17 b = some (t9, e9) := fq b _ _ hb9 (by omega) (by omega) (by omega) (by omega); rw [h8, hb9])
        have hE := oS_kept hE (S1 := S17) (fun b t9 e9 hb9 h1 h2 => by have h8 : S17 b = some (t9, e9) := fq b _ _ hb9 (by omega) (by omega) (by omega) (by omega); rw [h8, hb9])
        have hLo := oS_kept hLo (S1 := S17) (fun b t9 e9 hb9 h1 h2 => by have h8 : S17 b = some (t9, e9) := fq b _ _ hb9 (by omega) (by omega) (by omega) (by omega); rw [h8, hb9])
        have hRR := rS_kept hRR (S1 := S17) (fun b t9 e9 hb9 h1 h2 => by have h8 : S17 b = some (t9, e9) := fq b _ _ hb9 (by omega) (by omega) (by omega) (by omega); rw [h8, hb9])
        have hZ := rS_kept hZ (S1 := S17) (fun b t9 e9 hb9 h1 h2 => by have h8 : S17 b = some (t9, e9) := fq b _ _ hb9 (by omega) (by omega) (by omega) (by omega); rw [h8, hb9])
        have hW := rS_kept hW (S1 := S17) (fun b t9 e9 hb9 h1 h2 => by have h8 : S17 b = some (t9, e9) := fq b _ _ hb9 (by omega) (by omega) (by omega) (by omega); rw [h8, hb9])
        have hY := yS_kept hY (S1 := S17) (fun b t9 e9 hb9 h1 h2 => by have h8 : S17 b = some (t9, e9) := fq b _ _ hb9 (by omega) (by omega) (by omega) (by omega); rw [h8, hb9])
        have h_ra := q_ra
        have h_lw := q_lw
        have h_ll := q_ll
        have hP := q_P
        refine lv_iconst (v := nI 0) hx hb d_V_solve_62 (by decide) ?_
        refine lv_istore_n (lv' := [(2, .int (nI 0)), (0, .ref vo), (1, .ref lo)]) hx hb d_V_solve_63 rfl hl (by decide) rfl (fun ls hl => ?_)
        have h_vo : S17 vo = some (10, .inr (7, [.int (nI nl), .ref d9, .ref qo, .ref zo, .ref lz, .ref rr, .ref rc, .ref za, .ref mu9, .int (nI 0), .ref po])) := h_vo
        refine lp_V_so1 (B := S) (vo := vo) (d9 := d9) (ra := ra) (ka := ka) (qo := qo) (ky := ky) (pr := pr) (lw := lw) (ll := ll) (mu := mu) (fa := fa) (nx := nx) (re := re) (so1 := so1) (rq1 := rq1) (rp1 := rp1) (so2 := so2) (rq2 := rq2) (rp2 := rp2) (zo := zo) (fs := fs) (lz := lz) (rr := rr) (rc := rc) (za := za) (mu9 := mu9) (po := po) (pn := pn) (pp := pp) (on := on) (na := na) (ot := ot) (ta := ta) (lo := lo) (ma := ma) (hd := hd) (n := n) (nl := nl) (N9 := N9) (fe := fe) (fz := fz) (le := le) (la := la) (kp := kp) (me := me) (mk := mk) (mn := mn) (mcap := mcap) (mz := mz) (mkf := mkf) (mnf := mnf) (hf := hf) (h := h) (z := z) (mo := mo) (co := co) (s9 := s9) (kQ := kQ9) (PT := PT9) (lwf := lw9) (llf := ll9) (MU := MU) (z2 := z2) (ρ2 := ρ2) (p2 := p2) (ZZ := ZZ) (MQ := MQ) (X := X) (W9 := W9) hx hb hml hg hown hK (Nat.le_of_ble_eq_true rfl) (Nat.le_of_ble_eq_true rfl) (Nat.le_of_ble_eq_true rfl) (Nat.le_of_ble_eq_true rfl) hB hnl hn1 hs nl 0 (fun _ => 0) dl CL RT RC Fa Nx Re z1 ρ1 p1 z3 dgE CF dn cn dt ct S17 H18 _ ls (by omega) (fun l hl => absurd hl (Nat.not_lt_zero l)) hone tFa tNx tRe tρ1 tcn tct tCF tCL h_vo h_d9 h_ra h_ka h_qo h_ky h_pr h_lw h_ll h_mu h_fa h_nx h_re h_so1 h_rq1 h_rp1 h_so2 h_rq2 h_rp2 h_zo h_fs h_lz h_rr h_rc h_za h_mu9 h_po h_pn h_pp h_on h_na h_ot h_ta h_lo h_ma h_hd hP hMU hR1 hR2 hE hLo hRR hZ hW hY hfr hI (lv_sub hl [0, 2, 1] rfl) (fun DGb dlb CLb RTb RCb Fab Nxb Reb z1b ρ1b p1b z3b dgEb CFb dnb cnb dtb ctb S21 H22 locs ls hlr honeb tFab tNxb tReb tρ1b tcnb tctb tCFb tCLb h_vo h_d9 h_ra h_ka h_qo h_ky h_pr h_lw h_ll h_mu h_fa h_nx h_re h_so1 h_rq1 h_rp1 h_so2 h_rq2 h_rp2 h_zo h_fs h_lz h_rr h_rc h_za h_mu9 h_po h_pn h_pp h_on h_na h_ot h_ta h_lo h_ma h_hd hP hMU hR1 hR2 hE hLo hRR hZ hW hY hfr hI hl => ?_)
        obtain ⟨hRC, hRT, hZb, hrts⟩ := zz_B hB.1 hFl hs hn1 hlr honeb
        refine lv_aload_n hx hb d_V_solve_117 rfl (lv_at hl 2 rfl) ?_
        refine lv_aload_n hx hb d_V_solve_118 rfl (lv_at hl 1 rfl) ?_
        refine mp_callv hI (va_runV (As := [.ref lo]) (rest := []) ⟨hx, hb, hml, hown, hg⟩ (c_V_findZeros l D g S21 _ vo rr rc za po pn pp lo ma hd n (.int (nI nl)) (.ref d9) (.ref qo) (.ref zo) (.ref lz) (.ref mu9) RTb RCb me mk mn mcap mz mkf mnf hf h z mo co X W9 ZZ h_vo h_rr h_rc h_za h_lo h_ma h_po h_pn h_pp hY hW hZ hRR hB hRC hRT hZb) ⟨(callB_of 1 hg (wd_goodG q_489) rfl rfl rfl (hg _ q_16) (hg _ q_486) (by decide +kernel) ⟨Nat.le_of_ble_eq_true rfl, Nat.le_of_ble_eq_true rfl⟩), hg _ q_488, hg _ qs_16⟩ (mp_preV (C := R_V) (T := F_V) hI hK h_vo rfl [.ref lo]) rfl rfl hl.1 rfl (lv_room (Nat.le_of_ble_eq_true rfl)) d_V_solve_119 ⟨Nat.le_of_ble_eq_true rfl, Nat.le_of_ble_eq_true rfl⟩) (fun S23 H24 locs p_25 hI => ?_)
        obtain ⟨zc, ZZ9, X9, W99, hzk, q_vo, q_pn, q_W, q_Z, fq⟩ := p_25
        have h_d9 : S23 d9 = some (11, .inr (5, [.ref ra, .ref ka])) := fq d9 _ _ h_d9 (by omega) (by omega) (by omega) (by omega)
        have h_ra : S23 ra = some (12, .inl ((g 0), N9, .inl (fun j => nI (zR j).val))) := fq ra _ _ h_ra (by omega) (by omega) (by omega) (by omega)
        have h_ka : S23 ka = some (13, .inl ((g 0), N9, .inl kp)) := fq ka _ _ h_ka (by omega) (by omega) (by omega) (by omega)
        have h_qo : S23 qo = some (14, .inr (4, [.int (nI nl), .ref ky, .int (nI s9), .ref pr, .ref lw, .ref ll, .ref mu, .ref fa, .ref nx, .ref re, .ref so1, .ref so2])) := fq qo _ _ h_qo (by omega) (by omega) (by omega) (by omega)
        have h_ky : S23 ky = some (15, .inl ((g 0), 16, .inl (fun j => nI (kQ9 j)))) := fq ky _ _ h_ky (by omega) (by omega) (by omega) (by omega)
        have h_pr : S23 pr = some (16, .inl ((g 1), 48, .inr (.inr (.inr (.inr (rfs (fun ii => pr + 1 + ii) 48)))))) := fq pr _ _ h_pr (by omega) (by omega) (by omega) (by omega)
        have h_lw : S23 lw = some (17, .inl ((g 0), 16, .inl (fun j => nI (lw9 j)))) := fq lw _ _ h_lw (by omega) (by omega) (by omega) (by omega)
        have h_ll : S23 ll = some (18, .inl ((g 0), 16, .inl (fun j => nI (ll9 j)))) := fq ll _ _ h_ll (by omega) (by omega) (by omega) (by omega)
        have h_mu : S23 mu = some (19, .inl ((g 1), 16, .inr (.inr (.inr (.inr (rfs (fun ii => mu + 1 + ii) 16)))))) := fq mu _ _ h_mu (by omega) (by omega) (by omega) (by omega)
        have h_fa : S23 fa = some (20, .inl ((g 0), 16, .inl (fun j => nI (Fab j).val))) := fq fa _ _ h_fa (by omega) (by omega) (by omega) (by omega)
        have h_nx : S23 nx = some (21, .inl ((g 0), 16, .inl (fun j => nI (Nxb j).val))) := fq nx _ _ h_nx (by omega) (by omega) (by omega) (by omega)
        have h_re : S23 re = some (22, .inl ((g 0), 33, .inl (fun j => nI (Reb j).val))) := fq re _ _ h_re (by omega) (by omega) (by omega) (by omega)
        have h_so1 : S23 so1 = some (23, .inr (8, [.ref rq1, .ref rp1, .int z1b])) := fq so1 _ _ h_so1 (by omega) (by omega) (by omega) (by omega)
        have h_rq1 : S23 rq1 = some (24, .inl ((g 1), 16, .inr (.inr (.inr (.inr (rfs (fun ii => rq1 + 1 + ii) 16)))))) := fq rq1 _ _ h_rq1 (by omega) (by omega) (by omega) (by omega)
        have h_rp1 : S23 rp1 = some (25, .inl ((g 0), 16, .inl (fun j => nI (p1b j)))) := fq rp1 _ _ h_rp1 (by omega) (by omega) (by omega) (by omega)
        have h_so2 : S23 so2 = some (26, .inr (8, [.ref rq2, .ref rp2, .int z2])) := fq so2 _ _ h_so2 (by omega) (by omega) (by omega) (by omega)
        have h_rq2 : S23 rq2 = some (27, .inl ((g 1), 16, .inr (.inr (.inr (.inr (rfs (fun ii => rq2 + 1 + ii) 16)))))) := fq rq2 _ _ h_rq2 (by omega) (by omega) (by omega) (by omega)
        have h_rp2 : S23 rp2 = some (28, .inl ((g 0), 16, .inl (fun j => nI (p2 j)))) := fq rp2 _ _ h_rp2 (by omega) (by omega) (by omega) (by omega)
        have h_zo : S23 zo = some (30, .inr (6, [.ref fs, .int z3b, .ref on, .ref ot])) := fq zo _ _ h_zo (by omega) (by omega) (by omega) (by omega)
        have h_fs : S23 fs = some (31, .inl ((g 3), 16, .inr (.inr (.inr (.inr (rfs fe 16)))))) := fq fs _ _ h_fs (by omega) (by omega) (by omega) (by omega)
        have h_lz : S23 lz = some (32, .inl ((g 3), 3, .inr (.inr (.inr (.inr (rfs le 3)))))) := fq lz _ _ h_lz (by omega) (by omega) (by omega) (by omega)
        have h_rr : S23 rr = some (33, .inl ((g 1), 3, .inr (.inr (.inr (.inr (rfs (fun ii => rr + 1 + ii) 3)))))) := fq rr _ _ h_rr (by omega) (by omega) (by omega) (by omega)
        have h_rc : S23 rc = some (34, .inl ((g 0), 3, .inl (fun j => nI (RCb j)))) := fq rc _ _ h_rc (by omega) (by omega) (by omega) (by omega)
        have h_za : S23 za = some (35, .inl ((g 1), 16, .inr (.inr (.inr (.inr (rfs (fun ii => za + 1 + ii) 16)))))) := fq za _ _ h_za (by omega) (by omega) (by omega) (by omega)
        have h_mu9 : S23 mu9 = some (36, .inl ((g 0), 16, .inl (fun j => nI (MQ j)))) := fq mu9 _ _ h_mu9 (by omega) (by omega) (by omega) (by omega)
        have h_po : S23 po = some (37, .inr (2, [.ref pn, .ref pp])) := fq po _ _ h_po (by omega) (by omega) (by omega) (by omega)
        have h_pp : S23 pp = some (39, .inl ((g 1), 3, .inr (.inr (.inr (.inr (rfs (fun ii => pp + 1 + ii) 3)))))) := fq pp _ _ h_pp (by omega) (by omega) (by omega) (by omega)
        have h_on : S23 on = some (560, .inr (1, [.ref na, .int dnb])) := fq on _ _ h_on (by omega) (by omega) (by omega) (by omega)
        have h_na : S23 na = some ((560 + 1), .inl ((g 0), 33, .inl (fun j => nI (cnb j).val))) := fq na _ _ h_na (by omega) (by omega) (by omega) (by omega)
        have h_ot : S23 ot = some (562, .inr (1, [.ref ta, .int dtb])) := fq ot _ _ h_ot (by omega) (by omega) (by omega) (by omega)
        have h_ta : S23 ta = some ((562 + 1), .inl ((g 0), 33, .inl (fun j => nI (ctb j).val))) := fq ta _ _ h_ta (by omega) (by omega) (by omega) (by omega)
        have h_lo : S23 lo = some (2, .inr (9, [.ref ma, .ref hd, .int (nI n)])) := fq lo _ _ h_lo (by omega) (by omega) (by omega) (by omega)
        have h_ma : S23 ma = some (4, .inl ((g 2), 12, .inr (.inr (.inr (.inr (rfs me 12)))))) := fq ma _ _ h_ma (by omega) (by omega) (by omega) (by omega)
        have h_hd : S23 hd = some (5, .inl ((g 0), 12, .inl hf)) := fq hd _ _ h_hd (by omega) (by omega) (by omega) (by omega)
        have hfr : ∀ b t e9, S b = some (t, e9) → ((t < 10 ∨ 40 ≤ t)) → ((t < 400 ∨ 700 ≤ t)) → S23 b = some (t, e9) := fun b t e9 h9 k0 k1 => by have h8 := hfr b t e9 h9 k0 k1; exact fq b _ _ h8 (by omega) (by omega) (by omega) (by omega)
        have hP := rS_kept hP (S1 := S23) (fun b t9 e9 hb9 h1 h2 => by have h8 : S23 b = some (t9, e9) := fq b _ _ hb9 (by omega) (by omega) (by omega) (by omega); rw [h8, hb9])
        have hMU := rS_kept hMU (S1 := S23) (fun b t9 e9 hb9 h1 h2 => by have h8 : S23 b = some (t9, e9) := fq b _ _ hb9 (by omega) (by omega) (by omega) (by omega); rw [h8, hb9])
        have hR1 := rS_kept hR1 (S1 := S23) (fun b t9 e9 hb9 h1 h2 => by have h8 : S23 b = some (t9, e9) := fq b _ _ hb9 (by omega) (by omega) (by omega) (by omega); rw [h8, hb9])
        have hR2 := rS_kept hR2 (S1 := S23) (fun b t9 e9 hb9 h1 h2 => by have h8 : S23 b = some (t9, e9) := fq b _ _ hb9 (by omega) (by omega) (by omega) (by omega); rw [h8, hb9])
        have hE := oS_kept hE (S1 := S23) (fun b t9 e9 hb9 h1 h2 => by have h8 : S23 b = some (t9, e9) := fq b _ _ hb9 (by omega) (by omega) (by omega) (by omega); rw [h8, hb9])
        have hLo := oS_kept hLo (S1 := S23) (fun b t9 e9 hb9 h1 h2 => by have h8 : S23 b = some (t9, e9) := fq b _ _ hb9 (by omega) (by omega) (by omega) (by omega); rw [h8, hb9])
        have hRR := rS_kept hRR (S1 := S23) (fun b t9 e9 hb9 h1 h2 => by have h8 : S23 b = some (t9, e9) := fq b _ _ hb9 (by omega) (by omega) (by omega) (by omega); rw [h8, hb9])
        have hY := yS_kept hY (S1 := S23) (fun b t9 e9 hb9 h1 h2 => by have h8 : S23 b = some (t9, e9) := fq b _ _ hb9 (by omega) (by omega) (by omega) (by omega); rw [h8, hb9])
        have h_vo := q_vo
        have h_pn := q_pn
        have hW := q_W
        have hZ := q_Z
        have hzc := hZb _ _ _ (Nat.le_refl _) hzk
        have hlwo := lw_ok hn1 hcol hlw
        refine lv_iconst (v := nI 0) hx hb d_V_solve_122 (by decide) ?_
        refine lv_istore_n (lv' := [(2, .int (nI 0)), (1, .ref lo), (0, .ref vo)]) hx hb d_V_solve_123 rfl hl (by decide) rfl (fun ls hl => ?_)
        refine lp_V_so2 (B := S) (vo := vo) (d9 := d9) (ra := ra) (ka := ka) (qo := qo) (ky := ky) (pr := pr) (lw := lw) (ll := ll) (mu := mu) (fa := fa) (nx := nx) (re := re) (so1 := so1) (rq1 := rq1) (rp1 := rp1) (so2 := so2) (rq2 := rq2) (rp2 := rp2) (zo := zo) (fs := fs) (lz := lz) (rr := rr) (rc := rc) (za := za) (mu9 := mu9) (po := po) (pn := pn) (pp := pp) (on := on) (na := na) (ot := ot) (ta := ta) (lo := lo) (ma := ma) (hd := hd) (n := n) (nl := nl) (N9 := N9) (fe := fe) (fz := fz) (le := le) (la := la) (kp := kp) (me := me) (mk := mk) (mn := mn) (mcap := mcap) (mz := mz) (mkf := mkf) (mnf := mnf) (hf := hf) (h := h) (z := z) (mo := mo) (co := co) (s9 := s9) (zc := zc) (kQ := kQ9) (PT := PT9) (lwf := lw9) (llf := ll9) (Re := Reb) (z1 := z1b) (ρ1 := ρ1b) (p1 := p1b) (z3 := z3b) (dn := dnb) (cn := cnb) (dt := dtb) (ct := ctb) (dgE := dgEb) (CF := CFb) (dl := dlb) (CL := CLb) (RT := RTb) (RC := RCb) (ZZ := ZZ9) (X := X9) (W9 := W99) (lf := (fun k => Ep (lq k))) hx hb hml hg hown hK (Nat.le_of_ble_eq_true rfl) (Nat.le_of_ble_eq_true rfl) (Nat.le_of_ble_eq_true rfl) (Nat.le_of_ble_eq_true rfl) hB hnl hn1 hs hzc (fun k h1 h2 => ⟨(hlwo k h1 h2).1, Nat.lt_of_lt_of_le (hlwo k h1 h2).2.1 hnl⟩) (hgs hB.1 hFl (bas_B hB.1 hbas) hpt (fun k h1 h2 => (hlwo k h1 h2).2)) hpt zc 0 MQ Fab Nxb MU z2 ρ2 p2 S23 H24 _ ls (by omega) (fun k8 hk8 => absurd hk8 (Nat.not_lt_zero k8)) tMU tFab tNxb tρ2 h_vo h_d9 h_ra h_ka h_qo h_ky h_pr h_lw h_ll h_mu h_fa h_nx h_re h_so1 h_rq1 h_rp1 h_so2 h_rq2 h_rp2 h_zo h_fs h_lz h_rr h_rc h_za h_mu9 h_po h_pn h_pp h_on h_na h_ot h_ta h_lo h_ma h_hd hP hMU hR1 hR2 hE hLo hRR hZ hW hY hfr hI (lv_sub hl [0, 1, 2] rfl) (fun MQc Fac Nxc MUc z2c ρ2c p2c S27 H28 locs ls hmu tMUc tFac tNxc tρ2c h_vo h_d9 h_ra h_ka h_qo h_ky h_pr h_lw h_ll h_mu h_fa h_nx h_re h_so1 h_rq1 h_rp1 h_so2 h_rq2 h_rp2 h_zo h_fs h_lz h_rr h_rc h_za h_mu9 h_po h_pn h_pp h_on h_na h_ot h_ta h_lo h_ma h_hd hP hMU hR1 hR2 hE hLo hRR hZ hW hY hfr hI hl => ?_)
        refine lv_aload_n hx hb d_V_solve_157 rfl (lv_at hl 2 rfl) ?_
        refine mp_get (C := R_V) (T := F_V) (N := 11) (v := .int (nI zc)) hx hb hg i_V hown hK.va hI h_vo rfl 9 (by decide) (hg _ q_272) (fun _ h9 => h9) rfl d_V_solve_158 ?_
        refine mp_iret hx hb hr hlocks hI (Nat.le_of_ble_eq_true rfl) (Nat.le_of_ble_eq_true rfl) ?_ d_V_solve_161
        exact ⟨(nI s9), (kQ9), (PT9), (lw9), (ll9), (MUc), (Fac), (Nxc), (Reb), (z1b), (ρ1b), (p1b), (z2c), (ρ2c), (p2c), (z3b), (dnb), (cnb), (dtb), (ctb), (dgEb), (CFb), (dlb), (CLb), (RTb), (RCb), (ZZ9), (MQc), (X9), (W99), (nI zc), Or.inr (Or.inr (Or.inr ⟨hbas, hfin, s9, zc, (fun k => Ep (lq k)), DGb, rfl, rfl, rfl, hkq, fun l hl => (hlr l hl).2.1, rn_B hs hcol hpt hlr honeb hrts hzk hzc, hmu⟩)), honeb, tPT9, tMUc, tFac, tNxc, tReb, tρ1b, tρ2c, tcnb, tctb, tCFb, tCLb, h_vo, h_d9, h_ra, h_ka, h_qo, h_ky, h_pr, h_lw, h_ll, h_mu, h_fa, h_nx, h_re, h_so1, h_rq1, h_rp1, h_so2, h_rq2, h_rp2, h_zo, h_fs, h_lz, h_rr, h_rc, h_za, h_mu9, h_po, h_pn, h_pp, h_on, h_na, h_ot, h_ta, hP, hMU, hR1, hR2, hE, hLo, hRR, hZ, hW, hfr⟩
      · refine lv_if_ne (tgt := 50) hx hb d_V_solve_44 (by decide) (fun h9 => absurd h9 (by decide)) (fun _ => ?_)
        refine lv_bipush (v := (-3)) hx hb d_V_solve_47 (by decide) ?_
        refine mp_iret hx hb hr hlocks hI (Nat.le_of_ble_eq_true rfl) (Nat.le_of_ble_eq_true rfl) ?_ d_V_solve_49
        exact ⟨(nI s9), (kQ9), (PT), (lwf), (llf), (MU), (Fa), (Nx), (Re), (z1), (ρ1), (p1), (z2), (ρ2), (p2), (z3), (dn), (cn), (dt), (ct), (dgE), (CF), (dl), (CL), (RT), (RC), (ZZ), (MQ), (X), (W9), (0), Or.inr (Or.inr (Or.inl ⟨rfl, hbas, hfin, hfl⟩)), hone, tPT, tMU, tFa, tNx, tRe, tρ1, tρ2, tcn, tct, tCF, tCL, h_vo, h_d9, h_ra, h_ka, h_qo, h_ky, h_pr, h_lw, h_ll, h_mu, h_fa, h_nx, h_re, h_so1, h_rq1, h_rp1, h_so2, h_rq2, h_rp2, h_zo, h_fs, h_lz, h_rr, h_rc, h_za, h_mu9, h_po, h_pn, h_pp, h_on, h_na, h_ot, h_ta, hP, hMU, hR1, hR2, hE, hLo, hRR, hZ, hW, hfr⟩
    · refine lv_if_ne (tgt := 32) hx hb d_V_solve_26 (by decide) (fun h9 => absurd h9 (by decide)) (fun _ => ?_)
      refine lv_bipush (v := (-2)) hx hb d_V_solve_29 (by decide) ?_
      refine mp_iret hx hb hr hlocks hI (Nat.le_of_ble_eq_true rfl) (Nat.le_of_ble_eq_true rfl) ?_ d_V_solve_31
      exact ⟨(s1), (kQ), (PT), (lwf), (llf), (MU), (Fa), (Nx), (Re), (z1), (ρ1), (p1), (z2), (ρ2), (p2), (z3), (dn), (cn), (dt), (ct), (dgE), (CF), (dl), (CL), (RT), (RC), (ZZ), (MQ), (X), (W9), (0), Or.inr (Or.inl ⟨rfl, hbas, hfin⟩), hone, tPT, tMU, tFa, tNx, tRe, tρ1, tρ2, tcn, tct, tCF, tCL, h_vo, h_d9, h_ra, h_ka, h_qo, h_ky, h_pr, h_lw, h_ll, h_mu, h_fa, h_nx, h_re, h_so1, h_rq1, h_rp1, h_so2, h_rq2, h_rp2, h_zo, h_fs, h_lz, h_rr, h_rc, h_za, h_mu9, h_po, h_pn, h_pp, h_on, h_na, h_ot, h_ta, hP, hMU, hR1, hR2, hE, hLo, hRR, hZ, hW, hfr⟩
  · refine lv_if_ne (tgt := 18) hx hb d_V_solve_13 (by decide) (fun h9 => absurd h9 (by decide)) (fun _ => ?_)
    refine lv_iconst (v := (-1)) hx hb d_V_solve_16 (by decide) ?_
    refine mp_iret hx hb hr hlocks hI (Nat.le_of_ble_eq_true rfl) (Nat.le_of_ble_eq_true rfl) ?_ d_V_solve_17
    exact ⟨(s1), (kQ), (PT), (lwf), (llf), (MU), (Fa), (Nx), (Re), (z1), (ρ1), (p1), (z2), (ρ2), (p2), (z3), (dn), (cn), (dt), (ct), (dgE), (CF), (dl), (CL), (RT), (RC), (ZZ), (MQ), (X), (W9), (0), Or.inl ⟨rfl, hbas⟩, hone, tPT, tMU, tFa, tNx, tRe, tρ1, tρ2, tcn, tct, tCF, tCL, h_vo, h_d9, h_ra, h_ka, h_qo, h_ky, h_pr, h_lw, h_ll, h_mu, h_fa, h_nx, h_re, h_so1, h_rq1, h_rp1, h_so2, h_rq2, h_rp2, h_zo, h_fs, h_lz, h_rr, h_rc, h_za, h_mu9, h_po, h_pn, h_pp, h_on, h_na, h_ot, h_ta, hP, hMU, hR1, hR2, hE, hLo, hRR, hZ, hW, hfr⟩
