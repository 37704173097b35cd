/-! The reference's run. -/
def finP (n : Nat) (h : Nat → m3) (nl : Nat) : Prop := ∀ j, j < nl → bndL n (fun i => (h i).1) (fun i => (h i).2.1) (fun i => (h i).2.2) j
def roM (n : Nat) (h : Nat → m3) (z : Nat → Nat) (mo : Nat → Nat → m3) (co : Nat → Nat → fF) (nl : Nat) (r kn s1 z1 : Int32) (LF DG : Nat → Nat) (LE ZM : Nat → fF) (OF : Nat → Nat) : Prop :=
  (r = -1 ∧ kn = nI 0 ∧ ¬ bas n h z mo co) ∨ (r = -2 ∧ kn = nI 0 ∧ bas n h z mo co ∧ ¬ finP n h nl) ∨ (r = -3 ∧ kn = nI 0 ∧ bas n h z mo co ∧ finP n h nl ∧ ∃ Q9 lf, colS (lfP n h nl) Q9 17 lf) ∨
  (kn = nI 1 ∧ bas n h z mo co ∧ finP n h nl ∧ ∃ (s9 zc : Nat) (lf : Nat → m3), r = nI zc ∧ s1 = nI s9 ∧ z1 = nI zc ∧ (∀ k, k < s9 → LF k = pN (lf k).1 (lf k).2.1 (lf k).2.2) ∧ rnC n h z mo co nl s9 lf DG (fun l k => LE (17 * l + k)) zc (fun r l => ZM (3 * r + l)) ∧ ∀ k, k < zc → muM n h z mo co nl s9 lf (fun l => ZM (3 * k + l)) (OF k))
def lrI (s : Nat) (TB : Nat → fF) (i : Nat) (DG : Nat → Nat) (LE : Nat → fF) (RMf RO : Nat → Nat) : Prop := ∀ l, l < i → dgP s (vqM TB l s) (DG l) ∧ (∀ k, k < DG l + 1 → LE (17 * l + k) = rwN s (vqM TB l s) (DG l) (16 + k)) ∧ RMf l ≤ 16 ∧ rtS (RMf l) (fun j => RO (17 * l + j)) (fun a => pe (DG l + 1) (fun k => LE (17 * l + k)) a)
theorem rtS_cg {n : Nat} {u u' : Nat → Nat} {f f' : fF → fF} (hu : ∀ j, j < n → u' j = u j) (hf : ∀ a, f' a = f a) (H : rtS n u f) : rtS n u' f' := by
  refine ⟨fun a b hab hb => by rw [hu a (by omega), hu b hb]; exact H.1 a b hab hb, fun y => ?_⟩
  rw [hf, ← H.2 y]
  constructor
  · rintro ⟨j, hj, e⟩; exact ⟨j, hj, by rw [← hu j hj]; exact e⟩
  · rintro ⟨j, hj, e⟩; exact ⟨j, hj, by rw [hu j hj]; exact e⟩
theorem lrI_up {s : Nat} {TB : Nat → fF} {i : Nat} {DG : Nat → Nat} {LE : Nat → fF} {RMf RO : Nat → Nat} (H : lrI s TB i DG LE RMf RO) (hs : s ≤ 16) {D9 n9 : Nat} {LE1 : Nat → fF} {RO1 : Nat → Nat} (h1 : dgP s (vqM TB i s) D9) (h2 : ∀ k9, k9 < D9 + 1 → LE1 (17 * i + k9) = rwN s (vqM TB i s) D9 (16 + k9)) (h3 : ∀ j, (j < 17 * i ∨ 17 * i + 17 ≤ j) → LE1 j = LE j) (h4 : n9 ≤ D9) (h5 : rtS n9 (fun j => RO1 (17 * i + j)) (fun a => pe (D9 + 1) (fun k => rwN s (vqM TB i s) D9 (16 + k)) a)) (h6 : ∀ j, (j < 17 * i ∨ 17 * i + 17 ≤ j) → RO1 j = RO j) : lrI s TB (i + 1) (va_up DG i D9) LE1 (va_up RMf i n9) RO1 := by
  intro l hl
  by_cases e : l = i
  · subst e
    rw [mp_us, mp_us]
    have := h1.1
    exact ⟨h1, h2, by omega, rtS_cg (fun _ _ => rfl) (fun a => pe_cg a h2) h5⟩
  · rw [mp_un e, mp_un e]
    obtain ⟨a1, a2, a3, a4⟩ := H l (by omega)
    have := a1.1
    refine ⟨a1, fun k hk => by rw [h3 _ (by omega)]; exact a2 k hk, a3, rtS_cg (fun j hj => h6 _ (by omega)) (fun a => pe_cg a (fun k hk => h3 _ (by omega))) a4⟩
theorem lf_all {n : Nat} {h : Nat → m3} {nl s : Nat} {LF : Nat → Nat} (H : flI n h nl (tr3 28) s LF) (hf : finP n h nl) (hnl : nl ≤ 3) (h1 : 1 ≤ nl) (h9 : ∀ i, i < n → e9 (h i)) : ∃ lq, colS (lfP n h nl) (tr3 28) s lq ∧ (∀ k, k < s → LF k = pN (Ep (lq k)).1 (Ep (lq k)).2.1 (Ep (lq k)).2.2 ∧ ((Ep (lq k)).1 ≤ 8 ∧ (Ep (lq k)).2.1 ≤ 8 ∧ (Ep (lq k)).2.2 ≤ 8) ∧ ¬ fi h (Ep (lq k)) n < n) ∧ (∀ k, k < s → (LF k = 0 ↔ k = 0)) ∧ ∀ k, k < s → LF k < 1000 := by
  obtain ⟨lq, hc, he⟩ := H
  have b : ∀ k, k < s → (Ep (lq k)).1 ≤ 8 ∧ (Ep (lq k)).2.1 ≤ 8 ∧ (Ep (lq k)).2.2 ≤ 8 := fun k hk => (fin_bd hf hnl h1 h9 (hc.1 k hk).2).1
  refine ⟨lq, hc, fun k hk => ⟨he k hk, b k hk, (hc.1 k hk).2.2⟩, fun k hk => ?_, fun k hk => ?_⟩
  · rw [he k hk]
    have h0 := lf_first hc (by omega)
    constructor
    · intro q
      rcases Nat.eq_zero_or_pos k with e | e
      · exact e
      · have h2 := hc.2.1 0 k e hk
        have h3 : Ep (lq k) = (0, 0, 0) := by
          unfold pN at q; exact m3_ext (show (Ep (lq k)).1 = 0 by omega) (show (Ep (lq k)).2.1 = 0 by omega) (show (Ep (lq k)).2.2 = 0 by omega)
        have h4 : pl3 (Ep (lq k)) = 0 := by rw [h3]; rfl
        rw [pl_Ep3] at h4; omega
    · intro q
      subst q
      rw [h0]; rfl
  · have := b k hk
    rw [he k hk]; unfold pN; omega
theorem zz_ok {n : Nat} {h : Nat → m3} {z : Nat → Nat} {mo : Nat → Nat → m3} {co : Nat → Nat → fF} (hL : mL n h z mo co) {nl s : Nat} {lf : Nat → m3} (hF : lfS n h z mo (InL nl) s lf) (hs : s ≤ 16) (hn1 : 1 ≤ nl) {TB : Nat → fF} {DG : Nat → Nat} {LE : Nat → fF} {RMf RO : Nat → Nat} (H : lrI s TB nl DG LE RMf RO) :
    ∃ (RT : Nat → Nat → Nat) (RC : Nat → Nat), (∀ l, l < 3 → RC l ≤ 16) ∧ (∀ l, l < 3 → ∀ i, i < RC l → RT l i < 32003 ∧ (if l < nl then RO (17 * l + i) else 0) = RT l i) ∧ (∀ l, l < 3 → (if l < nl then RMf l else 1) = RC l) ∧ (∀ Q n9 ZZ, Q ≤ RC 0 * RC 1 * RC 2 → zkS (zqP n z mo co RT (RC 1) (RC 2)) (zqX RT (RC 1) (RC 2)) Q n9 ZZ → n9 ≤ 16) ∧ (∀ l, l < nl → rtS (RC l) (RT l) (fun a => pe (DG l + 1) (fun k => LE (17 * l + k)) a)) ∧ ∀ l, nl ≤ l → l < 3 → RC l = 1 ∧ RT l 0 = 0 := by
  have r1 : ∀ l, l < nl → rtS (if l < nl then RMf l else 1) (fun i => if l < nl then RO (17 * l + i) else 0) (fun a => pe (DG l + 1) (fun k => LE (17 * l + k)) a) := fun l hl => by
    rw [if_pos hl]; exact rtS_cg (fun j _ => by rw [if_pos hl]) (fun _ => rfl) (H l hl).2.2.2
  have r2 : ∀ l, l < 3 → ∀ i, i < (if l < nl then RMf l else 1) → (if l < nl then RO (17 * l + i) else 0) < 32003 := fun l hl i hi => by
    by_cases e : l < nl
    · exact (((r1 l e).2 _).mp ⟨i, hi, rfl⟩).1
    · rw [if_neg e]; decide
  refine ⟨fun l i => if l < nl then RO (17 * l + i) else 0, fun l => if l < nl then RMf l else 1, fun l hl => ?_, fun l hl i hi => ⟨r2 l hl i hi, rfl⟩, fun _ _ => rfl, fun Q n9 ZZ hQ hz => ?_, r1, fun l hl h3 => ?_⟩
  · show (if l < nl then RMf l else 1) ≤ 16
    by_cases e : l < nl
    · rw [if_pos e]; exact (H l e).2.2.1
    · rw [if_neg e]; decide
  · refine Nat.le_trans (zb_16 hL hF hn1 (fun l hl i j hij hj => ?_) (fun l hl i hi => r2 l hl i hi) (fun l hl h3 => by show (if l < nl then RMf l else 1) = 1; rw [if_neg (by omega)]) Q n9 ZZ hQ hz) hs
    by_cases e : l < nl
    · exact (r1 l e).1 i j hij hj
    · have h5 : j < (if l < nl then RMf l else 1) := hj
      rw [if_neg e] at h5; omega
  · show (if l < nl then RMf l else 1) = 1 ∧ (if l < nl then RO (17 * l + 0) else 0) = 0
    rw [if_neg (by omega), if_neg (by omega)]; exact ⟨rfl, rfl⟩
theorem rn_M {n : Nat} {h : Nat → m3} {z : Nat → Nat} {mo : Nat → Nat → m3} {co : Nat → Nat → fF} {nl s : Nat} {lq : Nat → Nat} (hs : s ≤ 16) (hc : colS (lfP n h nl) (tr3 28) s lq) {TB : Nat → fF} (hmt : mtI n h z mo co s (fun k => Ep (lq k)) nl 0 TB) {DG : Nat → Nat} {LE : Nat → fF} {RMf RO : Nat → Nat} (H : lrI s TB nl DG LE RMf RO) {RT : Nat → Nat → Nat} {RC : Nat → Nat} (hr : ∀ l, l < nl → rtS (RC l) (RT l) (fun a => pe (DG l + 1) (fun k => LE (17 * l + k)) a)) (ho : ∀ l, nl ≤ l → l < 3 → RC l = 1 ∧ RT l 0 = 0) {zc : Nat} {ZZ : Nat → Nat → fF} (hz : zkS (zqP n z mo co RT (RC 1) (RC 2)) (zqX RT (RC 1) (RC 2)) (RC 0 * RC 1 * RC 2) zc ZZ) (hzc : zc ≤ 16) : rnC n h z mo co nl s (fun k => Ep (lq k)) DG (fun l k => LE (17 * l + k)) zc ZZ :=
  ⟨hs, ⟨lq, hc, fun _ _ => rfl⟩, fun l hl => ⟨dgP_cg (vS_M hmt hl) (H l hl).1, fun k hk => by show LE (17 * l + k) = _; rw [(H l hl).2.1 k hk, rw_cg (vS_M hmt hl)]⟩, hzc, RT, RC, hr, ho, hz⟩
theorem mo_e9 {n : Nat} {h : Nat → m3} {z : Nat → Nat} {mo : Nat → Nat → m3} {co : Nat → Nat → fF} {z2 : Nat → Nat} {mo2 : Nat → Nat → m3} {co2 : Nat → Nat → fF} {ld : Nat → fF} {tf tpf tnf hf hif : Nat → Int32} (H : lsM n h z mo co z2 mo2 co2 ld tf tpf tnf hf hif) : ∀ i, i < n → e9 (h i) := fun i hi => (H.2.2 i hi).2.2.2.1

theorem d_M_run_26 : decode b_M_run 26 = .ok (.iconst (-1), 1) := by decide +kernel
theorem d_M_run_27 : decode b_M_run 27 = .ok (.ireturn, 1) := by decide +kernel
theorem d_M_run_38 : decode b_M_run 38 = .ok (.aload_n 0, 1) := by decide +kernel
theorem d_M_run_39 : decode b_M_run 39 = .ok (.invokevirtual 220, 3) := by decide +kernel
theorem d_M_run_42 : decode b_M_run 42 = .ok (.ifCond .ne 6, 3) := by decide +kernel
theorem d_M_run_45 : decode b_M_run 45 = .ok (.bipush (-3), 2) := by decide +kernel
theorem d_M_run_47 : decode b_M_run 47 = .ok (.ireturn, 1) := by decide +kernel
theorem d_M_run_48 : decode b_M_run 48 = .ok (.aload_n 0, 1) := by decide +kernel
theorem d_M_run_49 : decode b_M_run 49 = .ok (.invokevirtual 223, 3) := by decide +kernel
theorem d_M_run_52 : decode b_M_run 52 = .ok (.iconst 0, 1) := by decide +kernel
theorem d_M_run_53 : decode b_M_run 53 = .ok (.istore_n 1, 1) := by decide +kernel
theorem d_M_run_54 : decode b_M_run 54 = .ok (.iload_n 1, 1) := by decide +kernel
theorem d_M_run_55 : decode b_M_run 55 = .ok (.aload_n 0, 1) := by decide +kernel
theorem d_M_run_56 : decode b_M_run 56 = .ok (.getfield 78, 3) := by decide +kernel
theorem d_M_run_59 : decode b_M_run 59 = .ok (.if_icmp .ge 19, 3) := by decide +kernel
theorem d_M_run_62 : decode b_M_run 62 = .ok (.aload_n 0, 1) := by decide +kernel
theorem d_M_run_63 : decode b_M_run 63 = .ok (.iload_n 1, 1) := by decide +kernel
theorem d_M_run_64 : decode b_M_run 64 = .ok (.invokevirtual 226, 3) := by decide +kernel
theorem d_M_run_67 : decode b_M_run 67 = .ok (.aload_n 0, 1) := by decide +kernel
theorem d_M_run_68 : decode b_M_run 68 = .ok (.iload_n 1, 1) := by decide +kernel
theorem d_M_run_69 : decode b_M_run 69 = .ok (.invokevirtual 229, 3) := by decide +kernel
theorem d_M_run_72 : decode b_M_run 72 = .ok (.iinc 1 1, 3) := by decide +kernel
theorem d_M_run_75 : decode b_M_run 75 = .ok (.goto (-21), 3) := by decide +kernel
theorem d_M_run_78 : decode b_M_run 78 = .ok (.aload_n 0, 1) := by decide +kernel
theorem d_M_run_79 : decode b_M_run 79 = .ok (.invokevirtual 232, 3) := by decide +kernel
theorem d_M_run_82 : decode b_M_run 82 = .ok (.aload_n 0, 1) := by decide +kernel
theorem d_M_run_83 : decode b_M_run 83 = .ok (.invokevirtual 235, 3) := by decide +kernel
theorem d_M_run_86 : decode b_M_run 86 = .ok (.aload_n 0, 1) := by decide +kernel
theorem d_M_run_87 : decode b_M_run 87 = .ok (.iconst 1, 1) := by decide +kernel
theorem d_M_run_88 : decode b_M_run 88 = .ok (.putfield 121, 3) := by decide +kernel
theorem d_M_run_91 : decode b_M_run 91 = .ok (.aload_n 0, 1) := by decide +kernel
theorem d_M_run_92 : decode b_M_run 92 = .ok (.getfield 195, 3) := by decide +kernel
theorem d_M_run_95 : decode b_M_run 95 = .ok (.ireturn, 1) := by decide +kernel
set_option maxHeartbeats 4000000 in
set_option maxRecDepth 100000 in
theorem lp_M_rn {p : Program} {l : Launch} {e : Env} {R : Room} {s : State} {m : MethodId} {args : Array Value} {below : List Frame} {meth : Method} {c : Code} {Q : State → Prop} {D : mp_G} {g : Nat → ClassId} {A : Nat → Prop} {cells slots : Nat} (hx : p.tables.exec = Jvm.exec) (hb : c.code = b_M_run) (hml : c.maxLocals = 2) (hg : ∀ w ∈ gw, w.before args s = true) (hown : s.vm.findClass R_M = some m.cls) (hK : mp_K D classes (tys g) s) (hRf : 4 ≤ R.frames) (hRl : 98 ≤ R.locals) (hRc : cells ≤ R.cells) (hRs : slots ≤ R.slots) {B : mp_M} {o te tp tn hd hv9 cu le ta dg lt9 rm ro9 ze oq fa ve ot ro pv9 sq rs n nl : Nat} {mv1 mv2 mv4 : Value} {tf tpf tnf hf hif : Nat → Int32} {h : Nat → m3} {z : Nat → Nat} {mo : Nat → Nat → m3} {co : Nat → Nat → fF} {z2 : Nat → Nat} {mo2 : Nat → Nat → m3} {co2 : Nat → Nat → fF} {ld : Nat → fF} {CU TB ZM SQ RS : Nat → fF} {LF OF : Nat → Nat} {FV : Nat → Int32} {z0 : Int32} {s9 : Nat} (hnl : nl ≤ 3) (hs : s9 ≤ 16) (hL0 : ∀ k, k < s9 → (LF k = 0 ↔ k = 0)) (hLb : ∀ k, k < s9 → LF k < 1000) : ∀ (k : Nat) (i : Nat) (DG : Nat → Nat) (LE : Nat → fF) (RMf : Nat → Nat) (RO : Nat → Nat) (RW : Nat → fF) (vv : Nat → fF) (ww : Nat → fF) (PV : Nat → Int32) (S : mp_M) (H : Heap) (locs : List Loc) (ls : Array Slot), i + k = nl → (lrI s9 TB i DG LE RMf RO) → S o = some (2000, .inr (10, [.int (nI nl), mv1, mv2, .int (nI 0), mv4, .int (nI n), .ref te, .ref tp, .ref tn, .ref hd, .ref hv9, .ref cu, .int (nI 0), .int (nI 1), .int (nI s9), .ref le, .ref ta, .ref dg, .ref lt9, .ref rm, .ref ro9, .int z0, .ref ze, .ref oq, .ref fa, .ref ve, .ref ot, .ref ro, .ref pv9, .ref sq, .ref rs])) → S te = some (2002, .inl ((g 0), 12, .inl tf)) → S tp = some (2003, .inl ((g 0), 12000, .inl tpf)) → S tn = some (2004, .inl ((g 0), 12000, .inl tnf)) → S hd = some (2005, .inl ((g 0), 12, .inl hf)) → S hv9 = some (2006, .inl ((g 0), 12, .inl hif)) → S cu = some (2007, .inl ((g 0), 21952, .inl (fun j => nI (CU j).val))) → S le = some (2008, .inl ((g 0), 17, .inl (fun j => nI (LF j)))) → S ta = some (2009, .inl ((g 0), 768, .inl (fun j => nI (TB j).val))) → S dg = some (2010, .inl ((g 0), 3, .inl (fun j => nI (DG j)))) → S lt9 = some (2011, .inl ((g 0), 51, .inl (fun j => nI (LE j).val))) → S rm = some (2012, .inl ((g 0), 3, .inl (fun j => nI (RMf j)))) → S ro9 = some (2013, .inl ((g 0), 51, .inl (fun j => nI (RO j)))) → S ze = some (2014, .inl ((g 0), 51, .inl (fun j => nI (ZM j).val))) → S oq = some (2015, .inl ((g 0), 17, .inl (fun j => nI (OF j)))) → S fa = some (2016, .inl ((g 5), 3, .inl FV)) → S ve = some (2017, .inl ((g 0), 16, .inl (fun j => nI (vv j).val))) → S ot = some (2018, .inl ((g 0), 16, .inl (fun j => nI (ww j).val))) → S ro = some (2019, .inl ((g 0), 1700, .inl (fun j => nI (RW j).val))) → S pv9 = some (2020, .inl ((g 0), 64, .inl PV)) → S sq = some (2021, .inl ((g 0), 256, .inl (fun j => nI (SQ j).val))) → S rs = some (2022, .inl ((g 0), 256, .inl (fun j => nI (RS j).val))) → (∀ b t e9, B b = some (t, e9) → (t ≠ 2000) → (t ≠ 2007) → (t ≠ 2008) → (t ≠ 2009) → (t ≠ 2010) → (t ≠ 2011) → (t ≠ 2012) → (t ≠ 2013) → (t ≠ 2014) → (t ≠ 2015) → (t ≠ 2016) → (t ≠ 2017) → (t ≠ 2018) → (t ≠ 2019) → (t ≠ 2020) → (t ≠ 2021) → (t ≠ 2022) → S b = some (t, e9)) → mp_I D classes A s.heap S H locs → lv_has ls 2 [(1, .int (nI i)), (0, .ref o)] → (∀ (DG : Nat → Nat) (LE : Nat → fF) (RMf : Nat → Nat) (RO : Nat → Nat) (RW : Nat → fF) (vv : Nat → fF) (ww : Nat → fF) (PV : Nat → Int32) (S : mp_M) (H : Heap) (locs : List Loc) (ls : Array Slot), (lrI s9 TB nl DG LE RMf RO) → S o = some (2000, .inr (10, [.int (nI nl), mv1, mv2, .int (nI 0), mv4, .int (nI n), .ref te, .ref tp, .ref tn, .ref hd, .ref hv9, .ref cu, .int (nI 0), .int (nI 1), .int (nI s9), .ref le, .ref ta, .ref dg, .ref lt9, .ref rm, .ref ro9, .int z0, .ref ze, .ref oq, .ref fa, .ref ve, .ref ot, .ref ro, .ref pv9, .ref sq, .ref rs])) → S te = some (2002, .inl ((g 0), 12, .inl tf)) → S tp = some (2003, .inl ((g 0), 12000, .inl tpf)) → S tn = some (2004, .inl ((g 0), 12000, .inl tnf)) → S hd = some (2005, .inl ((g 0), 12, .inl hf)) → S hv9 = some (2006, .inl ((g 0), 12, .inl hif)) → S cu = some (2007, .inl ((g 0), 21952, .inl (fun j => nI (CU j).val))) → S le = some (2008, .inl ((g 0), 17, .inl (fun j => nI (LF j)))) → S ta = some (2009, .inl ((g 0), 768, .inl (fun j => nI (TB j).val))) → S dg = some (2010, .inl ((g 0), 3, .inl (fun j => nI (DG j)))) → S lt9 = some (2011, .inl ((g 0), 51, .inl (fun j => nI (LE j).val))) → S rm = some (2012, .inl ((g 0), 3, .inl (fun j => nI (RMf j)))) → S ro9 = some (2013, .inl ((g 0), 51, .inl (fun j => nI (RO j)))) → S ze = some (2014, .inl ((g 0), 51, .inl (fun j => nI (ZM j).val))) → S oq = some (2015, .inl ((g 0), 17, .inl (fun j => nI (OF j)))) → S fa = some (2016, .inl ((g 5), 3, .inl FV)) → S ve = some (2017, .inl ((g 0), 16, .inl (fun j => nI (vv j).val))) → S ot = some (2018, .inl ((g 0), 16, .inl (fun j => nI (ww j).val))) → S ro = some (2019, .inl ((g 0), 1700, .inl (fun j => nI (RW j).val))) → S pv9 = some (2020, .inl ((g 0), 64, .inl PV)) → S sq = some (2021, .inl ((g 0), 256, .inl (fun j => nI (SQ j).val))) → S rs = some (2022, .inl ((g 0), 256, .inl (fun j => nI (RS j).val))) → (∀ b t e9, B b = some (t, e9) → (t ≠ 2000) → (t ≠ 2007) → (t ≠ 2008) → (t ≠ 2009) → (t ≠ 2010) → (t ≠ 2011) → (t ≠ 2012) → (t ≠ 2013) → (t ≠ 2014) → (t ≠ 2015) → (t ≠ 2016) → (t ≠ 2017) → (t ≠ 2018) → (t ≠ 2019) → (t ≠ 2020) → (t ≠ 2021) → (t ≠ 2022) → S b = some (t, e9)) → mp_I D classes A s.heap S H locs → lv_has ls 2 [(1, .int (nI nl)), (0, .ref o)] → W p l e R s m args below meth c H locs cells slots Q (F0 m 78 ls [])) → W p l e R s m args below meth c H locs cells slots Q (F0 m 54 ls []) := by
  intro k
  induction k with
  | zero =>
    intro i DG LE RMf RO RW vv ww PV S H locs ls hi hlr h_o h_te h_tp h_tn h_hd h_hv9 h_cu h_le h_ta h_dg h_lt9 h_rm h_ro9 h_ze h_oq h_fa h_ve h_ot h_ro h_pv9 h_sq h_rs hfr hI hl kx
    refine lv_iload_n hx hb d_M_run_54 rfl (lv_at hl 0 rfl) ?_
    refine lv_aload_n hx hb d_M_run_55 rfl (lv_at hl 1 rfl) ?_
    refine mp_get (C := R_M) (T := F_M) (N := 31) (v := .int (nI nl)) hx hb hg i_M hown hK.va hI h_o rfl 0 (by decide) (hg _ q_804) (fun _ h9 => h9) rfl d_M_run_56 ?_
    refine lv_icmp_ge (tgt := 78) hx hb d_M_run_59 (by decide) (fun _ => ?_) (fun h9 => absurd ((nI_leI (by omega) (by omega)).mpr (by omega)) h9)
    obtain rfl : i = nl := by omega
    exact kx DG LE RMf RO RW vv ww PV S H locs ls hlr h_o h_te h_tp h_tn h_hd h_hv9 h_cu h_le h_ta h_dg h_lt9 h_rm h_ro9 h_ze h_oq h_fa h_ve h_ot h_ro h_pv9 h_sq h_rs hfr hI (lv_sub hl [0, 1] rfl)
  | succ k ih =>
    intro i DG LE RMf RO RW vv ww PV S H locs ls hi hlr h_o h_te h_tp h_tn h_hd h_hv9 h_cu h_le h_ta h_dg h_lt9 h_rm h_ro9 h_ze h_oq h_fa h_ve h_ot h_ro h_pv9 h_sq h_rs hfr hI hl kx
    refine lv_iload_n hx hb d_M_run_54 rfl (lv_at hl 0 rfl) ?_
    refine lv_aload_n hx hb d_M_run_55 rfl (lv_at hl 1 rfl) ?_
    refine mp_get (C := R_M) (T := F_M) (N := 31) (v := .int (nI nl)) hx hb hg i_M hown hK.va hI h_o rfl 0 (by decide) (hg _ q_804) (fun _ h9 => h9) rfl d_M_run_56 ?_
    refine lv_icmp_ge (tgt := 78) hx hb d_M_run_59 (by decide) (fun h9 => absurd h9 (by rw [nI_leI (by omega) (by omega)]; omega)) (fun _ => ?_)
    refine lv_aload_n hx hb d_M_run_62 rfl (lv_at hl 1 rfl) ?_
    refine lv_iload_n hx hb d_M_run_63 rfl (lv_at hl 0 rfl) ?_
    refine mp_callv hI (va_runV (As := [.int (nI i)]) (rest := []) ⟨hx, hb, hml, hown, hg⟩ (c_M_findLeast l D g S _ o le ta ve ot ro pv9 dg lt9 s9 i (.int (nI nl)) mv1 mv2 (.int (nI 0)) mv4 (.int (nI n)) (.ref te) (.ref tp) (.ref tn) (.ref hd) (.ref hv9) (.ref cu) (.int (nI 0)) (.int (nI 1)) (.ref rm) (.ref ro9) (.int z0) (.ref ze) (.ref oq) (.ref fa) (.ref sq) (.ref rs) LF TB RW vv ww LE PV DG h_o h_le h_ta h_ve h_ot h_ro h_pv9 h_dg h_lt9 hs (by omega) hL0 hLb) ⟨(callB_of 1 hg (wd_goodG q_1014) rfl rfl rfl (hg _ q_5) (hg _ q_1011) (by decide +kernel) ⟨Nat.le_trans (Nat.le_of_ble_eq_true rfl) hRf, Nat.le_trans (Nat.le_of_ble_eq_true rfl) hRl⟩), hg _ q_1013, hg _ qs_37⟩ (mp_preV (C := R_M) (T := F_M) hI hK h_o rfl [.int (nI i)]) rfl rfl hl.1 rfl (lv_room (Nat.le_of_ble_eq_true rfl)) d_M_run_64 ⟨by omega, by omega⟩) (fun S1 H2 locs p_3 hI => ?_)
    obtain ⟨D9, RW1, vv1, ww1, LE1, PV1, hdg, q_ve, q_ot, q_ro, q_pv9, q_dg, q_lt9, hle, hlo, fq⟩ := p_3
    have h_o : S1 o = some (2000, .inr (10, [.int (nI nl), mv1, mv2, .int (nI 0), mv4, .int (nI n), .ref te, .ref tp, .ref tn, .ref hd, .ref hv9, .ref cu, .int (nI 0), .int (nI 1), .int (nI s9), .ref le, .ref ta, .ref dg, .ref lt9, .ref rm, .ref ro9, .int z0, .ref ze, .ref oq, .ref fa, .ref ve, .ref ot, .ref ro, .ref pv9, .ref sq, .ref rs])) := fq o _ _ h_o (by omega) (by omega) (by omega) (by omega) (by omega) (by omega)
    have h_te : S1 te = some (2002, .inl ((g 0), 12, .inl tf)) := fq te _ _ h_te (by omega) (by omega) (by omega) (by omega) (by omega) (by omega)
    have h_tp : S1 tp = some (2003, .inl ((g 0), 12000, .inl tpf)) := fq tp _ _ h_tp (by omega) (by omega) (by omega) (by omega) (by omega) (by omega)
    have h_tn : S1 tn = some (2004, .inl ((g 0), 12000, .inl tnf)) := fq tn _ _ h_tn (by omega) (by omega) (by omega) (by omega) (by omega) (by omega)
    have h_hd : S1 hd = some (2005, .inl ((g 0), 12, .inl hf)) := fq hd _ _ h_hd (by omega) (by omega) (by omega) (by omega) (by omega) (by omega)
    have h_hv9 : S1 hv9 = some (2006, .inl ((g 0), 12, .inl hif)) := fq hv9 _ _ h_hv9 (by omega) (by omega) (by omega) (by omega) (by omega) (by omega)
    have h_cu : S1 cu = some (2007, .inl ((g 0), 21952, .inl (fun j => nI (CU j).val))) := fq cu _ _ h_cu (by omega) (by omega) (by omega) (by omega) (by omega) (by omega)
    have h_le : S1 le = some (2008, .inl ((g 0), 17, .inl (fun j => nI (LF j)))) := fq le _ _ h_le (by omega) (by omega) (by omega) (by omega) (by omega) (by omega)
    have h_ta : S1 ta = some (2009, .inl ((g 0), 768, .inl (fun j => nI (TB j).val))) := fq ta _ _ h_ta (by omega) (by omega) (by omega) (by omega) (by omega) (by omega)
    have h_rm : S1 rm = some (2012, .inl ((g 0), 3, .inl (fun j => nI (RMf j)))) := fq rm _ _ h_rm (by omega) (by omega) (by omega) (by omega) (by omega) (by omega)
    have h_ro9 : S1 ro9 = some (2013, .inl ((g 0), 51, .inl (fun j => nI (RO j)))) := fq ro9 _ _ h_ro9 (by omega) (by omega) (by omega) (by omega) (by omega) (by omega)
    have h_ze : S1 ze = some (2014, .inl ((g 0), 51, .inl (fun j => nI (ZM j).val))) := fq ze _ _ h_ze (by omega) (by omega) (by omega) (by omega) (by omega) (by omega)
    have h_oq : S1 oq = some (2015, .inl ((g 0), 17, .inl (fun j => nI (OF j)))) := fq oq _ _ h_oq (by omega) (by omega) (by omega) (by omega) (by omega) (by omega)
    have h_fa : S1 fa = some (2016, .inl ((g 5), 3, .inl FV)) := fq fa _ _ h_fa (by omega) (by omega) (by omega) (by omega) (by omega) (by omega)
    have h_sq : S1 sq = some (2021, .inl ((g 0), 256, .inl (fun j => nI (SQ j).val))) := fq sq _ _ h_sq (by omega) (by omega) (by omega) (by omega) (by omega) (by omega)
    have h_rs : S1 rs = some (2022, .inl ((g 0), 256, .inl (fun j => nI (RS j).val))) := fq rs _ _ h_rs (by omega) (by omega) (by omega) (by omega) (by omega) (by omega)
    have hfr : ∀ b t e9, B b = some (t, e9) → (t ≠ 2000) → (t ≠ 2007) → (t ≠ 2008) → (t ≠ 2009) → (t ≠ 2010) → (t ≠ 2011) → (t ≠ 2012) → (t ≠ 2013) → (t ≠ 2014) → (t ≠ 2015) → (t ≠ 2016) → (t ≠ 2017) → (t ≠ 2018) → (t ≠ 2019) → (t ≠ 2020) → (t ≠ 2021) → (t ≠ 2022) → S1 b = some (t, e9) := fun b t e9 h9 k0 k1 k2 k3 k4 k5 k6 k7 k8 k9 k10 k11 k12 k13 k14 k15 k16 => by have h8 := hfr b t e9 h9 k0 k1 k2 k3 k4 k5 k6 k7 k8 k9 k10 k11 k12 k13 k14 k15 k16; exact fq b _ _ h8 (by omega) (by omega) (by omega) (by omega) (by omega) (by omega)
    have h_ve := q_ve
    have h_ot := q_ot
    have h_ro := q_ro
    have h_pv9 := q_pv9
    have h_dg := q_dg
    have h_lt9 := q_lt9
    have hD9 := hdg.1
    refine lv_aload_n hx hb d_M_run_67 rfl (lv_at hl 1 rfl) ?_
    refine lv_iload_n hx hb d_M_run_68 rfl (lv_at hl 0 rfl) ?_
    refine mp_callv hI (va_runV (As := [.int (nI i)]) (rest := []) ⟨hx, hb, hml, hown, hg⟩ (c_M_findRoots l D g S1 _ o dg lt9 rm ro9 i D9 (.int (nI nl)) mv1 mv2 (.int (nI 0)) mv4 (.int (nI n)) (.ref te) (.ref tp) (.ref tn) (.ref hd) (.ref hv9) (.ref cu) (.int (nI 0)) (.int (nI 1)) (.int (nI s9)) (.ref le) (.ref ta) (.int z0) (.ref ze) (.ref oq) (.ref fa) (.ref ve) (.ref ot) (.ref ro) (.ref pv9) (.ref sq) (.ref rs) (fun j => nI ((va_up DG i D9) j)) (fun j => nI (LE1 j).val) (fun k => rwN s9 (vqM TB i s9) D9 (16 + k)) RMf RO h_o h_dg h_lt9 h_rm h_ro9 (by omega) (by omega) (by show nI (va_up DG i D9 i) = _; rw [mp_us]) (fun k hk => by show nI (LE1 (17 * i + k)).val = _; rw [hle k hk]) (rw_top hs _)) ⟨(callB_of 1 hg (wd_goodG q_1029) rfl rfl rfl (hg _ q_5) (hg _ q_1026) (by decide +kernel) ⟨Nat.le_trans (Nat.le_of_ble_eq_true rfl) hRf, Nat.le_trans (Nat.le_of_ble_eq_true rfl) hRl⟩), hg _ q_1028, hg _ qs_40⟩ (mp_preV (C := R_M) (T := F_M) hI hK h_o rfl [.int (nI i)]) rfl rfl hl.1 rfl (lv_room (Nat.le_of_ble_eq_true rfl)) d_M_run_69 ⟨by omega, by omega⟩) (fun S5 H6 locs p_7 hI => ?_)
    obtain ⟨n9, RO1, q_rm, q_ro9, hn9, hrt, hro, fq⟩ := p_7
    have h_o : S5 o = some (2000, .inr (10, [.int (nI nl), mv1, mv2, .int (nI 0), mv4, .int (nI n), .ref te, .ref tp, .ref tn, .ref hd, .ref hv9, .ref cu, .int (nI 0), .int (nI 1), .int (nI s9), .ref le, .ref ta, .ref dg, .ref lt9, .ref rm, .ref ro9, .int z0, .ref ze, .ref oq, .ref fa, .ref ve, .ref ot, .ref ro, .ref pv9, .ref sq, .ref rs])) := fq o _ _ h_o (by omega) (by omega)
    have h_te : S5 te = some (2002, .inl ((g 0), 12, .inl tf)) := fq te _ _ h_te (by omega) (by omega)
    have h_tp : S5 tp = some (2003, .inl ((g 0), 12000, .inl tpf)) := fq tp _ _ h_tp (by omega) (by omega)
    have h_tn : S5 tn = some (2004, .inl ((g 0), 12000, .inl tnf)) := fq tn _ _ h_tn (by omega) (by omega)
    have h_hd : S5 hd = some (2005, .inl ((g 0), 12, .inl hf)) := fq hd _ _ h_hd (by omega) (by omega)
    have h_hv9 : S5 hv9 = some (2006, .inl ((g 0), 12, .inl hif)) := fq hv9 _ _ h_hv9 (by omega) (by omega)
    have h_cu : S5 cu = some (2007, .inl ((g 0), 21952, .inl (fun j => nI (CU j).val))) := fq cu _ _ h_cu (by omega) (by omega)
    have h_le : S5 le = some (2008, .inl ((g 0), 17, .inl (fun j => nI (LF j)))) := fq le _ _ h_le (by omega) (by omega)
    have h_ta : S5 ta = some (2009, .inl ((g 0), 768, .inl (fun j => nI (TB j).val))) := fq ta _ _ h_ta (by omega) (by omega)
    have h_dg : S5 dg = some (2010, .inl ((g 0), 3, .inl (fun j => nI ((va_up DG i D9) j)))) := fq dg _ _ h_dg (by omega) (by omega)
    have h_lt9 : S5 lt9 = some (2011, .inl ((g 0), 51, .inl (fun j => nI (LE1 j).val))) := fq lt9 _ _ h_lt9 (by omega) (by omega)
    have h_ze : S5 ze = some (2014, .inl ((g 0), 51, .inl (fun j => nI (ZM j).val))) := fq ze _ _ h_ze (by omega) (by omega)
    have h_oq : S5 oq = some (2015, .inl ((g 0), 17, .inl (fun j => nI (OF j)))) := fq oq _ _ h_oq (by omega) (by omega)
    have h_fa : S5 fa = some (2016, .inl ((g 5), 3, .inl FV)) := fq fa _ _ h_fa (by omega) (by omega)
    have h_ve : S5 ve = some (2017, .inl ((g 0), 16, .inl (fun j => nI (vv1 j).val))) := fq ve _ _ h_ve (by omega) (by omega)
    have h_ot : S5 ot = some (2018, .inl ((g 0), 16, .inl (fun j => nI (ww1 j).val))) := fq ot _ _ h_ot (by omega) (by omega)
    have h_ro : S5 ro = some (2019, .inl ((g 0), 1700, .inl (fun j => nI (RW1 j).val))) := fq ro _ _ h_ro (by omega) (by omega)
    have h_pv9 : S5 pv9 = some (2020, .inl ((g 0), 64, .inl PV1)) := fq pv9 _ _ h_pv9 (by omega) (by omega)
    have h_sq : S5 sq = some (2021, .inl ((g 0), 256, .inl (fun j => nI (SQ j).val))) := fq sq _ _ h_sq (by omega) (by omega)
    have h_rs : S5 rs = some (2022, .inl ((g 0), 256, .inl (fun j => nI (RS j).val))) := fq rs _ _ h_rs (by omega) (by omega)
    have hfr : ∀ b t e9, B b = some (t, e9) → (t ≠ 2000) → (t ≠ 2007) → (t ≠ 2008) → (t ≠ 2009) → (t ≠ 2010) → (t ≠ 2011) → (t ≠ 2012) → (t ≠ 2013) → (t ≠ 2014) → (t ≠ 2015) → (t ≠ 2016) → (t ≠ 2017) → (t ≠ 2018) → (t ≠ 2019) → (t ≠ 2020) → (t ≠ 2021) → (t ≠ 2022) → S5 b = some (t, e9) := fun b t e9 h9 k0 k1 k2 k3 k4 k5 k6 k7 k8 k9 k10 k11 k12 k13 k14 k15 k16 => by have h8 := hfr b t e9 h9 k0 k1 k2 k3 k4 k5 k6 k7 k8 k9 k10 k11 k12 k13 k14 k15 k16; exact fq b _ _ h8 (by omega) (by omega)
    have h_rm := q_rm
    have h_ro9 := q_ro9
    refine lv_iinc (v := nI (i + 1)) (lv' := [(1, .int (nI (i + 1))), (0, .ref o)]) hx hb d_M_run_72 hl (k := 0) rfl (nI_1 _) (by decide) rfl (fun ls hl => ?_)
    refine lv_goto (tgt := 54) hx hb d_M_run_75 (by decide) ?_
    exact ih (i + 1) (va_up DG i D9) LE1 (va_up RMf i n9) RO1 RW1 vv1 ww1 PV1 S5 H6 locs ls (by omega) (lrI_up hlr hs hdg hle hlo hn9 hrt hro) h_o h_te h_tp h_tn h_hd h_hv9 h_cu h_le h_ta h_dg h_lt9 h_rm h_ro9 h_ze h_oq h_fa h_ve h_ot h_ro h_pv9 h_sq h_rs hfr hI (lv_sub hl [0, 1] rfl) kx
set_option maxHeartbeats 4000000 in
set_option maxRecDepth 100000 in
/-- the reference: run -/
theorem c_M_run (l : Launch) (D : mp_G) (g : Nat → ClassId) (S : mp_M) (sz : Nat) (o te tp tn hd hv9 cu le ta dg lt9 rm ro9 ze oq fa ve ot ro pv9 sq rs n nl : Nat) (mv1 mv2 mv4 : Value) (tf tpf tnf hf hif : Nat → Int32) (h : Nat → m3) (z : Nat → Nat) (mo : Nat → Nat → m3) (co : Nat → Nat → fF) (z2 : Nat → Nat) (mo2 : Nat → Nat → m3) (co2 : Nat → Nat → fF) (ld : Nat → fF) (th0 kn0 as0 s0 z0 : Int32) (FV : Nat → Int32) (CU : Nat → fF) (LF : Nat → Nat) (TB : Nat → fF) (DG : Nat → Nat) (LE : Nat → fF) (RMf RO : Nat → Nat) (ZM : Nat → fF) (OF : Nat → Nat) (vv ww RW : Nat → fF) (PV : Nat → Int32) (SQ RS : Nat → fF) (h_o : S o = some (2000, .inr (10, [.int (nI nl), mv1, mv2, .int th0, mv4, .int (nI n), .ref te, .ref tp, .ref tn, .ref hd, .ref hv9, .ref cu, .int kn0, .int as0, .int s0, .ref le, .ref ta, .ref dg, .ref lt9, .ref rm, .ref ro9, .int z0, .ref ze, .ref oq, .ref fa, .ref ve, .ref ot, .ref ro, .ref pv9, .ref sq, .ref rs]))) (h_te : S te = some (2002, .inl ((g 0), 12, .inl tf))) (h_tp : S tp = some (2003, .inl ((g 0), 12000, .inl tpf))) (h_tn : S tn = some (2004, .inl ((g 0), 12000, .inl tnf))) (h_hd : S hd = some (2005, .inl ((g 0), 12, .inl hf))) (h_hv9 : S hv9 = some (2006, .inl ((g 0), 12, .inl hif))) (h_cu : S cu = some (2007, .inl ((g 0), 21952, .inl (fun j => nI (CU j).val)))) (h_le : S le = some (2008, .inl ((g 0), 17, .inl (fun j => nI (LF j))))) (h_ta : S ta = some (2009, .inl ((g 0), 768, .inl (fun j => nI (TB j).val)))) (h_dg : S dg = some (2010, .inl ((g 0), 3, .inl (fun j => nI (DG j))))) (h_lt9 : S lt9 = some (2011, .inl ((g 0), 51, .inl (fun j => nI (LE j).val)))) (h_rm : S rm = some (2012, .inl ((g 0), 3, .inl (fun j => nI (RMf j))))) (h_ro9 : S ro9 = some (2013, .inl ((g 0), 51, .inl (fun j => nI (RO j))))) (h_ze : S ze = some (2014, .inl ((g 0), 51, .inl (fun j => nI (ZM j).val)))) (h_oq : S oq = some (2015, .inl ((g 0), 17, .inl (fun j => nI (OF j))))) (h_fa : S fa = some (2016, .inl ((g 5), 3, .inl FV))) (h_ve : S ve = some (2017, .inl ((g 0), 16, .inl (fun j => nI (vv j).val)))) (h_ot : S ot = some (2018, .inl ((g 0), 16, .inl (fun j => nI (ww j).val)))) (h_ro : S ro = some (2019, .inl ((g 0), 1700, .inl (fun j => nI (RW j).val)))) (h_pv9 : S pv9 = some (2020, .inl ((g 0), 64, .inl PV))) (h_sq : S sq = some (2021, .inl ((g 0), 256, .inl (fun j => nI (SQ j).val)))) (h_rs : S rs = some (2022, .inl ((g 0), 256, .inl (fun j => nI (RS j).val)))) (hM : lsM n h z mo co z2 mo2 co2 ld tf tpf tnf hf hif) (hnl : nl ≤ 3) (hn1 : 1 ≤ nl) (hIn : ∀ i, i < n → ∀ k, k < z i → InL nl (mo i k)) (tCU : trn 21952 CU) : Met l y_M_run w_M_run ({ frames := 6, cells := 0, slots := 0, locals := 142 }) (va_Pc [.ref o] (mp_B0 D classes (tys g) S sz)) (va_Qi (fun (r : Int32) (S1 : mp_M) => ∃ (kn1 s1 z1 : Int32) (FV1 : Nat → Int32) (CU1 : Nat → fF) (LF1 : Nat → Nat) (TB1 : Nat → fF) (DG1 : Nat → Nat) (LE1 : Nat → fF) (RMf1 RO1 : Nat → Nat) (ZM1 : Nat → fF) (OF1 : Nat → Nat) (vv1 ww1 RW1 : Nat → fF) (PV1 : Nat → Int32) (SQ1 RS1 : Nat → fF), roM n h z mo co nl r kn1 s1 z1 LF1 DG1 LE1 ZM1 OF1 ∧ frM nl n (fun i => (h i).1) (fun i => (h i).2.1) (fun i => (h i).2.2) 3 FV1 ∧ trn 21952 CU1 ∧ S1 o = some (2000, .inr (10, [.int (nI nl), mv1, mv2, .int (nI 0), mv4, .int (nI n), .ref te, .ref tp, .ref tn, .ref hd, .ref hv9, .ref cu, .int kn1, .int (nI 1), .int s1, .ref le, .ref ta, .ref dg, .ref lt9, .ref rm, .ref ro9, .int z1, .ref ze, .ref oq, .ref fa, .ref ve, .ref ot, .ref ro, .ref pv9, .ref sq, .ref rs])) ∧ S1 cu = some (2007, .inl ((g 0), 21952, .inl (fun j => nI (CU1 j).val))) ∧ S1 le = some (2008, .inl ((g 0), 17, .inl (fun j => nI (LF1 j)))) ∧ S1 ta = some (2009, .inl ((g 0), 768, .inl (fun j => nI (TB1 j).val))) ∧ S1 dg = some (2010, .inl ((g 0), 3, .inl (fun j => nI (DG1 j)))) ∧ S1 lt9 = some (2011, .inl ((g 0), 51, .inl (fun j => nI (LE1 j).val))) ∧ S1 rm = some (2012, .inl ((g 0), 3, .inl (fun j => nI (RMf1 j)))) ∧ S1 ro9 = some (2013, .inl ((g 0), 51, .inl (fun j => nI (RO1 j)))) ∧ S1 ze = some (2014, .inl ((g 0), 51, .inl (fun j => nI (ZM1 j).val))) ∧ S1 oq = some (2015, .inl ((g 0), 17, .inl (fun j => nI (OF1 j)))) ∧ S1 fa = some (2016, .inl ((g 5), 3, .inl FV1)) ∧ S1 ve = some (2017, .inl ((g 0), 16, .inl (fun j => nI (vv1 j).val))) ∧ S1 ot = some (2018, .inl ((g 0), 16, .inl (fun j => nI (ww1 j).val))) ∧ S1 ro = some (2019, .inl ((g 0), 1700, .inl (fun j => nI (RW1 j).val))) ∧ S1 pv9 = some (2020, .inl ((g 0), 64, .inl PV1)) ∧ S1 sq = some (2021, .inl ((g 0), 256, .inl (fun j => nI (SQ1 j).val))) ∧ S1 rs = some (2022, .inl ((g 0), 256, .inl (fun j => nI (RS1 j).val))) ∧ (∀ b t e9, S b = some (t, e9) → (t ≠ 2000) → (t ≠ 2007) → (t ≠ 2008) → (t ≠ 2009) → (t ≠ 2010) → (t ≠ 2011) → (t ≠ 2012) → (t ≠ 2013) → (t ≠ 2014) → (t ≠ 2015) → (t ≠ 2016) → (t ≠ 2017) → (t ≠ 2018) → (t ≠ 2019) → (t ≠ 2020) → (t ≠ 2021) → (t ≠ 2022) → S1 b = some (t, e9))) (mp_B1 D classes S sz) (mp_A S sz)) 0 0 (mp_A S sz) := by
  refine Met.ofW (cc := b_M_run) (maxL := 2) (ret := (some .int)) (by decide) rfl ?_
  intro p e s m args below meth c s₁ B hml hv
  obtain ⟨rfl, hsz, hH, hK⟩ := hv
  have hx := B.exec
  have hb := B.bytes
  have hr := B.returns
  have hts := atoms_spec (ws := w_M_run) B.pre
  have hg : ∀ w ∈ gw, w.before _ s = true := fun w h => hts w (List.mem_cons_of_mem _ h)
  have hown : s.vm.findClass R_M = some m.cls := findClass_of_methodNamed B.named
  have hlocks := B.notSynchronized
  subst hsz
  have hI := mp_I.start hH
  have hl := lv_entry ([.ref o]) (n := 2) (Nat.le_of_ble_eq_true rfl)
  rw [lg_entry_eq]
  generalize (lg_sl ([.ref o]) ++ List.replicate (2 - (lg_sl ([.ref o])).length) Slot.unset).toArray = ls at hl ⊢
  have hl : lv_has ls 2 [(0, .ref o)] := hl
  have hfr : ∀ b t e9, S b = some (t, e9) → (t ≠ 2000) → (t ≠ 2007) → (t ≠ 2008) → (t ≠ 2009) → (t ≠ 2010) → (t ≠ 2011) → (t ≠ 2012) → (t ≠ 2013) → (t ≠ 2014) → (t ≠ 2015) → (t ≠ 2016) → (t ≠ 2017) → (t ≠ 2018) → (t ≠ 2019) → (t ≠ 2020) → (t ≠ 2021) → (t ≠ 2022) → S b = some (t, e9) := fun _ _ _ h9 _ _ _ _ _ _ _ _ _ _ _ _ _ _ _ _ _ => h9
  have hn12 := hM.2.1
  refine lv_aload_n hx hb d_M_run_0 rfl (lv_at hl 0 rfl) ?_
  refine lv_iconst (v := nI 0) hx hb d_M_run_1 (by decide) ?_
  refine mp_put (C := R_M) (T := F_M) (N := 31) (v := .int (nI 0)) (ty := .int) hx hb hg i_M t_M t_M_ok n_M hown hK.va hI h_o rfl 3 (by decide) (hg _ q_807) (fun _ h9 => h9) rfl (by decide +kernel) (rfl) rfl (Nat.le_of_ble_eq_true rfl) d_M_run_2 (fun S1 H2 locs e_3 hI => ?_)
  have h_o_o := h_o
  have e_3 : S1 = va_up S o (some (2000, .inr (10, [.int (nI nl), mv1, mv2, .int (nI 0), mv4, .int (nI n), .ref te, .ref tp, .ref tn, .ref hd, .ref hv9, .ref cu, .int kn0, .int as0, .int s0, .ref le, .ref ta, .ref dg, .ref lt9, .ref rm, .ref ro9, .int z0, .ref ze, .ref oq, .ref fa, .ref ve, .ref ot, .ref ro, .ref pv9, .ref sq, .ref rs]))) := e_3
  have h_te : S1 te = some (2002, .inl ((g 0), 12, .inl tf)) := by rw [e_3]; exact mp_keep h_te h_o (by decide)
  have h_tp : S1 tp = some (2003, .inl ((g 0), 12000, .inl tpf)) := by rw [e_3]; exact mp_keep h_tp h_o (by decide)
  have h_tn : S1 tn = some (2004, .inl ((g 0), 12000, .inl tnf)) := by rw [e_3]; exact mp_keep h_tn h_o (by decide)
  have h_hd : S1 hd = some (2005, .inl ((g 0), 12, .inl hf)) := by rw [e_3]; exact mp_keep h_hd h_o (by decide)
  have h_hv9 : S1 hv9 = some (2006, .inl ((g 0), 12, .inl hif)) := by rw [e_3]; exact mp_keep h_hv9 h_o (by decide)
  have h_cu : S1 cu = some (2007, .inl ((g 0), 21952, .inl (fun j => nI (CU j).val))) := by rw [e_3]; exact mp_keep h_cu h_o (by decide)
  have h_le : S1 le = some (2008, .inl ((g 0), 17, .inl (fun j => nI (LF j)))) := by rw [e_3]; exact mp_keep h_le h_o (by decide)
  have h_ta : S1 ta = some (2009, .inl ((g 0), 768, .inl (fun j => nI (TB j).val))) := by rw [e_3]; exact mp_keep h_ta h_o (by decide)
  have h_dg : S1 dg = some (2010, .inl ((g 0), 3, .inl (fun j => nI (DG j)))) := by rw [e_3]; exact mp_keep h_dg h_o (by decide)
  have h_lt9 : S1 lt9 = some (2011, .inl ((g 0), 51, .inl (fun j => nI (LE j).val))) := by rw [e_3]; exact mp_keep h_lt9 h_o (by decide)
  have h_rm : S1 rm = some (2012, .inl ((g 0), 3, .inl (fun j => nI (RMf j)))) := by rw [e_3]; exact mp_keep h_rm h_o (by decide)
  have h_ro9 : S1 ro9 = some (2013, .inl ((g 0), 51, .inl (fun j => nI (RO j)))) := by rw [e_3]; exact mp_keep h_ro9 h_o (by decide)
  have h_ze : S1 ze = some (2014, .inl ((g 0), 51, .inl (fun j => nI (ZM j).val))) := by rw [e_3]; exact mp_keep h_ze h_o (by decide)
  have h_oq : S1 oq = some (2015, .inl ((g 0), 17, .inl (fun j => nI (OF j)))) := by rw [e_3]; exact mp_keep h_oq h_o (by decide)
  have h_fa : S1 fa = some (2016, .inl ((g 5), 3, .inl FV)) := by rw [e_3]; exact mp_keep h_fa h_o (by decide)
  have h_ve : S1 ve = some (2017, .inl ((g 0), 16, .inl (fun j => nI (vv j).val))) := by rw [e_3]; exact mp_keep h_ve h_o (by decide)
  have h_ot : S1 ot = some (2018, .inl ((g 0), 16, .inl (fun j => nI (ww j).val))) := by rw [e_3]; exact mp_keep h_ot h_o (by decide)
  have h_ro : S1 ro = some (2019, .inl ((g 0), 1700, .inl (fun j => nI (RW j).val))) := by rw [e_3]; exact mp_keep h_ro h_o (by decide)
  have h_pv9 : S1 pv9 = some (2020, .inl ((g 0), 64, .inl PV)) := by rw [e_3]; exact mp_keep h_pv9 h_o (by decide)
  have h_sq : S1 sq = some (2021, .inl ((g 0), 256, .inl (fun j => nI (SQ j).val))) := by rw [e_3]; exact mp_keep h_sq h_o (by decide)
  have h_rs : S1 rs = some (2022, .inl ((g 0), 256, .inl (fun j => nI (RS j).val))) := by rw [e_3]; exact mp_keep h_rs h_o (by decide)
  have h_o : S1 o = some (2000, .inr (10, [.int (nI nl), mv1, mv2, .int (nI 0), mv4, .int (nI n), .ref te, .ref tp, .ref tn, .ref hd, .ref hv9, .ref cu, .int kn0, .int as0, .int s0, .ref le, .ref ta, .ref dg, .ref lt9, .ref rm, .ref ro9, .int z0, .ref ze, .ref oq, .ref fa, .ref ve, .ref ot, .ref ro, .ref pv9, .ref sq, .ref rs])) := by rw [e_3]; exact mp_us _ _ _
  have hfr : ∀ b t e9, S b = some (t, e9) → (t ≠ 2000) → (t ≠ 2007) → (t ≠ 2008) → (t ≠ 2009) → (t ≠ 2010) → (t ≠ 2011) → (t ≠ 2012) → (t ≠ 2013) → (t ≠ 2014) → (t ≠ 2015) → (t ≠ 2016) → (t ≠ 2017) → (t ≠ 2018) → (t ≠ 2019) → (t ≠ 2020) → (t ≠ 2021) → (t ≠ 2022) → S1 b = some (t, e9) := fun b t e9 h9 k0 k1 k2 k3 k4 k5 k6 k7 k8 k9 k10 k11 k12 k13 k14 k15 k16 => by rw [e_3]; exact mp_keep (hfr b t e9 h9 k0 k1 k2 k3 k4 k5 k6 k7 k8 k9 k10 k11 k12 k13 k14 k15 k16) h_o_o (by omega)
  refine lv_aload_n hx hb d_M_run_5 rfl (lv_at hl 0 rfl) ?_
  refine lv_iconst (v := nI 0) hx hb d_M_run_6 (by decide) ?_
  refine mp_put (C := R_M) (T := F_M) (N := 31) (v := .int (nI 0)) (ty := .boolean) hx hb hg i_M t_M t_M_ok n_M hown hK.va hI h_o rfl 12 (by decide) (hg _ q_816) (fun _ h9 => h9) rfl (by decide +kernel) (rfl) rfl (Nat.le_of_ble_eq_true rfl) d_M_run_7 (fun S4 H5 locs e_6 hI => ?_)
  have h_o_o := h_o
  have e_6 : S4 = va_up S1 o (some (2000, .inr (10, [.int (nI nl), mv1, mv2, .int (nI 0), mv4, .int (nI n), .ref te, .ref tp, .ref tn, .ref hd, .ref hv9, .ref cu, .int (nI 0), .int as0, .int s0, .ref le, .ref ta, .ref dg, .ref lt9, .ref rm, .ref ro9, .int z0, .ref ze, .ref oq, .ref fa, .ref ve, .ref ot, .ref ro, .ref pv9, .ref sq, .ref rs]))) := e_6
  have h_te : S4 te = some (2002, .inl ((g 0), 12, .inl tf)) := by rw [e_6]; exact mp_keep h_te h_o (by decide)
  have h_tp : S4 tp = some (2003, .inl ((g 0), 12000, .inl tpf)) := by rw [e_6]; exact mp_keep h_tp h_o (by decide)
  have h_tn : S4 tn = some (2004, .inl ((g 0), 12000, .inl tnf)) := by rw [e_6]; exact mp_keep h_tn h_o (by decide)
  have h_hd : S4 hd = some (2005, .inl ((g 0), 12, .inl hf)) := by rw [e_6]; exact mp_keep h_hd h_o (by decide)
  have h_hv9 : S4 hv9 = some (2006, .inl ((g 0), 12, .inl hif)) := by rw [e_6]; exact mp_keep h_hv9 h_o (by decide)
  have h_cu : S4 cu = some (2007, .inl ((g 0), 21952, .inl (fun j => nI (CU j).val))) := by rw [e_6]; exact mp_keep h_cu h_o (by decide)
  have h_le : S4 le = some (2008, .inl ((g 0), 17, .inl (fun j => nI (LF j)))) := by rw [e_6]; exact mp_keep h_le h_o (by decide)
  have h_ta : S4 ta = some (2009, .inl ((g 0), 768, .inl (fun j => nI (TB j).val))) := by rw [e_6]; exact mp_keep h_ta h_o (by decide)
  have h_dg : S4 dg = some (2010, .inl ((g 0), 3, .inl (fun j => nI (DG j)))) := by rw [e_6]; exact mp_keep h_dg h_o (by decide)
  have h_lt9 : S4 lt9 = some (2011, .inl ((g 0), 51, .inl (fun j => nI (LE j).val))) := by rw [e_6]; exact mp_keep h_lt9 h_o (by decide)
  have h_rm : S4 rm = some (2012, .inl ((g 0), 3, .inl (fun j => nI (RMf j)))) := by rw [e_6]; exact mp_keep h_rm h_o (by decide)
  have h_ro9 : S4 ro9 = some (2013, .inl ((g 0), 51, .inl (fun j => nI (RO j)))) := by rw [e_6]; exact mp_keep h_ro9 h_o (by decide)
  have h_ze : S4 ze = some (2014, .inl ((g 0), 51, .inl (fun j => nI (ZM j).val))) := by rw [e_6]; exact mp_keep h_ze h_o (by decide)
  have h_oq : S4 oq = some (2015, .inl ((g 0), 17, .inl (fun j => nI (OF j)))) := by rw [e_6]; exact mp_keep h_oq h_o (by decide)
  have h_fa : S4 fa = some (2016, .inl ((g 5), 3, .inl FV)) := by rw [e_6]; exact mp_keep h_fa h_o (by decide)
  have h_ve : S4 ve = some (2017, .inl ((g 0), 16, .inl (fun j => nI (vv j).val))) := by rw [e_6]; exact mp_keep h_ve h_o (by decide)
  have h_ot : S4 ot = some (2018, .inl ((g 0), 16, .inl (fun j => nI (ww j).val))) := by rw [e_6]; exact mp_keep h_ot h_o (by decide)
  have h_ro : S4 ro = some (2019, .inl ((g 0), 1700, .inl (fun j => nI (RW j).val))) := by rw [e_6]; exact mp_keep h_ro h_o (by decide)
  have h_pv9 : S4 pv9 = some (2020, .inl ((g 0), 64, .inl PV)) := by rw [e_6]; exact mp_keep h_pv9 h_o (by decide)
  have h_sq : S4 sq = some (2021, .inl ((g 0), 256, .inl (fun j => nI (SQ j).val))) := by rw [e_6]; exact mp_keep h_sq h_o (by decide)
  have h_rs : S4 rs = some (2022, .inl ((g 0), 256, .inl (fun j => nI (RS j).val))) := by rw [e_6]; exact mp_keep h_rs h_o (by decide)
  have h_o : S4 o = some (2000, .inr (10, [.int (nI nl), mv1, mv2, .int (nI 0), mv4, .int (nI n), .ref te, .ref tp, .ref tn, .ref hd, .ref hv9, .ref cu, .int (nI 0), .int as0, .int s0, .ref le, .ref ta, .ref dg, .ref lt9, .ref rm, .ref ro9, .int z0, .ref ze, .ref oq, .ref fa, .ref ve, .ref ot, .ref ro, .ref pv9, .ref sq, .ref rs])) := by rw [e_6]; exact mp_us _ _ _
  have hfr : ∀ b t e9, S b = some (t, e9) → (t ≠ 2000) → (t ≠ 2007) → (t ≠ 2008) → (t ≠ 2009) → (t ≠ 2010) → (t ≠ 2011) → (t ≠ 2012) → (t ≠ 2013) → (t ≠ 2014) → (t ≠ 2015) → (t ≠ 2016) → (t ≠ 2017) → (t ≠ 2018) → (t ≠ 2019) → (t ≠ 2020) → (t ≠ 2021) → (t ≠ 2022) → S4 b = some (t, e9) := fun b t e9 h9 k0 k1 k2 k3 k4 k5 k6 k7 k8 k9 k10 k11 k12 k13 k14 k15 k16 => by rw [e_6]; exact mp_keep (hfr b t e9 h9 k0 k1 k2 k3 k4 k5 k6 k7 k8 k9 k10 k11 k12 k13 k14 k15 k16) h_o_o (by omega)
  refine lv_aload_n hx hb d_M_run_10 rfl (lv_at hl 0 rfl) ?_
  refine lv_iconst (v := nI 1) hx hb d_M_run_11 (by decide) ?_
  refine mp_put (C := R_M) (T := F_M) (N := 31) (v := .int (nI 1)) (ty := .boolean) hx hb hg i_M t_M t_M_ok n_M hown hK.va hI h_o rfl 13 (by decide) (hg _ q_817) (fun _ h9 => h9) rfl (by decide +kernel) (rfl) rfl (Nat.le_of_ble_eq_true rfl) d_M_run_12 (fun S7 H8 locs e_9 hI => ?_)
  have h_o_o := h_o
  have e_9 : S7 = va_up S4 o (some (2000, .inr (10, [.int (nI nl), mv1, mv2, .int (nI 0), mv4, .int (nI n), .ref te, .ref tp, .ref tn, .ref hd, .ref hv9, .ref cu, .int (nI 0), .int (nI 1), .int s0, .ref le, .ref ta, .ref dg, .ref lt9, .ref rm, .ref ro9, .int z0, .ref ze, .ref oq, .ref fa, .ref ve, .ref ot, .ref ro, .ref pv9, .ref sq, .ref rs]))) := e_9
  have h_te : S7 te = some (2002, .inl ((g 0), 12, .inl tf)) := by rw [e_9]; exact mp_keep h_te h_o (by decide)
  have h_tp : S7 tp = some (2003, .inl ((g 0), 12000, .inl tpf)) := by rw [e_9]; exact mp_keep h_tp h_o (by decide)
  have h_tn : S7 tn = some (2004, .inl ((g 0), 12000, .inl tnf)) := by rw [e_9]; exact mp_keep h_tn h_o (by decide)
  have h_hd : S7 hd = some (2005, .inl ((g 0), 12, .inl hf)) := by rw [e_9]; exact mp_keep h_hd h_o (by decide)
  have h_hv9 : S7 hv9 = some (2006, .inl ((g 0), 12, .inl hif)) := by rw [e_9]; exact mp_keep h_hv9 h_o (by decide)
  have h_cu : S7 cu = some (2007, .inl ((g 0), 21952, .inl (fun j => nI (CU j).val))) := by rw [e_9]; exact mp_keep h_cu h_o (by decide)
  have h_le : S7 le = some (2008, .inl ((g 0), 17, .inl (fun j => nI (LF j)))) := by rw [e_9]; exact mp_keep h_le h_o (by decide)
  have h_ta : S7 ta = some (2009, .inl ((g 0), 768, .inl (fun j => nI (TB j).val))) := by rw [e_9]; exact mp_keep h_ta h_o (by decide)
  have h_dg : S7 dg = some (2010, .inl ((g 0), 3, .inl (fun j => nI (DG j)))) := by rw [e_9]; exact mp_keep h_dg h_o (by decide)
  have h_lt9 : S7 lt9 = some (2011, .inl ((g 0), 51, .inl (fun j => nI (LE j).val))) := by rw [e_9]; exact mp_keep h_lt9 h_o (by decide)
  have h_rm : S7 rm = some (2012, .inl ((g 0), 3, .inl (fun j => nI (RMf j)))) := by rw [e_9]; exact mp_keep h_rm h_o (by decide)
  have h_ro9 : S7 ro9 = some (2013, .inl ((g 0), 51, .inl (fun j => nI (RO j)))) := by rw [e_9]; exact mp_keep h_ro9 h_o (by decide)
  have h_ze : S7 ze = some (2014, .inl ((g 0), 51, .inl (fun j => nI (ZM j).val))) := by rw [e_9]; exact mp_keep h_ze h_o (by decide)
  have h_oq : S7 oq = some (2015, .inl ((g 0), 17, .inl (fun j => nI (OF j)))) := by rw [e_9]; exact mp_keep h_oq h_o (by decide)
  have h_fa : S7 fa = some (2016, .inl ((g 5), 3, .inl FV)) := by rw [e_9]; exact mp_keep h_fa h_o (by decide)
  have h_ve : S7 ve = some (2017, .inl ((g 0), 16, .inl (fun j => nI (vv j).val))) := by rw [e_9]; exact mp_keep h_ve h_o (by decide)
  have h_ot : S7 ot = some (2018, .inl ((g 0), 16, .inl (fun j => nI (ww j).val))) := by rw [e_9]; exact mp_keep h_ot h_o (by decide)
  have h_ro : S7 ro = some (2019, .inl ((g 0), 1700, .inl (fun j => nI (RW j).val))) := by rw [e_9]; exact mp_keep h_ro h_o (by decide)
  have h_pv9 : S7 pv9 = some (2020, .inl ((g 0), 64, .inl PV)) := by rw [e_9]; exact mp_keep h_pv9 h_o (by decide)
  have h_sq : S7 sq = some (2021, .inl ((g 0), 256, .inl (fun j => nI (SQ j).val))) := by rw [e_9]; exact mp_keep h_sq h_o (by decide)
  have h_rs : S7 rs = some (2022, .inl ((g 0), 256, .inl (fun j => nI (RS j).val))) := by rw [e_9]; exact mp_keep h_rs h_o (by decide)
  have h_o : S7 o = some (2000, .inr (10, [.int (nI nl), mv1, mv2, .int (nI 0), mv4, .int (nI n), .ref te, .ref tp, .ref tn, .ref hd, .ref hv9, .ref cu, .int (nI 0), .int (nI 1), .int s0, .ref le, .ref ta, .ref dg, .ref lt9, .ref rm, .ref ro9, .int z0, .ref ze, .ref oq, .ref fa, .ref ve, .ref ot, .ref ro, .ref pv9, .ref sq, .ref rs])) := by rw [e_9]; exact mp_us _ _ _
  have hfr : ∀ b t e9, S b = some (t, e9) → (t ≠ 2000) → (t ≠ 2007) → (t ≠ 2008) → (t ≠ 2009) → (t ≠ 2010) → (t ≠ 2011) → (t ≠ 2012) → (t ≠ 2013) → (t ≠ 2014) → (t ≠ 2015) → (t ≠ 2016) → (t ≠ 2017) → (t ≠ 2018) → (t ≠ 2019) → (t ≠ 2020) → (t ≠ 2021) → (t ≠ 2022) → S7 b = some (t, e9) := fun b t e9 h9 k0 k1 k2 k3 k4 k5 k6 k7 k8 k9 k10 k11 k12 k13 k14 k15 k16 => by rw [e_9]; exact mp_keep (hfr b t e9 h9 k0 k1 k2 k3 k4 k5 k6 k7 k8 k9 k10 k11 k12 k13 k14 k15 k16) h_o_o (by omega)
  refine lv_aload_n hx hb d_M_run_15 rfl (lv_at hl 0 rfl) ?_
  refine mp_callv hI (va_runV (As := []) (rest := []) ⟨hx, hb, hml, hown, hg⟩ (c_M_look l D g S7 _ o hd fa n nl mv1 mv2 (.int (nI 0)) mv4 (.ref te) (.ref tp) (.ref tn) (.ref hv9) (.ref cu) (.int (nI 0)) (.int (nI 1)) (.int s0) (.ref le) (.ref ta) (.ref dg) (.ref lt9) (.ref rm) (.ref ro9) (.int z0) (.ref ze) (.ref oq) (.ref ve) (.ref ot) (.ref ro) (.ref pv9) (.ref sq) (.ref rs) hf (fun i => (h i).1) (fun i => (h i).2.1) (fun i => (h i).2.2) FV h_o h_hd h_fa (lsM_h hM) hn12 hnl) ⟨(callB_of 0 hg (wd_goodG q_955) rfl rfl rfl (hg _ q_5) (hg _ q_952) (by decide +kernel) ⟨Nat.le_of_ble_eq_true rfl, Nat.le_of_ble_eq_true rfl⟩), hg _ q_954, hg _ qs_26⟩ (mp_preV (C := R_M) (T := F_M) hI hK h_o rfl []) rfl rfl hl.1 rfl (lv_room (Nat.le_of_ble_eq_true rfl)) d_M_run_16 ⟨Nat.le_of_ble_eq_true rfl, Nat.le_of_ble_eq_true rfl⟩) (fun S10 H11 locs p_12 hI => ?_)
  obtain ⟨FV2, q_fa, hfm, fq⟩ := p_12
  have h_o : S10 o = some (2000, .inr (10, [.int (nI nl), mv1, mv2, .int (nI 0), mv4, .int (nI n), .ref te, .ref tp, .ref tn, .ref hd, .ref hv9, .ref cu, .int (nI 0), .int (nI 1), .int s0, .ref le, .ref ta, .ref dg, .ref lt9, .ref rm, .ref ro9, .int z0, .ref ze, .ref oq, .ref fa, .ref ve, .ref ot, .ref ro, .ref pv9, .ref sq, .ref rs])) := fq o _ _ h_o (by omega)
  have h_te : S10 te = some (2002, .inl ((g 0), 12, .inl tf)) := fq te _ _ h_te (by omega)
  have h_tp : S10 tp = some (2003, .inl ((g 0), 12000, .inl tpf)) := fq tp _ _ h_tp (by omega)
  have h_tn : S10 tn = some (2004, .inl ((g 0), 12000, .inl tnf)) := fq tn _ _ h_tn (by omega)
  have h_hd : S10 hd = some (2005, .inl ((g 0), 12, .inl hf)) := fq hd _ _ h_hd (by omega)
  have h_hv9 : S10 hv9 = some (2006, .inl ((g 0), 12, .inl hif)) := fq hv9 _ _ h_hv9 (by omega)
  have h_cu : S10 cu = some (2007, .inl ((g 0), 21952, .inl (fun j => nI (CU j).val))) := fq cu _ _ h_cu (by omega)
  have h_le : S10 le = some (2008, .inl ((g 0), 17, .inl (fun j => nI (LF j)))) := fq le _ _ h_le (by omega)
  have h_ta : S10 ta = some (2009, .inl ((g 0), 768, .inl (fun j => nI (TB j).val))) := fq ta _ _ h_ta (by omega)
  have h_dg : S10 dg = some (2010, .inl ((g 0), 3, .inl (fun j => nI (DG j)))) := fq dg _ _ h_dg (by omega)
  have h_lt9 : S10 lt9 = some (2011, .inl ((g 0), 51, .inl (fun j => nI (LE j).val))) := fq lt9 _ _ h_lt9 (by omega)
  have h_rm : S10 rm = some (2012, .inl ((g 0), 3, .inl (fun j => nI (RMf j)))) := fq rm _ _ h_rm (by omega)
  have h_ro9 : S10 ro9 = some (2013, .inl ((g 0), 51, .inl (fun j => nI (RO j)))) := fq ro9 _ _ h_ro9 (by omega)
  have h_ze : S10 ze = some (2014, .inl ((g 0), 51, .inl (fun j => nI (ZM j).val))) := fq ze _ _ h_ze (by omega)
  have h_oq : S10 oq = some (2015, .inl ((g 0), 17, .inl (fun j => nI (OF j)))) := fq oq _ _ h_oq (by omega)
  have h_ve : S10 ve = some (2017, .inl ((g 0), 16, .inl (fun j => nI (vv j).val))) := fq ve _ _ h_ve (by omega)
  have h_ot : S10 ot = some (2018, .inl ((g 0), 16, .inl (fun j => nI (ww j).val))) := fq ot _ _ h_ot (by omega)
  have h_ro : S10 ro = some (2019, .inl ((g 0), 1700, .inl (fun j => nI (RW j).val))) := fq ro _ _ h_ro (by omega)
  have h_pv9 : S10 pv9 = some (2020, .inl ((g 0), 64, .inl PV)) := fq pv9 _ _ h_pv9 (by omega)
  have h_sq : S10 sq = some (2021, .inl ((g 0), 256, .inl (fun j => nI (SQ j).val))) := fq sq _ _ h_sq (by omega)
  have h_rs : S10 rs = some (2022, .inl ((g 0), 256, .inl (fun j => nI (RS j).val))) := fq rs _ _ h_rs (by omega)
  have hfr : ∀ b t e9, S b = some (t, e9) → (t ≠ 2000) → (t ≠ 2007) → (t ≠ 2008) → (t ≠ 2009) → (t ≠ 2010) → (t ≠ 2011) → (t ≠ 2012) → (t ≠ 2013) → (t ≠ 2014) → (t ≠ 2015) → (t ≠ 2016) → (t ≠ 2017) → (t ≠ 2018) → (t ≠ 2019) → (t ≠ 2020) → (t ≠ 2021) → (t ≠ 2022) → S10 b = some (t, e9) := fun b t e9 h9 k0 k1 k2 k3 k4 k5 k6 k7 k8 k9 k10 k11 k12 k13 k14 k15 k16 => by have h8 := hfr b t e9 h9 k0 k1 k2 k3 k4 k5 k6 k7 k8 k9 k10 k11 k12 k13 k14 k15 k16; exact fq b _ _ h8 (by omega)
  have h_fa := q_fa
  refine lv_aload_n hx hb d_M_run_19 rfl (lv_at hl 0 rfl) ?_
  refine mp_calli hI (va_runV (As := []) (rest := []) ⟨hx, hb, hml, hown, hg⟩ (c_M_isBasis l D g S10 _ o cu te tp tn hd hv9 n (.int (nI nl)) mv1 mv2 (.int (nI 0)) mv4 (.int (nI 0)) (.int (nI 1)) (.int s0) (.ref le) (.ref ta) (.ref dg) (.ref lt9) (.ref rm) (.ref ro9) (.int z0) (.ref ze) (.ref oq) (.ref fa) (.ref ve) (.ref ot) (.ref ro) (.ref pv9) (.ref sq) (.ref rs) tf tpf tnf hf hif h z mo co z2 mo2 co2 ld CU h_o h_cu h_te h_tp h_tn h_hd h_hv9 hM tCU) ⟨(callB_of 0 hg (wd_goodG q_966) rfl rfl rfl (hg _ q_5) (hg _ q_963) (by decide +kernel) ⟨Nat.le_of_ble_eq_true rfl, Nat.le_of_ble_eq_true rfl⟩), hg _ q_965, hg _ qs_28⟩ (mp_preV (C := R_M) (T := F_M) hI hK h_o rfl []) rfl rfl hl.1 rfl (lv_room (Nat.le_of_ble_eq_true rfl)) d_M_run_20 ⟨Nat.le_of_ble_eq_true rfl, Nat.le_of_ble_eq_true rfl⟩) (fun r17 S14 H15 locs p_16 hI => ?_)
  obtain ⟨CU2, q_cu, tCU1, hv, fq⟩ := p_16
  have h_o : S14 o = some (2000, .inr (10, [.int (nI nl), mv1, mv2, .int (nI 0), mv4, .int (nI n), .ref te, .ref tp, .ref tn, .ref hd, .ref hv9, .ref cu, .int (nI 0), .int (nI 1), .int s0, .ref le, .ref ta, .ref dg, .ref lt9, .ref rm, .ref ro9, .int z0, .ref ze, .ref oq, .ref fa, .ref ve, .ref ot, .ref ro, .ref pv9, .ref sq, .ref rs])) := fq o _ _ h_o (by omega)
  have h_te : S14 te = some (2002, .inl ((g 0), 12, .inl tf)) := fq te _ _ h_te (by omega)
  have h_tp : S14 tp = some (2003, .inl ((g 0), 12000, .inl tpf)) := fq tp _ _ h_tp (by omega)
  have h_tn : S14 tn = some (2004, .inl ((g 0), 12000, .inl tnf)) := fq tn _ _ h_tn (by omega)
  have h_hd : S14 hd = some (2005, .inl ((g 0), 12, .inl hf)) := fq hd _ _ h_hd (by omega)
  have h_hv9 : S14 hv9 = some (2006, .inl ((g 0), 12, .inl hif)) := fq hv9 _ _ h_hv9 (by omega)
  have h_le : S14 le = some (2008, .inl ((g 0), 17, .inl (fun j => nI (LF j)))) := fq le _ _ h_le (by omega)
  have h_ta : S14 ta = some (2009, .inl ((g 0), 768, .inl (fun j => nI (TB j).val))) := fq ta _ _ h_ta (by omega)
  have h_dg : S14 dg = some (2010, .inl ((g 0), 3, .inl (fun j => nI (DG j)))) := fq dg _ _ h_dg (by omega)
  have h_lt9 : S14 lt9 = some (2011, .inl ((g 0), 51, .inl (fun j => nI (LE j).val))) := fq lt9 _ _ h_lt9 (by omega)
  have h_rm : S14 rm = some (2012, .inl ((g 0), 3, .inl (fun j => nI (RMf j)))) := fq rm _ _ h_rm (by omega)
  have h_ro9 : S14 ro9 = some (2013, .inl ((g 0), 51, .inl (fun j => nI (RO j)))) := fq ro9 _ _ h_ro9 (by omega)
  have h_ze : S14 ze = some (2014, .inl ((g 0), 51, .inl (fun j => nI (ZM j).val))) := fq ze _ _ h_ze (by omega)
  have h_oq : S14 oq = some (2015, .inl ((g 0), 17, .inl (fun j => nI (OF j)))) := fq oq _ _ h_oq (by omega)
  have h_fa : S14 fa = some (2016, .inl ((g 5), 3, .inl FV2)) := fq fa _ _ h_fa (by omega)
  have h_ve : S14 ve = some (2017, .inl ((g 0), 16, .inl (fun j => nI (vv j).val))) := fq ve _ _ h_ve (by omega)
  have h_ot : S14 ot = some (2018, .inl ((g 0), 16, .inl (fun j => nI (ww j).val))) := fq ot _ _ h_ot (by omega)
  have h_ro : S14 ro = some (2019, .inl ((g 0), 1700, .inl (fun j => nI (RW j).val))) := fq ro _ _ h_ro (by omega)
  have h_pv9 : S14 pv9 = some (2020, .inl ((g 0), 64, .inl PV)) := fq pv9 _ _ h_pv9 (by omega)
  have h_sq : S14 sq = some (2021, .inl ((g 0), 256, .inl (fun j => nI (SQ j).val))) := fq sq _ _ h_sq (by omega)
  have h_rs : S14 rs = some (2022, .inl ((g 0), 256, .inl (fun j => nI (RS j).val))) := fq rs _ _ h_rs (by omega)
  have hfr : ∀ b t e9, S b = some (t, e9) → (t ≠ 2000) → (t ≠ 2007) → (t ≠ 2008) → (t ≠ 2009) → (t ≠ 2010) → (t ≠ 2011) → (t ≠ 2012) → (t ≠ 2013) → (t ≠ 2014) → (t ≠ 2015) → (t ≠ 2016) → (t ≠ 2017) → (t ≠ 2018) → (t ≠ 2019) → (t ≠ 2020) → (t ≠ 2021) → (t ≠ 2022) → S14 b = some (t, e9) := fun b t e9 h9 k0 k1 k2 k3 k4 k5 k6 k7 k8 k9 k10 k11 k12 k13 k14 k15 k16 => by have h8 := hfr b t e9 h9 k0 k1 k2 k3 k4 k5 k6 k7 k8 k9 k10 k11 k12 k13 k14 k15 k16; exact fq b _ _ h8 (by omega)
  have h_cu := q_cu
  rcases hv with ⟨rfl, hbas⟩ | ⟨rfl, hbas⟩
  · refine lv_if_ne (tgt := 28) hx hb d_M_run_23 (by decide) (fun _ => ?_) (fun h9 => absurd h9 (by decide))
    refine lv_aload_n hx hb d_M_run_28 rfl (lv_at hl 0 rfl) ?_
    refine mp_calli hI (va_runV (As := []) (rest := []) ⟨hx, hb, hml, hown, hg⟩ (c_M_isFinite l D g S14 _ o fa n nl mv1 mv2 (.int (nI 0)) mv4 (.int (nI n)) (.ref te) (.ref tp) (.ref tn) (.ref hd) (.ref hv9) (.ref cu) (.int (nI 0)) (.int (nI 1)) (.int s0) (.ref le) (.ref ta) (.ref dg) (.ref lt9) (.ref rm) (.ref ro9) (.int z0) (.ref ze) (.ref oq) (.ref ve) (.ref ot) (.ref ro) (.ref pv9) (.ref sq) (.ref rs) (fun i => (h i).1) (fun i => (h i).2.1) (fun i => (h i).2.2) FV2 h_o h_fa hnl hfm) ⟨(callB_of 0 hg (wd_goodG q_1002) rfl rfl rfl (hg _ q_5) (hg _ q_999) (by decide +kernel) ⟨Nat.le_of_ble_eq_true rfl, Nat.le_of_ble_eq_true rfl⟩), hg _ q_1001, hg _ qs_34⟩ (mp_preV (C := R_M) (T := F_M) hI hK h_o rfl []) rfl rfl hl.1 rfl (lv_room (Nat.le_of_ble_eq_true rfl)) d_M_run_29 ⟨Nat.le_of_ble_eq_true rfl, Nat.le_of_ble_eq_true rfl⟩) (fun r21 S18 H19 locs p_20 hI => ?_)
    obtain ⟨hv, fq⟩ := p_20
    have h_o : S18 o = some (2000, .inr (10, [.int (nI nl), mv1, mv2, .int (nI 0), mv4, .int (nI n), .ref te, .ref tp, .ref tn, .ref hd, .ref hv9, .ref cu, .int (nI 0), .int (nI 1), .int s0, .ref le, .ref ta, .ref dg, .ref lt9, .ref rm, .ref ro9, .int z0, .ref ze, .ref oq, .ref fa, .ref ve, .ref ot, .ref ro, .ref pv9, .ref sq, .ref rs])) := fq o _ _ h_o
    have h_te : S18 te = some (2002, .inl ((g 0), 12, .inl tf)) := fq te _ _ h_te
    have h_tp : S18 tp = some (2003, .inl ((g 0), 12000, .inl tpf)) := fq tp _ _ h_tp
    have h_tn : S18 tn = some (2004, .inl ((g 0), 12000, .inl tnf)) := fq tn _ _ h_tn
    have h_hd : S18 hd = some (2005, .inl ((g 0), 12, .inl hf)) := fq hd _ _ h_hd
    have h_hv9 : S18 hv9 = some (2006, .inl ((g 0), 12, .inl hif)) := fq hv9 _ _ h_hv9
    have h_cu : S18 cu = some (2007, .inl ((g 0), 21952, .inl (fun j => nI (CU2 j).val))) := fq cu _ _ h_cu
    have h_le : S18 le = some (2008, .inl ((g 0), 17, .inl (fun j => nI (LF j)))) := fq le _ _ h_le
    have h_ta : S18 ta = some (2009, .inl ((g 0), 768, .inl (fun j => nI (TB j).val))) := fq ta _ _ h_ta
    have h_dg : S18 dg = some (2010, .inl ((g 0), 3, .inl (fun j => nI (DG j)))) := fq dg _ _ h_dg
    have h_lt9 : S18 lt9 = some (2011, .inl ((g 0), 51, .inl (fun j => nI (LE j).val))) := fq lt9 _ _ h_lt9
    have h_rm : S18 rm = some (2012, .inl ((g 0), 3, .inl (fun j => nI (RMf j)))) := fq rm _ _ h_rm
    have h_ro9 : S18 ro9 = some (2013, .inl ((g 0), 51, .inl (fun j => nI (RO j)))) := fq ro9 _ _ h_ro9
    have h_ze : S18 ze = some (2014, .inl ((g 0), 51, .inl (fun j => nI (ZM j).val))) := fq ze _ _ h_ze
    have h_oq : S18 oq = some (2015, .inl ((g 0), 17, .inl (fun j => nI (OF j)))) := fq oq _ _ h_oq
    have h_fa : S18 fa = some (2016, .inl ((g 5), 3, .inl FV2)) := fq fa _ _ h_fa
    have h_ve : S18 ve = some (2017, .inl ((g 0), 16, .inl (fun j => nI (vv j).val))) := fq ve _ _ h_ve
    have h_ot : S18 ot = some (2018, .inl ((g 0), 16, .inl (fun j => nI (ww j).val))) := fq ot _ _ h_ot
    have h_ro : S18 ro = some (2019, .inl ((g 0), 1700, .inl (fun j => nI (RW j).val))) := fq ro _ _ h_ro
    have h_pv9 : S18 pv9 = some (2020, .inl ((g 0), 64, .inl PV)) := fq pv9 _ _ h_pv9
    have h_sq : S18 sq = some (2021, .inl ((g 0), 256, .inl (fun j => nI (SQ j).val))) := fq sq _ _ h_sq
    have h_rs : S18 rs = some (2022, .inl ((g 0), 256, .inl (fun j => nI (RS j).val))) := fq rs _ _ h_rs
    have hfr : ∀ b t e9, S b = some (t, e9) → (t ≠ 2000) → (t ≠ 2007) → (t ≠ 2008) → (t ≠ 2009) → (t ≠ 2010) → (t ≠ 2011) → (t ≠ 2012) → (t ≠ 2013) → (t ≠ 2014) → (t ≠ 2015) → (t ≠ 2016) → (t ≠ 2017) → (t ≠ 2018) → (t ≠ 2019) → (t ≠ 2020) → (t ≠ 2021) → (t ≠ 2022) → S18 b = some (t, e9) := fun b t e9 h9 k0 k1 k2 k3 k4 k5 k6 k7 k8 k9 k10 k11 k12 k13 k14 k15 k16 => by have h8 := hfr b t e9 h9 k0 k1 k2 k3 k4 k5 k6 k7 k8 k9 k10 k11 k12 k13 k14 k15 k16; exact fq b _ _ h8
    rcases hv with ⟨rfl, hfin⟩ | ⟨rfl, hfin⟩
    · refine lv_if_ne (tgt := 38) hx hb d_M_run_32 (by decide) (fun _ => ?_) (fun h9 => absurd h9 (by decide))
      refine lv_aload_n hx hb d_M_run_38 rfl (lv_at hl 0 rfl) ?_
      refine mp_calli hI (va_runV (As := []) (rest := []) ⟨hx, hb, hml, hown, hg⟩ (c_M_findLeft l D g S18 _ o hd le n nl mv1 mv2 (.int (nI 0)) mv4 (.ref te) (.ref tp) (.ref tn) (.ref hv9) (.ref cu) (.int (nI 0)) (.int (nI 1)) (.ref ta) (.ref dg) (.ref lt9) (.ref rm) (.ref ro9) (.int z0) (.ref ze) (.ref oq) (.ref fa) (.ref ve) (.ref ot) (.ref ro) (.ref pv9) (.ref sq) (.ref rs) hf h s0 LF h_o h_hd h_le (lsM_h hM) hn12 hnl) ⟨(callB_of 0 hg (wd_goodG q_1006) rfl rfl rfl (hg _ q_5) (hg _ q_1003) (by decide +kernel) ⟨Nat.le_of_ble_eq_true rfl, Nat.le_of_ble_eq_true rfl⟩), hg _ q_1005, hg _ qs_35⟩ (mp_preV (C := R_M) (T := F_M) hI hK h_o rfl []) rfl rfl hl.1 rfl (lv_room (Nat.le_of_ble_eq_true rfl)) d_M_run_39 ⟨Nat.le_of_ble_eq_true rfl, Nat.le_of_ble_eq_true rfl⟩) (fun r25 S22 H23 locs p_24 hI => ?_)
      obtain ⟨s9, LF2, hs, q_o, q_le, hv, fq⟩ := p_24
      have h_te : S22 te = some (2002, .inl ((g 0), 12, .inl tf)) := fq te _ _ h_te (by omega) (by omega)
      have h_tp : S22 tp = some (2003, .inl ((g 0), 12000, .inl tpf)) := fq tp _ _ h_tp (by omega) (by omega)
      have h_tn : S22 tn = some (2004, .inl ((g 0), 12000, .inl tnf)) := fq tn _ _ h_tn (by omega) (by omega)
      have h_hd : S22 hd = some (2005, .inl ((g 0), 12, .inl hf)) := fq hd _ _ h_hd (by omega) (by omega)
      have h_hv9 : S22 hv9 = some (2006, .inl ((g 0), 12, .inl hif)) := fq hv9 _ _ h_hv9 (by omega) (by omega)
      have h_cu : S22 cu = some (2007, .inl ((g 0), 21952, .inl (fun j => nI (CU2 j).val))) := fq cu _ _ h_cu (by omega) (by omega)
      have h_ta : S22 ta = some (2009, .inl ((g 0), 768, .inl (fun j => nI (TB j).val))) := fq ta _ _ h_ta (by omega) (by omega)
      have h_dg : S22 dg = some (2010, .inl ((g 0), 3, .inl (fun j => nI (DG j)))) := fq dg _ _ h_dg (by omega) (by omega)
      have h_lt9 : S22 lt9 = some (2011, .inl ((g 0), 51, .inl (fun j => nI (LE j).val))) := fq lt9 _ _ h_lt9 (by omega) (by omega)
      have h_rm : S22 rm = some (2012, .inl ((g 0), 3, .inl (fun j => nI (RMf j)))) := fq rm _ _ h_rm (by omega) (by omega)
      have h_ro9 : S22 ro9 = some (2013, .inl ((g 0), 51, .inl (fun j => nI (RO j)))) := fq ro9 _ _ h_ro9 (by omega) (by omega)
      have h_ze : S22 ze = some (2014, .inl ((g 0), 51, .inl (fun j => nI (ZM j).val))) := fq ze _ _ h_ze (by omega) (by omega)
      have h_oq : S22 oq = some (2015, .inl ((g 0), 17, .inl (fun j => nI (OF j)))) := fq oq _ _ h_oq (by omega) (by omega)
      have h_fa : S22 fa = some (2016, .inl ((g 5), 3, .inl FV2)) := fq fa _ _ h_fa (by omega) (by omega)
      have h_ve : S22 ve = some (2017, .inl ((g 0), 16, .inl (fun j => nI (vv j).val))) := fq ve _ _ h_ve (by omega) (by omega)
      have h_ot : S22 ot = some (2018, .inl ((g 0), 16, .inl (fun j => nI (ww j).val))) := fq ot _ _ h_ot (by omega) (by omega)
      have h_ro : S22 ro = some (2019, .inl ((g 0), 1700, .inl (fun j => nI (RW j).val))) := fq ro _ _ h_ro (by omega) (by omega)
      have h_pv9 : S22 pv9 = some (2020, .inl ((g 0), 64, .inl PV)) := fq pv9 _ _ h_pv9 (by omega) (by omega)
      have h_sq : S22 sq = some (2021, .inl ((g 0), 256, .inl (fun j => nI (SQ j).val))) := fq sq _ _ h_sq (by omega) (by omega)
      have h_rs : S22 rs = some (2022, .inl ((g 0), 256, .inl (fun j => nI (RS j).val))) := fq rs _ _ h_rs (by omega) (by omega)
      have hfr : ∀ b t e9, S b = some (t, e9) → (t ≠ 2000) → (t ≠ 2007) → (t ≠ 2008) → (t ≠ 2009) → (t ≠ 2010) → (t ≠ 2011) → (t ≠ 2012) → (t ≠ 2013) → (t ≠ 2014) → (t ≠ 2015) → (t ≠ 2016) → (t ≠ 2017) → (t ≠ 2018) → (t ≠ 2019) → (t ≠ 2020) → (t ≠ 2021) → (t ≠ 2022) → S22 b = some (t, e9) := fun b t e9 h9 k0 k1 k2 k3 k4 k5 k6 k7 k8 k9 k10 k11 k12 k13 k14 k15 k16 => by have h8 := hfr b t e9 h9 k0 k1 k2 k3 k4 k5 k6 k7 k8 k9 k10 k11 k12 k13 k14 k15 k16; exact fq b _ _ h8 (by omega) (by omega)
      have h_o := q_o
      have h_le := q_le
      rcases hv with ⟨rfl, hfl⟩ | ⟨rfl, hfl⟩
      · refine lv_if_ne (tgt := 48) hx hb d_M_run_42 (by decide) (fun _ => ?_) (fun h9 => absurd h9 (by decide))
        obtain ⟨lq, hcol, hlf, hL0, hLb⟩ := lf_all hfl hfin hnl hn1 (mo_e9 hM)
        have hFl := colS_lf hIn hcol (fun q hq => Nat.lt_of_lt_of_le (fin_bd hfin hnl hn1 (mo_e9 hM) hq).2 (tr3_mono (by omega)))
        refine lv_aload_n hx hb d_M_run_48 rfl (lv_at hl 0 rfl) ?_
        refine mp_callv hI (va_runV (As := []) (rest := []) ⟨hx, hb, hml, hown, hg⟩ (c_M_makeTables l D g S22 _ o cu te tp tn hd hv9 le ta n nl s9 mv1 mv2 (.int (nI 0)) mv4 (.int (nI 0)) (.int (nI 1)) (.ref dg) (.ref lt9) (.ref rm) (.ref ro9) (.int z0) (.ref ze) (.ref oq) (.ref fa) (.ref ve) (.ref ot) (.ref ro) (.ref pv9) (.ref sq) (.ref rs) tf tpf tnf hf hif h z mo co z2 mo2 co2 ld LF2 (fun k => Ep (lq k)) CU2 TB h_o h_cu h_te h_tp h_tn h_hd h_hv9 h_le h_ta hM hs hnl hlf tCU1) ⟨(callB_of 0 hg (wd_goodG q_1010) rfl rfl rfl (hg _ q_5) (hg _ q_1007) (by decide +kernel) ⟨Nat.le_of_ble_eq_true rfl, Nat.le_of_ble_eq_true rfl⟩), hg _ q_1009, hg _ qs_36⟩ (mp_preV (C := R_M) (T := F_M) hI hK h_o rfl []) rfl rfl hl.1 rfl (lv_room (Nat.le_of_ble_eq_true rfl)) d_M_run_49 ⟨Nat.le_of_ble_eq_true rfl, Nat.le_of_ble_eq_true rfl⟩) (fun S26 H27 locs p_28 hI => ?_)
        obtain ⟨CU3, TB2, q_cu, q_ta, tCU3, hmt, fq⟩ := p_28
        have h_o : S26 o = some (2000, .inr (10, [.int (nI nl), mv1, mv2, .int (nI 0), mv4, .int (nI n), .ref te, .ref tp, .ref tn, .ref hd, .ref hv9, .ref cu, .int (nI 0), .int (nI 1), .int (nI s9), .ref le, .ref ta, .ref dg, .ref lt9, .ref rm, .ref ro9, .int z0, .ref ze, .ref oq, .ref fa, .ref ve, .ref ot, .ref ro, .ref pv9, .ref sq, .ref rs])) := fq o _ _ h_o (by omega) (by omega)
        have h_te : S26 te = some (2002, .inl ((g 0), 12, .inl tf)) := fq te _ _ h_te (by omega) (by omega)
        have h_tp : S26 tp = some (2003, .inl ((g 0), 12000, .inl tpf)) := fq tp _ _ h_tp (by omega) (by omega)
        have h_tn : S26 tn = some (2004, .inl ((g 0), 12000, .inl tnf)) := fq tn _ _ h_tn (by omega) (by omega)
        have h_hd : S26 hd = some (2005, .inl ((g 0), 12, .inl hf)) := fq hd _ _ h_hd (by omega) (by omega)
        have h_hv9 : S26 hv9 = some (2006, .inl ((g 0), 12, .inl hif)) := fq hv9 _ _ h_hv9 (by omega) (by omega)
        have h_le : S26 le = some (2008, .inl ((g 0), 17, .inl (fun j => nI (LF2 j)))) := fq le _ _ h_le (by omega) (by omega)
        have h_dg : S26 dg = some (2010, .inl ((g 0), 3, .inl (fun j => nI (DG j)))) := fq dg _ _ h_dg (by omega) (by omega)
        have h_lt9 : S26 lt9 = some (2011, .inl ((g 0), 51, .inl (fun j => nI (LE j).val))) := fq lt9 _ _ h_lt9 (by omega) (by omega)
        have h_rm : S26 rm = some (2012, .inl ((g 0), 3, .inl (fun j => nI (RMf j)))) := fq rm _ _ h_rm (by omega) (by omega)
        have h_ro9 : S26 ro9 = some (2013, .inl ((g 0), 51, .inl (fun j => nI (RO j)))) := fq ro9 _ _ h_ro9 (by omega) (by omega)
        have h_ze : S26 ze = some (2014, .inl ((g 0), 51, .inl (fun j => nI (ZM j).val))) := fq ze _ _ h_ze (by omega) (by omega)
        have h_oq : S26 oq = some (2015, .inl ((g 0), 17, .inl (fun j => nI (OF j)))) := fq oq _ _ h_oq (by omega) (by omega)
        have h_fa : S26 fa = some (2016, .inl ((g 5), 3, .inl FV2)) := fq fa _ _ h_fa (by omega) (by omega)
        have h_ve : S26 ve = some (2017, .inl ((g 0), 16, .inl (fun j => nI (vv j).val))) := fq ve _ _ h_ve (by omega) (by omega)
        have h_ot : S26 ot = some (2018, .inl ((g 0), 16, .inl (fun j => nI (ww j).val))) := fq ot _ _ h_ot (by omega) (by omega)
        have h_ro : S26 ro = some (2019, .inl ((g 0), 1700, .inl (fun j => nI (RW j).val))) := fq ro _ _ h_ro (by omega) (by omega)
        have h_pv9 : S26 pv9 = some (2020, .inl ((g 0), 64, .inl PV)) := fq pv9 _ _ h_pv9 (by omega) (by omega)
        have h_sq : S26 sq = some (2021, .inl ((g 0), 256, .inl (fun j => nI (SQ j).val))) := fq sq _ _ h_sq (by omega) (by omega)
        have h_rs : S26 rs = some (2022, .inl ((g 0), 256, .inl (fun j => nI (RS j).val))) := fq rs _ _ h_rs (by omega) (by omega)
        have hfr : ∀ b t e9, S b = some (t, e9) → (t ≠ 2000) → (t ≠ 2007) → (t ≠ 2008) → (t ≠ 2009) → (t ≠ 2010) → (t ≠ 2011) → (t ≠ 2012) → (t ≠ 2013) → (t ≠ 2014) → (t ≠ 2015) → (t ≠ 2016) → (t ≠ 2017) → (t ≠ 2018) → (t ≠ 2019) → (t ≠ 2020) → (t ≠ 2021) → (t ≠ 2022) → S26 b = some (t, e9) := fun b t e9 h9 k0 k1 k2 k3 k4 k5 k6 k7 k8 k9 k10 k11 k12 k13 k14 k15 k16 => by have h8 := hfr b t e9 h9 k0 k1 k2 k3 k4 k5 k6 k7 k8 k9 k10 k11 k12 k13 k14 k15 k16; exact fq b _ _ h8 (by omega) (by omega)
        have h_cu := q_cu
        have h_ta := q_ta
        refine lv_iconst (v := nI 0) hx hb d_M_run_52 (by decide) ?_
        refine lv_istore_n (lv' := [(1, .int (nI 0)), (0, .ref o)]) hx hb d_M_run_53 rfl hl (by decide) rfl (fun ls hl => ?_)
        refine lp_M_rn (B := S) (o := o) (te := te) (tp := tp) (tn := tn) (hd := hd) (hv9 := hv9) (cu := cu) (le := le) (ta := ta) (dg := dg) (lt9 := lt9) (rm := rm) (ro9 := ro9) (ze := ze) (oq := oq) (fa := fa) (ve := ve) (ot := ot) (ro := ro) (pv9 := pv9) (sq := sq) (rs := rs) (n := n) (nl := nl) (mv1 := mv1) (mv2 := mv2) (mv4 := mv4) (tf := tf) (tpf := tpf) (tnf := tnf) (hf := hf) (hif := hif) (h := h) (z := z) (mo := mo) (co := co) (z2 := z2) (mo2 := mo2) (co2 := co2) (ld := ld) (CU := CU3) (TB := TB2) (ZM := ZM) (SQ := SQ) (RS := RS) (LF := LF2) (OF := OF) (FV := FV2) (z0 := z0) (s9 := s9) hx hb hml hg hown hK (Nat.le_of_ble_eq_true rfl) (Nat.le_of_ble_eq_true rfl) (Nat.le_of_ble_eq_true rfl) (Nat.le_of_ble_eq_true rfl) hnl hs hL0 hLb nl 0 DG LE RMf RO RW vv ww PV S26 H27 _ ls (by omega) (fun l hl => absurd hl (Nat.not_lt_zero l)) h_o h_te h_tp h_tn h_hd h_hv9 h_cu h_le h_ta h_dg h_lt9 h_rm h_ro9 h_ze h_oq h_fa h_ve h_ot h_ro h_pv9 h_sq h_rs hfr hI (lv_sub hl [0, 1] rfl) (fun DG2 LE2 RM2 RO2 RW2 vv2 ww2 PV2 S30 H31 locs ls hlr h_o h_te h_tp h_tn h_hd h_hv9 h_cu h_le h_ta h_dg h_lt9 h_rm h_ro9 h_ze h_oq h_fa h_ve h_ot h_ro h_pv9 h_sq h_rs hfr hI hl => ?_)
        obtain ⟨RT, RC, hRC, hRT, hRM, hZb, hrts, hone⟩ := zz_ok hM.1 hFl hs hn1 hlr
        refine lv_aload_n hx hb d_M_run_78 rfl (lv_at hl 1 rfl) ?_
        refine mp_callv hI (va_runV (As := []) (rest := []) ⟨hx, hb, hml, hown, hg⟩ (c_M_findZeros l D g S30 _ o te tp tn ro9 rm ze n nl mv1 mv2 (.int (nI 0)) mv4 (.ref hd) (.ref hv9) (.ref cu) (.int (nI 0)) (.int (nI 1)) (.int (nI s9)) (.ref le) (.ref ta) (.ref dg) (.ref lt9) (.ref oq) (.ref fa) (.ref ve) (.ref ot) (.ref ro) (.ref pv9) (.ref sq) (.ref rs) tf tpf tnf hf hif h z mo co z2 mo2 co2 ld RO2 RM2 RT RC z0 ZM h_o h_te h_tp h_tn h_ro9 h_rm h_ze hM hnl hn1 hRC hRT hRM hZb) ⟨(callB_of 0 hg (wd_goodG q_1037) rfl rfl rfl (hg _ q_5) (hg _ q_1034) (by decide +kernel) ⟨Nat.le_of_ble_eq_true rfl, Nat.le_of_ble_eq_true rfl⟩), hg _ q_1036, hg _ qs_42⟩ (mp_preV (C := R_M) (T := F_M) hI hK h_o rfl []) rfl rfl hl.1 rfl (lv_room (Nat.le_of_ble_eq_true rfl)) d_M_run_79 ⟨Nat.le_of_ble_eq_true rfl, Nat.le_of_ble_eq_true rfl⟩) (fun S32 H33 locs p_34 hI => ?_)
        obtain ⟨zc, ZM2, hzk, q_o, q_ze, fq⟩ := p_34
        have h_te : S32 te = some (2002, .inl ((g 0), 12, .inl tf)) := fq te _ _ h_te (by omega) (by omega)
        have h_tp : S32 tp = some (2003, .inl ((g 0), 12000, .inl tpf)) := fq tp _ _ h_tp (by omega) (by omega)
        have h_tn : S32 tn = some (2004, .inl ((g 0), 12000, .inl tnf)) := fq tn _ _ h_tn (by omega) (by omega)
        have h_hd : S32 hd = some (2005, .inl ((g 0), 12, .inl hf)) := fq hd _ _ h_hd (by omega) (by omega)
        have h_hv9 : S32 hv9 = some (2006, .inl ((g 0), 12, .inl hif)) := fq hv9 _ _ h_hv9 (by omega) (by omega)
        have h_cu : S32 cu = some (2007, .inl ((g 0), 21952, .inl (fun j => nI (CU3 j).val))) := fq cu _ _ h_cu (by omega) (by omega)
        have h_le : S32 le = some (2008, .inl ((g 0), 17, .inl (fun j => nI (LF2 j)))) := fq le _ _ h_le (by omega) (by omega)
        have h_ta : S32 ta = some (2009, .inl ((g 0), 768, .inl (fun j => nI (TB2 j).val))) := fq ta _ _ h_ta (by omega) (by omega)
        have h_dg : S32 dg = some (2010, .inl ((g 0), 3, .inl (fun j => nI (DG2 j)))) := fq dg _ _ h_dg (by omega) (by omega)
        have h_lt9 : S32 lt9 = some (2011, .inl ((g 0), 51, .inl (fun j => nI (LE2 j).val))) := fq lt9 _ _ h_lt9 (by omega) (by omega)
        have h_rm : S32 rm = some (2012, .inl ((g 0), 3, .inl (fun j => nI (RM2 j)))) := fq rm _ _ h_rm (by omega) (by omega)
        have h_ro9 : S32 ro9 = some (2013, .inl ((g 0), 51, .inl (fun j => nI (RO2 j)))) := fq ro9 _ _ h_ro9 (by omega) (by omega)
        have h_oq : S32 oq = some (2015, .inl ((g 0), 17, .inl (fun j => nI (OF j)))) := fq oq _ _ h_oq (by omega) (by omega)
        have h_fa : S32 fa = some (2016, .inl ((g 5), 3, .inl FV2)) := fq fa _ _ h_fa (by omega) (by omega)
        have h_ve : S32 ve = some (2017, .inl ((g 0), 16, .inl (fun j => nI (vv2 j).val))) := fq ve _ _ h_ve (by omega) (by omega)
        have h_ot : S32 ot = some (2018, .inl ((g 0), 16, .inl (fun j => nI (ww2 j).val))) := fq ot _ _ h_ot (by omega) (by omega)
        have h_ro : S32 ro = some (2019, .inl ((g 0), 1700, .inl (fun j => nI (RW2 j).val))) := fq ro _ _ h_ro (by omega) (by omega)
        have h_pv9 : S32 pv9 = some (2020, .inl ((g 0), 64, .inl PV2)) := fq pv9 _ _ h_pv9 (by omega) (by omega)
        have h_sq : S32 sq = some (2021, .inl ((g 0), 256, .inl (fun j => nI (SQ j).val))) := fq sq _ _ h_sq (by omega) (by omega)
        have h_rs : S32 rs = some (2022, .inl ((g 0), 256, .inl (fun j => nI (RS j).val))) := fq rs _ _ h_rs (by omega) (by omega)
        have hfr : ∀ b t e9, S b = some (t, e9) → (t ≠ 2000) → (t ≠ 2007) → (t ≠ 2008) → (t ≠ 2009) → (t ≠ 2010) → (t ≠ 2011) → (t ≠ 2012) → (t ≠ 2013) → (t ≠ 2014) → (t ≠ 2015) → (t ≠ 2016) → (t ≠ 2017) → (t ≠ 2018) → (t ≠ 2019) → (t ≠ 2020) → (t ≠ 2021) → (t ≠ 2022) → S32 b = some (t, e9) := fun b t e9 h9 k0 k1 k2 k3 k4 k5 k6 k7 k8 k9 k10 k11 k12 k13 k14 k15 k16 => by have h8 := hfr b t e9 h9 k0 k1 k2 k3 k4 k5 k6 k7 k8 k9 k10 k11 k12 k13 k14 k15 k16; exact fq b _ _ h8 (by omega) (by omega)
        have h_o := q_o
        have h_ze := q_ze
        have hzc := hZb _ _ _ (Nat.le_refl _) hzk
        refine lv_aload_n hx hb d_M_run_82 rfl (lv_at hl 1 rfl) ?_
        refine mp_callv hI (va_runV (As := []) (rest := []) ⟨hx, hb, hml, hown, hg⟩ (c_M_countZeros l D g S32 _ o ta sq rs ro ze oq s9 nl zc mv1 mv2 (.int (nI 0)) mv4 (.int (nI n)) (.ref te) (.ref tp) (.ref tn) (.ref hd) (.ref hv9) (.ref cu) (.int (nI 0)) (.int (nI 1)) (.ref le) (.ref dg) (.ref lt9) (.ref rm) (.ref ro9) (.ref fa) (.ref ve) (.ref ot) (.ref pv9) TB2 ZM2 SQ RS RW2 OF h_o h_ta h_sq h_rs h_ro h_ze h_oq hs hnl hzc) ⟨(callB_of 0 hg (wd_goodG q_1055) rfl rfl rfl (hg _ q_5) (hg _ q_1052) (by decide +kernel) ⟨Nat.le_of_ble_eq_true rfl, Nat.le_of_ble_eq_true rfl⟩), hg _ q_1054, hg _ qs_45⟩ (mp_preV (C := R_M) (T := F_M) hI hK h_o rfl []) rfl rfl hl.1 rfl (lv_room (Nat.le_of_ble_eq_true rfl)) d_M_run_83 ⟨Nat.le_of_ble_eq_true rfl, Nat.le_of_ble_eq_true rfl⟩) (fun S36 H37 locs p_38 hI => ?_)
        obtain ⟨SQ2, RS2, RW3, OF2, q_sq, q_rs, q_ro, q_oq, hof, fq⟩ := p_38
        have h_o : S36 o = some (2000, .inr (10, [.int (nI nl), mv1, mv2, .int (nI 0), mv4, .int (nI n), .ref te, .ref tp, .ref tn, .ref hd, .ref hv9, .ref cu, .int (nI 0), .int (nI 1), .int (nI s9), .ref le, .ref ta, .ref dg, .ref lt9, .ref rm, .ref ro9, .int (nI zc), .ref ze, .ref oq, .ref fa, .ref ve, .ref ot, .ref ro, .ref pv9, .ref sq, .ref rs])) := fq o _ _ h_o (by omega) (by omega) (by omega) (by omega)
        have h_te : S36 te = some (2002, .inl ((g 0), 12, .inl tf)) := fq te _ _ h_te (by omega) (by omega) (by omega) (by omega)
        have h_tp : S36 tp = some (2003, .inl ((g 0), 12000, .inl tpf)) := fq tp _ _ h_tp (by omega) (by omega) (by omega) (by omega)
        have h_tn : S36 tn = some (2004, .inl ((g 0), 12000, .inl tnf)) := fq tn _ _ h_tn (by omega) (by omega) (by omega) (by omega)
        have h_hd : S36 hd = some (2005, .inl ((g 0), 12, .inl hf)) := fq hd _ _ h_hd (by omega) (by omega) (by omega) (by omega)
        have h_hv9 : S36 hv9 = some (2006, .inl ((g 0), 12, .inl hif)) := fq hv9 _ _ h_hv9 (by omega) (by omega) (by omega) (by omega)
        have h_cu : S36 cu = some (2007, .inl ((g 0), 21952, .inl (fun j => nI (CU3 j).val))) := fq cu _ _ h_cu (by omega) (by omega) (by omega) (by omega)
        have h_le : S36 le = some (2008, .inl ((g 0), 17, .inl (fun j => nI (LF2 j)))) := fq le _ _ h_le (by omega) (by omega) (by omega) (by omega)
        have h_ta : S36 ta = some (2009, .inl ((g 0), 768, .inl (fun j => nI (TB2 j).val))) := fq ta _ _ h_ta (by omega) (by omega) (by omega) (by omega)
        have h_dg : S36 dg = some (2010, .inl ((g 0), 3, .inl (fun j => nI (DG2 j)))) := fq dg _ _ h_dg (by omega) (by omega) (by omega) (by omega)
        have h_lt9 : S36 lt9 = some (2011, .inl ((g 0), 51, .inl (fun j => nI (LE2 j).val))) := fq lt9 _ _ h_lt9 (by omega) (by omega) (by omega) (by omega)
        have h_rm : S36 rm = some (2012, .inl ((g 0), 3, .inl (fun j => nI (RM2 j)))) := fq rm _ _ h_rm (by omega) (by omega) (by omega) (by omega)
        have h_ro9 : S36 ro9 = some (2013, .inl ((g 0), 51, .inl (fun j => nI (RO2 j)))) := fq ro9 _ _ h_ro9 (by omega) (by omega) (by omega) (by omega)
        have h_ze : S36 ze = some (2014, .inl ((g 0), 51, .inl (fun j => nI (ZM2 j).val))) := fq ze _ _ h_ze (by omega) (by omega) (by omega) (by omega)
        have h_fa : S36 fa = some (2016, .inl ((g 5), 3, .inl FV2)) := fq fa _ _ h_fa (by omega) (by omega) (by omega) (by omega)
        have h_ve : S36 ve = some (2017, .inl ((g 0), 16, .inl (fun j => nI (vv2 j).val))) := fq ve _ _ h_ve (by omega) (by omega) (by omega) (by omega)
        have h_ot : S36 ot = some (2018, .inl ((g 0), 16, .inl (fun j => nI (ww2 j).val))) := fq ot _ _ h_ot (by omega) (by omega) (by omega) (by omega)
        have h_pv9 : S36 pv9 = some (2020, .inl ((g 0), 64, .inl PV2)) := fq pv9 _ _ h_pv9 (by omega) (by omega) (by omega) (by omega)
        have hfr : ∀ b t e9, S b = some (t, e9) → (t ≠ 2000) → (t ≠ 2007) → (t ≠ 2008) → (t ≠ 2009) → (t ≠ 2010) → (t ≠ 2011) → (t ≠ 2012) → (t ≠ 2013) → (t ≠ 2014) → (t ≠ 2015) → (t ≠ 2016) → (t ≠ 2017) → (t ≠ 2018) → (t ≠ 2019) → (t ≠ 2020) → (t ≠ 2021) → (t ≠ 2022) → S36 b = some (t, e9) := fun b t e9 h9 k0 k1 k2 k3 k4 k5 k6 k7 k8 k9 k10 k11 k12 k13 k14 k15 k16 => by have h8 := hfr b t e9 h9 k0 k1 k2 k3 k4 k5 k6 k7 k8 k9 k10 k11 k12 k13 k14 k15 k16; exact fq b _ _ h8 (by omega) (by omega) (by omega) (by omega)
        have h_sq := q_sq
        have h_rs := q_rs
        have h_ro := q_ro
        have h_oq := q_oq
        refine lv_aload_n hx hb d_M_run_86 rfl (lv_at hl 1 rfl) ?_
        refine lv_iconst (v := nI 1) hx hb d_M_run_87 (by decide) ?_
        refine mp_put (C := R_M) (T := F_M) (N := 31) (v := .int (nI 1)) (ty := .boolean) hx hb hg i_M t_M t_M_ok n_M hown hK.va hI h_o rfl 12 (by decide) (hg _ q_816) (fun _ h9 => h9) rfl (by decide +kernel) (rfl) rfl (Nat.le_of_ble_eq_true rfl) d_M_run_88 (fun S40 H41 locs e_42 hI => ?_)
        have h_o_o := h_o
        have e_42 : S40 = va_up S36 o (some (2000, .inr (10, [.int (nI nl), mv1, mv2, .int (nI 0), mv4, .int (nI n), .ref te, .ref tp, .ref tn, .ref hd, .ref hv9, .ref cu, .int (nI 1), .int (nI 1), .int (nI s9), .ref le, .ref ta, .ref dg, .ref lt9, .ref rm, .ref ro9, .int (nI zc), .ref ze, .ref oq, .ref fa, .ref ve, .ref ot, .ref ro, .ref pv9, .ref sq, .ref rs]))) := e_42
        have h_te : S40 te = some (2002, .inl ((g 0), 12, .inl tf)) := by rw [e_42]; exact mp_keep h_te h_o (by decide)
        have h_tp : S40 tp = some (2003, .inl ((g 0), 12000, .inl tpf)) := by rw [e_42]; exact mp_keep h_tp h_o (by decide)
        have h_tn : S40 tn = some (2004, .inl ((g 0), 12000, .inl tnf)) := by rw [e_42]; exact mp_keep h_tn h_o (by decide)
        have h_hd : S40 hd = some (2005, .inl ((g 0), 12, .inl hf)) := by rw [e_42]; exact mp_keep h_hd h_o (by decide)
        have h_hv9 : S40 hv9 = some (2006, .inl ((g 0), 12, .inl hif)) := by rw [e_42]; exact mp_keep h_hv9 h_o (by decide)
        have h_cu : S40 cu = some (2007, .inl ((g 0), 21952, .inl (fun j => nI (CU3 j).val))) := by rw [e_42]; exact mp_keep h_cu h_o (by decide)
        have h_le : S40 le = some (2008, .inl ((g 0), 17, .inl (fun j => nI (LF2 j)))) := by rw [e_42]; exact mp_keep h_le h_o (by decide)
        have h_ta : S40 ta = some (2009, .inl ((g 0), 768, .inl (fun j => nI (TB2 j).val))) := by rw [e_42]; exact mp_keep h_ta h_o (by decide)
        have h_dg : S40 dg = some (2010, .inl ((g 0), 3, .inl (fun j => nI (DG2 j)))) := by rw [e_42]; exact mp_keep h_dg h_o (by decide)
        have h_lt9 : S40 lt9 = some (2011, .inl ((g 0), 51, .inl (fun j => nI (LE2 j).val))) := by rw [e_42]; exact mp_keep h_lt9 h_o (by decide)
        have h_rm : S40 rm = some (2012, .inl ((g 0), 3, .inl (fun j => nI (RM2 j)))) := by rw [e_42]; exact mp_keep h_rm h_o (by decide)
        have h_ro9 : S40 ro9 = some (2013, .inl ((g 0), 51, .inl (fun j => nI (RO2 j)))) := by rw [e_42]; exact mp_keep h_ro9 h_o (by decide)
        have h_ze : S40 ze = some (2014, .inl ((g 0), 51, .inl (fun j => nI (ZM2 j).val))) := by rw [e_42]; exact mp_keep h_ze h_o (by decide)
        have h_oq : S40 oq = some (2015, .inl ((g 0), 17, .inl (fun j => nI (OF2 j)))) := by rw [e_42]; exact mp_keep h_oq h_o (by decide)
        have h_fa : S40 fa = some (2016, .inl ((g 5), 3, .inl FV2)) := by rw [e_42]; exact mp_keep h_fa h_o (by decide)
        have h_ve : S40 ve = some (2017, .inl ((g 0), 16, .inl (fun j => nI (vv2 j).val))) := by rw [e_42]; exact mp_keep h_ve h_o (by decide)
        have h_ot : S40 ot = some (2018, .inl ((g 0), 16, .inl (fun j => nI (ww2 j).val))) := by rw [e_42]; exact mp_keep h_ot h_o (by decide)
        have h_ro : S40 ro = some (2019, .inl ((g 0), 1700, .inl (fun j => nI (RW3 j).val))) := by rw [e_42]; exact mp_keep h_ro h_o (by decide)
        have h_pv9 : S40 pv9 = some (2020, .inl ((g 0), 64, .inl PV2)) := by rw [e_42]; exact mp_keep h_pv9 h_o (by decide)
        have h_sq : S40 sq = some (2021, .inl ((g 0), 256, .inl (fun j => nI (SQ2 j).val))) := by rw [e_42]; exact mp_keep h_sq h_o (by decide)
        have h_rs : S40 rs = some (2022, .inl ((g 0), 256, .inl (fun j => nI (RS2 j).val))) := by rw [e_42]; exact mp_keep h_rs h_o (by decide)
        have h_o : S40 o = some (2000, .inr (10, [.int (nI nl), mv1, mv2, .int (nI 0), mv4, .int (nI n), .ref te, .ref tp, .ref tn, .ref hd, .ref hv9, .ref cu, .int (nI 1), .int (nI 1), .int (nI s9), .ref le, .ref ta, .ref dg, .ref lt9, .ref rm, .ref ro9, .int (nI zc), .ref ze, .ref oq, .ref fa, .ref ve, .ref ot, .ref ro, .ref pv9, .ref sq, .ref rs])) := by rw [e_42]; exact mp_us _ _ _
        have hfr : ∀ b t e9, S b = some (t, e9) → (t ≠ 2000) → (t ≠ 2007) → (t ≠ 2008) → (t ≠ 2009) → (t ≠ 2010) → (t ≠ 2011) → (t ≠ 2012) → (t ≠ 2013) → (t ≠ 2014) → (t ≠ 2015) → (t ≠ 2016) → (t ≠ 2017) → (t ≠ 2018) → (t ≠ 2019) → (t ≠ 2020) → (t ≠ 2021) → (t ≠ 2022) → S40 b = some (t, e9) := fun b t e9 h9 k0 k1 k2 k3 k4 k5 k6 k7 k8 k9 k10 k11 k12 k13 k14 k15 k16 => by rw [e_42]; exact mp_keep (hfr b t e9 h9 k0 k1 k2 k3 k4 k5 k6 k7 k8 k9 k10 k11 k12 k13 k14 k15 k16) h_o_o (by omega)
        refine lv_aload_n hx hb d_M_run_91 rfl (lv_at hl 1 rfl) ?_
        refine mp_get (C := R_M) (T := F_M) (N := 31) (v := .int (nI zc)) hx hb hg i_M hown hK.va hI h_o rfl 21 (by decide) (hg _ q_825) (fun _ h9 => h9) rfl d_M_run_92 ?_
        have tCU1 := tCU3
        refine mp_iret hx hb hr hlocks hI (Nat.le_of_ble_eq_true rfl) (Nat.le_of_ble_eq_true rfl) ?_ d_M_run_95
        exact ⟨(nI 1), (nI s9), (nI zc), (FV2), (CU3), (LF2), (TB2), (DG2), (LE2), (RM2), (RO2), (ZM2), (OF2), (vv2), (ww2), (RW3), (PV2), (SQ2), (RS2), Or.inr (Or.inr (Or.inr ⟨rfl, hbas, hfin, s9, zc, (fun k => Ep (lq k)), rfl, rfl, rfl, fun k hk => (hlf k hk).1, rn_M hs hcol hmt hlr hrts hone hzk hzc, fun k hk => of_mu hmt (hof k hk)⟩)), hfm, tCU1, h_o, h_cu, h_le, h_ta, h_dg, h_lt9, h_rm, h_ro9, h_ze, h_oq, h_fa, h_ve, h_ot, h_ro, h_pv9, h_sq, h_rs, hfr⟩
      · refine lv_if_ne (tgt := 48) hx hb d_M_run_42 (by decide) (fun h9 => absurd h9 (by decide)) (fun _ => ?_)
        refine lv_bipush (v := (-3)) hx hb d_M_run_45 (by decide) ?_
        refine mp_iret hx hb hr hlocks hI (Nat.le_of_ble_eq_true rfl) (Nat.le_of_ble_eq_true rfl) ?_ d_M_run_47
        exact ⟨(nI 0), (nI s9), (z0), (FV2), (CU2), (LF2), (TB), (DG), (LE), (RMf), (RO), (ZM), (OF), (vv), (ww), (RW), (PV), (SQ), (RS), Or.inr (Or.inr (Or.inl ⟨rfl, rfl, hbas, hfin, hfl⟩)), hfm, tCU1, h_o, h_cu, h_le, h_ta, h_dg, h_lt9, h_rm, h_ro9, h_ze, h_oq, h_fa, h_ve, h_ot, h_ro, h_pv9, h_sq, h_rs, hfr⟩
    · refine lv_if_ne (tgt := 38) hx hb d_M_run_32 (by decide) (fun h9 => absurd h9 (by decide)) (fun _ => ?_)
      refine lv_bipush (v := (-2)) hx hb d_M_run_35 (by decide) ?_
      refine mp_iret hx hb hr hlocks hI (Nat.le_of_ble_eq_true rfl) (Nat.le_of_ble_eq_true rfl) ?_ d_M_run_37
      exact ⟨(nI 0), (s0), (z0), (FV2), (CU2), (LF), (TB), (DG), (LE), (RMf), (RO), (ZM), (OF), (vv), (ww), (RW), (PV), (SQ), (RS), Or.inr (Or.inl ⟨rfl, rfl, hbas, hfin⟩), hfm, tCU1, h_o, h_cu, h_le, h_ta, h_dg, h_lt9, h_rm, h_ro9, h_ze, h_oq, h_fa, h_ve, h_ot, h_ro, h_pv9, h_sq, h_rs, hfr⟩
  · refine lv_if_ne (tgt := 28) hx hb d_M_run_23 (by decide) (fun h9 => absurd h9 (by decide)) (fun _ => ?_)
    refine lv_iconst (v := (-1)) hx hb d_M_run_26 (by decide) ?_
    refine mp_iret hx hb hr hlocks hI (Nat.le_of_ble_eq_true rfl) (Nat.le_of_ble_eq_true rfl) ?_ d_M_run_27
    exact ⟨(nI 0), (s0), (z0), (FV2), (CU2), (LF), (TB), (DG), (LE), (RMf), (RO), (ZM), (OF), (vv), (ww), (RW), (PV), (SQ), (RS), Or.inl ⟨rfl, rfl, hbas⟩, hfm, tCU1, h_o, h_cu, h_le, h_ta, h_dg, h_lt9, h_rm, h_ro9, h_ze, h_oq, h_fa, h_ve, h_ot, h_ro, h_pv9, h_sq, h_rs, hfr⟩
