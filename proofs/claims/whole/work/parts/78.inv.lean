/-! The law's world between two calls, in groups. -/
def gPs (g : Nat → ClassId) (eo : Nat → Nat) (cf : Nat → Nat → Nat) (S : mp_M) : Prop := ∃ (ek en cap pz : Nat → Nat) (kf nf : Nat → Nat → Int32), yS g 100 40 eo ek en cap pz kf nf S ∧ pG 40 cap pz kf nf cf
theorem gPs_kept {g : Nat → ClassId} {eo : Nat → Nat} {cf : Nat → Nat → Nat} {S S1 : mp_M} (h : gPs g eo cf S) (hk : ∀ b t e, S b = some (t, e) → 100 ≤ t → t < 220 → S1 b = S b) : gPs g eo cf S1 := by
  obtain ⟨ek, en, cap, pz, kf, nf, h1, h2⟩ := h
  exact ⟨ek, en, cap, pz, kf, nf, yS_kept h1 (fun b t e h9 k1 k2 => hk b t e h9 (by omega) (by omega)), h2⟩
def gLs (g : Nat → ClassId) (lo ma hd : Nat) (me : Nat → Nat) (n : Nat) (h : Nat → m3) (z : Nat → Nat) (mo : Nat → Nat → m3) (co : Nat → Nat → fF) (S : mp_M) : Prop := ∃ (mk mn mcap mz : Nat → Nat) (mkf mnf : Nat → Nat → Int32) (hf : Nat → Int32), S lo = some (2, .inr (9, [.ref ma, .ref hd, .int (nI n)])) ∧ S ma = some (4, .inl ((g 2), 12, .inr (.inr (.inr (.inr (rfs me 12)))))) ∧ S hd = some (5, .inl ((g 0), 12, .inl hf)) ∧ yS g 300 12 me mk mn mcap mz mkf mnf S ∧ (∀ i, i < 12 → mcap i ≤ 2048) ∧ lsB n h z mo co mcap mz mkf mnf hf
theorem gLs_kept {g : Nat → ClassId} {lo ma hd : Nat} {me : Nat → Nat} {n : Nat} {h : Nat → m3} {z : Nat → Nat} {mo : Nat → Nat → m3} {co : Nat → Nat → fF} {S S1 : mp_M} (H : gLs g lo ma hd me n h z mo co S) (hk : ∀ b t e, S b = some (t, e) → 2 ≤ t → (t = 2 ∨ t = 4 ∨ t = 5 ∨ (300 ≤ t ∧ t < 336)) → S1 b = S b) : gLs g lo ma hd me n h z mo co S1 := by
  obtain ⟨mk, mn, mcap, mz, mkf, mnf, hf, h1, h2, h3, h4, h5, h6⟩ := H
  exact ⟨mk, mn, mcap, mz, mkf, mnf, hf, (hk _ _ _ h1 (by decide) (by decide)).trans h1, (hk _ _ _ h2 (by decide) (by decide)).trans h2, (hk _ _ _ h3 (by decide) (by decide)).trans h3, yS_kept h4 (fun b t e h9 k1 k2 => hk b t e h9 (by omega) (by omega)), h5, h6⟩
def gMs (g : Nat → ClassId) (ad : Nat → Nat) (n : Nat) (h : Nat → m3) (z : Nat → Nat) (mo : Nat → Nat → m3) (co : Nat → Nat → fF) (S : mp_M) : Prop := ∃ (tf tpf tnf hf hif : Nat → Int32) (z2 : Nat → Nat) (mo2 : Nat → Nat → m3) (co2 : Nat → Nat → fF) (ld : Nat → fF), S (ad 2002) = some (2002, .inl ((g 0), 12, .inl tf)) ∧ S (ad 2003) = some (2003, .inl ((g 0), 12000, .inl tpf)) ∧ S (ad 2004) = some (2004, .inl ((g 0), 12000, .inl tnf)) ∧ S (ad 2005) = some (2005, .inl ((g 0), 12, .inl hf)) ∧ S (ad 2006) = some (2006, .inl ((g 0), 12, .inl hif)) ∧ lsM n h z mo co z2 mo2 co2 ld tf tpf tnf hf hif
theorem gMs_kept {g : Nat → ClassId} {ad : Nat → Nat} {n : Nat} {h : Nat → m3} {z : Nat → Nat} {mo : Nat → Nat → m3} {co : Nat → Nat → fF} {S S1 : mp_M} (H : gMs g ad n h z mo co S) (hk : ∀ b t e, S b = some (t, e) → 2002 ≤ t → t < 2007 → S1 b = S b) : gMs g ad n h z mo co S1 := by
  obtain ⟨tf, tpf, tnf, hf, hif, z2, mo2, co2, ld, h1, h2, h3, h4, h5, h6⟩ := H
  exact ⟨tf, tpf, tnf, hf, hif, z2, mo2, co2, ld, (hk _ _ _ h1 (by decide) (by decide)).trans h1, (hk _ _ _ h2 (by decide) (by decide)).trans h2, (hk _ _ _ h3 (by decide) (by decide)).trans h3, (hk _ _ _ h4 (by decide) (by decide)).trans h4, (hk _ _ _ h5 (by decide) (by decide)).trans h5, h6⟩
def gWs (g : Nat → ClassId) (ad : Nat → Nat) (S : mp_M) : Prop := ∃ (CU TB : Nat → fF) (RMf RO : Nat → Nat) (vv ww RW : Nat → fF) (PV : Nat → Int32) (SQ RS : Nat → fF), trn 21952 CU ∧ S (ad 2007) = some (2007, .inl ((g 0), 21952, .inl (fun j => nI (CU j).val))) ∧ S (ad 2009) = some (2009, .inl ((g 0), 768, .inl (fun j => nI (TB j).val))) ∧ S (ad 2012) = some (2012, .inl ((g 0), 3, .inl (fun j => nI (RMf j)))) ∧ S (ad 2013) = some (2013, .inl ((g 0), 51, .inl (fun j => nI (RO j)))) ∧ S (ad 2017) = some (2017, .inl ((g 0), 16, .inl (fun j => nI (vv j).val))) ∧ S (ad 2018) = some (2018, .inl ((g 0), 16, .inl (fun j => nI (ww j).val))) ∧ S (ad 2019) = some (2019, .inl ((g 0), 1700, .inl (fun j => nI (RW j).val))) ∧ S (ad 2020) = some (2020, .inl ((g 0), 64, .inl PV)) ∧ S (ad 2021) = some (2021, .inl ((g 0), 256, .inl (fun j => nI (SQ j).val))) ∧ S (ad 2022) = some (2022, .inl ((g 0), 256, .inl (fun j => nI (RS j).val)))
theorem gWs_kept {g : Nat → ClassId} {ad : Nat → Nat} {S S1 : mp_M} (H : gWs g ad S) (hk : ∀ b t e, S b = some (t, e) → 2007 ≤ t → (t = 2007 ∨ t = 2009 ∨ t = 2012 ∨ t = 2013 ∨ (2017 ≤ t ∧ t ≤ 2022)) → S1 b = S b) : gWs g ad S1 := by
  obtain ⟨CU, TB, RMf, RO, vv, ww, RW, PV, SQ, RS, h0, h1, h2, h3, h4, h5, h6, h7, h8, h9, h10⟩ := H
  exact ⟨CU, TB, RMf, RO, vv, ww, RW, PV, SQ, RS, h0, (hk _ _ _ h1 (by decide) (by decide)).trans h1, (hk _ _ _ h2 (by decide) (by decide)).trans h2, (hk _ _ _ h3 (by decide) (by decide)).trans h3, (hk _ _ _ h4 (by decide) (by decide)).trans h4, (hk _ _ _ h5 (by decide) (by decide)).trans h5, (hk _ _ _ h6 (by decide) (by decide)).trans h6, (hk _ _ _ h7 (by decide) (by decide)).trans h7, (hk _ _ _ h8 (by decide) (by decide)).trans h8, (hk _ _ _ h9 (by decide) (by decide)).trans h9, (hk _ _ _ h10 (by decide) (by decide)).trans h10⟩
def anP (g : Nat → ClassId) (nl n : Nat) (h : Nat → m3) (z : Nat → Nat) (mo : Nat → Nat → m3) (co : Nat → Nat → fF) (an av : Int32) (sv : Value) (kn s0 z0 : Int32) (LF DG : Nat → Nat) (LE ZM : Nat → fF) (OF : Nat → Nat) (S : mp_M) : Prop :=
  (an = 0 ∧ kn = nI 0 ∧ svS g nl sv S) ∨ (an = 1 ∧ roM n h z mo co nl av kn s0 z0 LF DG LE ZM OF ∧ ∃ (Av : vA) (Tv : vT), sv = .ref Av.vo ∧ vG g nl Av Tv S ∧ roB n h z mo co nl av Tv.s1 Tv.zc1 Tv.kQ Tv.dl Tv.CL Tv.ZZ Tv.MQ)
theorem svS_kept {g : Nat → ClassId} {nl : Nat} {v : Value} {S S1 : mp_M} (h : svS g nl v S) (hk : ∀ b t e, S b = some (t, e) → 10 ≤ t → (t < 40 ∨ (400 ≤ t ∧ t < 700)) → S1 b = S b) : svS g nl v S1 := by
  rcases h with h | ⟨Av, Tv, h1, h2⟩
  · exact Or.inl h
  · exact Or.inr ⟨Av, Tv, h1, vG_kept h2 hk⟩
theorem anP_kept {g : Nat → ClassId} {nl n : Nat} {h : Nat → m3} {z : Nat → Nat} {mo : Nat → Nat → m3} {co : Nat → Nat → fF} {an av : Int32} {sv : Value} {kn s0 z0 : Int32} {LF DG : Nat → Nat} {LE ZM : Nat → fF} {OF : Nat → Nat} {S S1 : mp_M} (H : anP g nl n h z mo co an av sv kn s0 z0 LF DG LE ZM OF S) (hk : ∀ b t e, S b = some (t, e) → 10 ≤ t → (t < 40 ∨ (400 ≤ t ∧ t < 700)) → S1 b = S b) : anP g nl n h z mo co an av sv kn s0 z0 LF DG LE ZM OF S1 := by
  rcases H with ⟨h1, h2, h3⟩ | ⟨h1, h2, Av, Tv, h3, h4, h5⟩
  · exact Or.inl ⟨h1, h2, svS_kept h3 hk⟩
  · exact Or.inr ⟨h1, h2, Av, Tv, h3, vG_kept h4 hk, h5⟩
theorem an_sv {g : Nat → ClassId} {nl n : Nat} {h : Nat → m3} {z : Nat → Nat} {mo : Nat → Nat → m3} {co : Nat → Nat → fF} {an av : Int32} {sv : Value} {kn s0 z0 : Int32} {LF DG : Nat → Nat} {LE ZM : Nat → fF} {OF : Nat → Nat} {S : mp_M} (H : anP g nl n h z mo co an av sv kn s0 z0 LF DG LE ZM OF S) : svS g nl sv S := by
  rcases H with ⟨_, _, h3⟩ | ⟨_, _, Av, Tv, h3, h4, _⟩
  · exact h3
  · exact Or.inr ⟨Av, Tv, h3, h4⟩
theorem an_opt {g : Nat → ClassId} {nl : Nat} {sv : Value} {S : mp_M} (H : svS g nl sv S) : ∃ so : Option Nat, sv = va_rf so := by
  rcases H with h | ⟨Av, Tv, h3, h4⟩
  · exact ⟨none, h⟩
  · exact ⟨some Av.vo, h3⟩
theorem an_kn {g : Nat → ClassId} {nl n : Nat} {h : Nat → m3} {z : Nat → Nat} {mo : Nat → Nat → m3} {co : Nat → Nat → fF} {an av : Int32} {sv : Value} {kn s0 z0 : Int32} {LF DG : Nat → Nat} {LE ZM : Nat → fF} {OF : Nat → Nat} {S : mp_M} (H : anP g nl n h z mo co an av sv kn s0 z0 LF DG LE ZM OF S) : (kn = nI 0 ∧ (an = 0 ∨ av < 0)) ∨ (kn = nI 1 ∧ an = 1 ∧ roM n h z mo co nl av kn s0 z0 LF DG LE ZM OF ∧ ∃ (Av : vA) (Tv : vT), sv = .ref Av.vo ∧ vG g nl Av Tv S ∧ roB n h z mo co nl av Tv.s1 Tv.zc1 Tv.kQ Tv.dl Tv.CL Tv.ZZ Tv.MQ) := by
  rcases H with ⟨h1, h2, _⟩ | ⟨h1, h2, h3⟩
  · exact Or.inl ⟨h2, Or.inl h1⟩
  · rcases ro_un h2 with ⟨q1, q2⟩ | q
    · exact Or.inl ⟨q1, Or.inr q2⟩
    · exact Or.inr ⟨q, h1, h2, h3⟩
def frR (nl n : Nat) (h : Nat → m3) (an ak fq : Int32) (FV ff : Nat → Int32) : Prop := (ak = nI 0 ∧ fq = nI 0 ∧ an = 0) ∨ (ak = nI 1 ∧ ∃ (n' : Nat) (h' : Nat → m3), (an = 1 → n' = n ∧ h' = h) ∧ frM nl n' (fun i => (h' i).1) (fun i => (h' i).2.1) (fun i => (h' i).2.2) 3 FV ∧ fq = nI (cntF (bndL n' (fun i => (h' i).1) (fun i => (h' i).2.1) (fun i => (h' i).2.2)) nl) ∧ frS (bndL n' (fun i => (h' i).1) (fun i => (h' i).2.1) (fun i => (h' i).2.2)) nl ff)
theorem frR_0 {nl n n2 : Nat} {h h2 : Nat → m3} {an ak fq : Int32} {FV ff : Nat → Int32} (H : frR nl n h an ak fq FV ff) : frR nl n2 h2 0 ak fq FV ff := by
  rcases H with ⟨h1, h3, _⟩ | ⟨h1, n', h', _, h4⟩
  · exact Or.inl ⟨h1, h3, rfl⟩
  · exact Or.inr ⟨h1, n', h', fun q => absurd q (by decide), h4⟩
theorem free_eq {nl n : Nat} {hA hB hC : Nat → Nat} {ff : Nat → Int32} {x r r2 : Int32} (hnl : nl ≤ 3) (hS : frS (bndL n hA hB hC) nl ff) (B : ((x < 0 ∨ nI (cntF (bndL n hA hB hC) nl) ≤ x) ∧ r = -1) ∨ ∃ k, k < cntF (bndL n hA hB hC) nl ∧ x = nI k ∧ r = ff k) (M : (∃ j, j < nl ∧ ¬ bndL n hA hB hC j ∧ x = nI (cntF (bndL n hA hB hC) j) ∧ r2 = nI j) ∨ (r2 = -1 ∧ ∀ j, j < nl → ¬ bndL n hA hB hC j → x ≠ nI (cntF (bndL n hA hB hC) j))) : r = r2 := by
  have hle := cntF_le (bndL n hA hB hC) nl
  rcases B with ⟨b1, b2⟩ | ⟨k, b1, b2, b3⟩
  · rcases M with ⟨j, m1, m2, m3, m4⟩ | ⟨m1, _⟩
    · exfalso
      have h1 := cnt_lt m1 m2
      rw [m3] at b1
      rcases b1 with b1 | b1
      · exact absurd b1 (nI_pos (by omega))
      · rw [nI_leI (by omega) (by omega)] at b1; omega
    · rw [b2, m1]
  · rcases M with ⟨j, m1, m2, m3, m4⟩ | ⟨m1, m2⟩
    · have h1 := cnt_lt m1 m2
      rw [b2] at m3
      have h2 := (nI_eq (by omega) (by omega)).mp m3
      rw [b3, m4, h2]; exact hS j m1 m2
    · obtain ⟨j, j1, j2, j3⟩ := cnt_ex b1
      exact absurd (by rw [b2, j3]) (m2 j j1 j2)

set_option maxHeartbeats 4000000 in
set_option maxRecDepth 100000 in
/-- take, in the reference: 12 are taken -/
theorem c_M_takeF (l : Launch) (D : mp_G) (g : Nat → ClassId) (S : mp_M) (sz : Nat) (o k9 : Nat) (mv0 mv1 mv4 mv5 mv6 mv7 mv8 mv9 mv10 mv11 mv12 mv13 mv14 mv15 mv16 mv17 mv18 mv19 mv20 mv21 mv22 mv23 mv24 mv25 mv26 mv27 mv28 mv29 mv30 : Value) (th : Int32) (h_o : S o = some (2000, .inr (10, [mv0, mv1, .int (nI 12), .int th, mv4, mv5, mv6, mv7, mv8, mv9, mv10, mv11, mv12, mv13, mv14, mv15, mv16, mv17, mv18, mv19, mv20, mv21, mv22, mv23, mv24, mv25, mv26, mv27, mv28, mv29, mv30]))) (hk9 : k9 < 40) : Met l y_M_take w_M_take ({ frames := 1, cells := 0, slots := 0, locals := 20 }) (va_Pc [.ref o, .int (nI k9)] (mp_B0 D classes (tys g) S sz)) (va_Qi (fun (r : Int32) (S1 : mp_M) => r = 0 ∧ S1 o = some (2000, .inr (10, [mv0, mv1, .int (nI 12), .int (nI 0), mv4, mv5, mv6, mv7, mv8, mv9, mv10, mv11, mv12, mv13, mv14, mv15, mv16, mv17, mv18, mv19, mv20, mv21, mv22, mv23, mv24, mv25, mv26, mv27, mv28, mv29, mv30])) ∧ (∀ b t e9, S b = some (t, e9) → (t ≠ 2000) → S1 b = some (t, e9))) (mp_B1 D classes S sz) (mp_A S sz)) 0 0 (mp_A S sz) := by
  refine Met.ofW (cc := b_M_take) (maxL := 6) (ret := (some .boolean)) (by decide) rfl ?_
  intro p e s m args below meth c s₁ B hml hv
  obtain ⟨rfl, hsz, hH, hK⟩ := hv
  have hx := B.exec
  have hb := B.bytes
  have hr := B.returns
  have hts := atoms_spec (ws := w_M_take) B.pre
  have hg : ∀ w ∈ gw, w.before _ s = true := fun w h => hts w (List.mem_cons_of_mem _ h)
  have hown : s.vm.findClass R_M = some m.cls := findClass_of_methodNamed B.named
  have hlocks := B.notSynchronized
  subst hsz
  have hI := mp_I.start hH
  have hl := lv_entry ([.ref o, .int (nI k9)]) (n := 6) (Nat.le_of_ble_eq_true rfl)
  rw [lg_entry_eq]
  generalize (lg_sl ([.ref o, .int (nI k9)]) ++ List.replicate (6 - (lg_sl ([.ref o, .int (nI k9)])).length) Slot.unset).toArray = ls at hl ⊢
  have hl : lv_has ls 6 [(0, .ref o), (1, .int (nI k9))] := hl
  have hfr : ∀ b t e9, S b = some (t, e9) → (t ≠ 2000) → S b = some (t, e9) := fun _ _ _ h9 _ => h9
  refine lv_aload_n hx hb d_M_take_0 rfl (lv_at hl 0 rfl) ?_
  refine lv_iload_n hx hb d_M_take_1 rfl (lv_at hl 1 rfl) ?_
  refine mp_calli hI (va_runS (As := [.int (nI k9)]) (rest := [.ref o]) ⟨hx, hb, hml, hown, hg⟩ (c_M_isPoly l D g S _ k9 hk9) ⟨(callB_of 1 hg (wd_goodG q_913) rfl rfl rfl (hg _ q_5) (hg _ q_911) (by decide +kernel) ⟨Nat.le_of_ble_eq_true rfl, Nat.le_of_ble_eq_true rfl⟩), hg _ q_912⟩ (mp_pre hI hK [.int (nI k9)]) rfl rfl hl.1 rfl (lv_room (Nat.le_of_ble_eq_true rfl)) d_M_take_2 ⟨Nat.le_of_ble_eq_true rfl, Nat.le_of_ble_eq_true rfl⟩) (fun r4 S1 H2 locs p_3 hI => ?_)
  obtain ⟨er4, eS5⟩ := p_3
  rw [eS5] at hI
  have er4 : r4 = 1 := er4
  subst er4
  refine lv_if_eq (tgt := 12) hx hb d_M_take_5 (by decide) (fun h9 => absurd h9 (by decide)) (fun _ => ?_)
  refine lv_iconst (v := nI 0) hx hb d_M_take_8 (by decide) ?_
  refine lv_goto (tgt := 13) hx hb d_M_take_9 (by decide) ?_
  refine mp_put (C := R_M) (T := F_M) (N := 31) (v := .int (nI 0)) (ty := .int) hx hb hg i_M t_M t_M_ok n_M hown hK.va hI h_o rfl 3 (by decide) (hg _ q_807) (fun _ h9 => h9) rfl (by decide +kernel) (rfl) rfl (Nat.le_of_ble_eq_true rfl) d_M_take_13 (fun S6 H7 locs e_8 hI => ?_)
  have h_o_o := h_o
  have e_8 : S6 = va_up S o (some (2000, .inr (10, [mv0, mv1, .int (nI 12), .int (nI 0), mv4, mv5, mv6, mv7, mv8, mv9, mv10, mv11, mv12, mv13, mv14, mv15, mv16, mv17, mv18, mv19, mv20, mv21, mv22, mv23, mv24, mv25, mv26, mv27, mv28, mv29, mv30]))) := e_8
  have h_o : S6 o = some (2000, .inr (10, [mv0, mv1, .int (nI 12), .int (nI 0), mv4, mv5, mv6, mv7, mv8, mv9, mv10, mv11, mv12, mv13, mv14, mv15, mv16, mv17, mv18, mv19, mv20, mv21, mv22, mv23, mv24, mv25, mv26, mv27, mv28, mv29, mv30])) := by rw [e_8]; exact mp_us _ _ _
  have hfr : ∀ b t e9, S b = some (t, e9) → (t ≠ 2000) → S6 b = some (t, e9) := fun b t e9 h9 k0 => by rw [e_8]; exact mp_keep (hfr b t e9 h9 k0) h_o_o (by omega)
  refine lv_aload_n hx hb d_M_take_16 rfl (lv_at hl 0 rfl) ?_
  refine mp_get (C := R_M) (T := F_M) (N := 31) (v := .int (nI 0)) hx hb hg i_M hown hK.va hI h_o rfl 3 (by decide) (hg _ q_807) (fun _ h9 => h9) rfl d_M_take_17 ?_
  refine lv_if_ne (tgt := 32) hx hb d_M_take_20 (by decide) (fun h9 => absurd h9 (by decide)) (fun _ => ?_)
  refine lv_aload_n hx hb d_M_take_23 rfl (lv_at hl 0 rfl) ?_
  refine mp_get (C := R_M) (T := F_M) (N := 31) (v := .int (nI 12)) hx hb hg i_M hown hK.va hI h_o rfl 2 (by decide) (hg _ q_806) (fun _ h9 => h9) rfl d_M_take_24 ?_
  refine lv_bipush (v := nI 12) hx hb d_M_take_27 (by decide) ?_
  refine lv_icmp_ne (tgt := 34) hx hb d_M_take_29 (by decide) (fun h9 => absurd h9 (fun h9 => h9 rfl)) (fun _ => ?_)
  refine lv_iconst (v := nI 0) hx hb d_M_take_32 (by decide) ?_
  refine mp_zret hx hb hr hlocks hI (Nat.le_of_ble_eq_true rfl) (Nat.le_of_ble_eq_true rfl) ?_ (by decide) d_M_take_33
  exact ⟨rfl, h_o, hfr⟩
def lawI (g : Nat → ClassId) (nl o mo oa : Nat) (S : mp_M) : Prop := ∃ (pa : Nat) (lo : Nat) (fa0 : Nat) (ma : Nat) (hd : Nat) (eo : Nat → Nat) (me : Nat → Nat) (ad : Nat → Nat) (cf : Nat → Nat → Nat) (gv : Nat) (tk : Nat) (n : Nat) (fq : Int32) (an : Int32) (av : Int32) (sv : Value) (ff : Nat → Int32) (hq : Nat → m3) (zq : Nat → Nat) (mq : Nat → Nat → m3) (cq : Nat → Nat → fF) (th : Int32) (kn : Int32) (ak : Int32) (s0 : Int32) (z0 : Int32) (PO : Nat → fF) (LF : Nat → Nat) (DG : Nat → Nat) (LE : Nat → fF) (ZM : Nat → fF) (OF : Nat → Nat) (FV : Nat → Int32) (of : Nat → Int64), S o = some (0, .inr (0, [.int (nI nl), .ref pa, .ref lo, .ref fa0, .int (nI gv), .int (nI tk), .int fq, .int an, .int av, sv])) ∧ S pa = some (1, .inl ((g 2), 40, .inr (.inr (.inr (.inr (rfs eo 40)))))) ∧ S fa0 = some (3, .inl ((g 0), 3, .inl ff)) ∧ S oa = some (9, .inl ((g 4), 1, .inr (.inl of))) ∧ S mo = some (2000, .inr (10, [.int (nI nl), .int (nI gv), .int (nI tk), .int th, .ref (ad 2001), .int (nI n), .ref (ad 2002), .ref (ad 2003), .ref (ad 2004), .ref (ad 2005), .ref (ad 2006), .ref (ad 2007), .int kn, .int ak, .int s0, .ref (ad 2008), .ref (ad 2009), .ref (ad 2010), .ref (ad 2011), .ref (ad 2012), .ref (ad 2013), .int z0, .ref (ad 2014), .ref (ad 2015), .ref (ad 2016), .ref (ad 2017), .ref (ad 2018), .ref (ad 2019), .ref (ad 2020), .ref (ad 2021), .ref (ad 2022)])) ∧ S (ad 2001) = some (2001, .inl ((g 0), 40000, .inl (fun j => nI (PO j).val))) ∧ S (ad 2008) = some (2008, .inl ((g 0), 17, .inl (fun j => nI (LF j)))) ∧ S (ad 2010) = some (2010, .inl ((g 0), 3, .inl (fun j => nI (DG j)))) ∧ S (ad 2011) = some (2011, .inl ((g 0), 51, .inl (fun j => nI (LE j).val))) ∧ S (ad 2014) = some (2014, .inl ((g 0), 51, .inl (fun j => nI (ZM j).val))) ∧ S (ad 2015) = some (2015, .inl ((g 0), 17, .inl (fun j => nI (OF j)))) ∧ S (ad 2016) = some (2016, .inl ((g 5), 3, .inl FV)) ∧ (gPs g eo cf S) ∧ (gLs g lo ma hd me n hq zq mq cq S) ∧ (gMs g ad n hq zq mq cq S) ∧ (gWs g ad S) ∧ (anP g nl n hq zq mq cq an av sv kn s0 z0 LF DG LE ZM OF S) ∧ (gv ≤ 40) ∧ (tk ≤ 12) ∧ (n ≤ tk) ∧ (plR cf PO) ∧ (plI nl cf) ∧ (∀ i, i < n → ∀ k, k < zq i → InL nl (mq i k)) ∧ (frR nl n hq an ak fq FV ff)
set_option maxHeartbeats 8000000 in
set_option maxRecDepth 100000 in
/-- poly -/
theorem lk_poly {p : Program} {l : Launch} {e : Env} {s : State} {m : MethodId} {below : List Frame} {meth : Method} {c : Code} {Q : State → Prop} {D : mp_G} {g : Nat → ClassId} {A : Nat → Prop} {b L i : Nat} {xs : Nat → Int32} {cells slots : Nat} {S : mp_M} {H : Heap} {locs : List Loc} {ls : Array Slot} (hx : p.tables.exec = Jvm.exec) (hb : c.code = b_L_law) (hml : c.maxLocals = 7) (hts : ∀ w ∈ lw_tbl, w.before #[Value.ref b] s = true) (hg : ∀ w ∈ gw, w.before #[Value.ref b] s = true) (hown : s.vm.findClass R_L = some m.cls) (hK : mp_K D classes (tys g) s) (hX : va_X b L xs D.2.1 D.2.1.heap) (hL9 : L ≤ 3585) (hi : i + 6 < L) (hc : cells + 189 ≤ room_1.cells) (hs9 : slots + 11130 ≤ room_1.slots) (hl9 : l.stackTraces = false) {nl oa mo o : Nat} (hnl : nl ≤ 3) (hn1 : 1 ≤ nl) (hV : lawI g nl o mo oa S) (hI : mp_I D classes A s.heap S H locs) (hl : lv_has ls 7 [(4, .int (nI i)), (3, .ref oa), (2, .ref mo), (1, .ref o), (0, .ref b)]) (kx : ∀ (S : mp_M) (H : Heap) (locs : List Loc) (ls : Array Slot), lawI g nl o mo oa S → mp_I D classes A s.heap S H locs → lv_has ls 7 [(4, .int (nI i)), (3, .ref oa), (2, .ref mo), (1, .ref o), (0, .ref b)] → W p l e room_1 s m #[Value.ref b] below meth c H locs (cells + 189) (slots + 11130) Q (F0 m 822 ls [])) : W p l e room_1 s m #[Value.ref b] below meth c H locs (cells) (slots) Q (F0 m 116 ls []) := by
  have hc : cells + 189 ≤ 164015 := hc
  have hs9 : slots + 11130 ≤ 8604026 := hs9
  obtain ⟨pa, lo, fa0, ma, hd, eo, me, ad, cf, gv, tk, n, fq, an, av, sv, ff, hq, zq, mq, cq, th, kn, ak, s0, z0, PO, LF, DG, LE, ZM, OF, FV, of, h_o, h_pa, h_fa0, h_oa, h_mo, h_mp, h_le, h_dg, h_lt, h_ze, h_oq, h_fv, hP, hL, hM, hWk, hA, hgv, htk, hnt, hR, hI9, hIn, hF9⟩ := hV
  by_cases hg9 : gv < 40
  · obtain ⟨ek, en, cap, pz, kf, nf, hE, hG⟩ := hP
    refine lv_aload_n hx hb d_L_law_116 rfl (lv_at hl 3 rfl) ?_
    refine lv_aload_n hx hb d_L_law_117 rfl (lv_at hl 1 rfl) ?_
    obtain ⟨y1, y2, y3⟩ := hE gv hg9
    refine mp_calli hI (lw_runS (As := [.ref o, .ref oa]) (rest := []) ⟨hx, hb, hml, hown, hg⟩ (c_L_poly l D g S _ o pa gv (.int (nI nl)) (.ref lo) (.ref fa0) (.int (nI tk)) (.int fq) (.int an) (.int av) (sv) eo ek en cap pz kf nf oa of h_o h_pa h_oa hE hg9) ⟨callBW_of 2 hg (hts _ q_544) rfl rfl (hg _ q_0) (hg _ q_542) (by decide +kernel) ⟨Nat.le_of_ble_eq_true rfl, Nat.le_of_ble_eq_true rfl⟩, hg _ q_543⟩ (mp_pre hI hK [.ref o, .ref oa]) rfl rfl hl.1 rfl (lv_room (Nat.le_of_ble_eq_true rfl)) d_L_law_118 ⟨by omega, by omega⟩) (fun r4 S1 H2 locs p_3 hI => ?_)
    obtain ⟨er4, q_o, hE1, fr, f1, q_oa, hf1⟩ := p_3
    have er4 : r4 = nI 0 := er4
    subst er4
    have y1b := (hE1 gv hg9).1
    have h_pa : S1 pa = some (1, .inl ((g 2), 40, .inr (.inr (.inr (.inr (rfs eo 40)))))) := (fr pa (mp_in h_pa) (mp_ne h_pa h_o (by omega)) (mp_ne h_pa y1 (by omega)) (mp_ne h_pa h_oa (by omega))).trans h_pa
    have h_fa0 : S1 fa0 = some (3, .inl ((g 0), 3, .inl ff)) := (fr fa0 (mp_in h_fa0) (mp_ne h_fa0 h_o (by omega)) (mp_ne h_fa0 y1 (by omega)) (mp_ne h_fa0 h_oa (by omega))).trans h_fa0
    have h_mo : S1 mo = some (2000, .inr (10, [.int (nI nl), .int (nI gv), .int (nI tk), .int th, .ref (ad 2001), .int (nI n), .ref (ad 2002), .ref (ad 2003), .ref (ad 2004), .ref (ad 2005), .ref (ad 2006), .ref (ad 2007), .int kn, .int ak, .int s0, .ref (ad 2008), .ref (ad 2009), .ref (ad 2010), .ref (ad 2011), .ref (ad 2012), .ref (ad 2013), .int z0, .ref (ad 2014), .ref (ad 2015), .ref (ad 2016), .ref (ad 2017), .ref (ad 2018), .ref (ad 2019), .ref (ad 2020), .ref (ad 2021), .ref (ad 2022)])) := (fr mo (mp_in h_mo) (mp_ne h_mo h_o (by omega)) (mp_ne h_mo y1 (by omega)) (mp_ne h_mo h_oa (by omega))).trans h_mo
    have h_mp : S1 (ad 2001) = some (2001, .inl ((g 0), 40000, .inl (fun j => nI (PO j).val))) := (fr (ad 2001) (mp_in h_mp) (mp_ne h_mp h_o (by omega)) (mp_ne h_mp y1 (by omega)) (mp_ne h_mp h_oa (by omega))).trans h_mp
    have h_le : S1 (ad 2008) = some (2008, .inl ((g 0), 17, .inl (fun j => nI (LF j)))) := (fr (ad 2008) (mp_in h_le) (mp_ne h_le h_o (by omega)) (mp_ne h_le y1 (by omega)) (mp_ne h_le h_oa (by omega))).trans h_le
    have h_dg : S1 (ad 2010) = some (2010, .inl ((g 0), 3, .inl (fun j => nI (DG j)))) := (fr (ad 2010) (mp_in h_dg) (mp_ne h_dg h_o (by omega)) (mp_ne h_dg y1 (by omega)) (mp_ne h_dg h_oa (by omega))).trans h_dg
    have h_lt : S1 (ad 2011) = some (2011, .inl ((g 0), 51, .inl (fun j => nI (LE j).val))) := (fr (ad 2011) (mp_in h_lt) (mp_ne h_lt h_o (by omega)) (mp_ne h_lt y1 (by omega)) (mp_ne h_lt h_oa (by omega))).trans h_lt
    have h_ze : S1 (ad 2014) = some (2014, .inl ((g 0), 51, .inl (fun j => nI (ZM j).val))) := (fr (ad 2014) (mp_in h_ze) (mp_ne h_ze h_o (by omega)) (mp_ne h_ze y1 (by omega)) (mp_ne h_ze h_oa (by omega))).trans h_ze
    have h_oq : S1 (ad 2015) = some (2015, .inl ((g 0), 17, .inl (fun j => nI (OF j)))) := (fr (ad 2015) (mp_in h_oq) (mp_ne h_oq h_o (by omega)) (mp_ne h_oq y1 (by omega)) (mp_ne h_oq h_oa (by omega))).trans h_oq
    have h_fv : S1 (ad 2016) = some (2016, .inl ((g 5), 3, .inl FV)) := (fr (ad 2016) (mp_in h_fv) (mp_ne h_fv h_o (by omega)) (mp_ne h_fv y1 (by omega)) (mp_ne h_fv h_oa (by omega))).trans h_fv
    have hL := gLs_kept hL (S1 := S1) (fun b t9 e9 hb9 h1 h2 => by have h8 : S1 b = some (t9, e9) := (fr b (mp_in hb9) (mp_ne hb9 h_o (by omega)) (mp_ne hb9 y1 (by omega)) (mp_ne hb9 h_oa (by omega))).trans hb9; rw [h8, hb9])
    have hM := gMs_kept hM (S1 := S1) (fun b t9 e9 hb9 h1 h2 => by have h8 : S1 b = some (t9, e9) := (fr b (mp_in hb9) (mp_ne hb9 h_o (by omega)) (mp_ne hb9 y1 (by omega)) (mp_ne hb9 h_oa (by omega))).trans hb9; rw [h8, hb9])
    have hWk := gWs_kept hWk (S1 := S1) (fun b t9 e9 hb9 h1 h2 => by have h8 : S1 b = some (t9, e9) := (fr b (mp_in hb9) (mp_ne hb9 h_o (by omega)) (mp_ne hb9 y1 (by omega)) (mp_ne hb9 h_oa (by omega))).trans hb9; rw [h8, hb9])
    have hA := anP_kept hA (S1 := S1) (fun b t9 e9 hb9 h1 h2 => by have h8 : S1 b = some (t9, e9) := (fr b (mp_in hb9) (mp_ne hb9 h_o (by omega)) (mp_ne hb9 y1 (by omega)) (mp_ne hb9 h_oa (by omega))).trans hb9; rw [h8, hb9])
    have h_o := q_o
    have h_oa := q_oa
    have hP : gPs g eo (va_up cf gv (fun _ => 0)) S1 := ⟨ek, en, cap, _, kf, nf, hE1, pG_zero hG gv⟩
    refine lv_istore (lv' := [(5, .int (nI 0)), (4, .int (nI i)), (3, .ref oa), (2, .ref mo), (1, .ref o), (0, .ref b)]) hx hb d_L_law_121 hl (by decide) rfl (fun ls hl => ?_)
    refine lv_aload_n hx hb d_L_law_123 rfl (lv_at hl 3 rfl) ?_
    refine mp_calli hI (va_runV (As := []) (rest := []) ⟨hx, hb, hml, hown, hg⟩ (c_M_poly l D g S1 _ mo (ad 2001) gv (.int (nI nl)) (.int (nI tk)) (.int (nI n)) (.ref (ad 2002)) (.ref (ad 2003)) (.ref (ad 2004)) (.ref (ad 2005)) (.ref (ad 2006)) (.ref (ad 2007)) (.int kn) (.int ak) (.int s0) (.ref (ad 2008)) (.ref (ad 2009)) (.ref (ad 2010)) (.ref (ad 2011)) (.ref (ad 2012)) (.ref (ad 2013)) (.int z0) (.ref (ad 2014)) (.ref (ad 2015)) (.ref (ad 2016)) (.ref (ad 2017)) (.ref (ad 2018)) (.ref (ad 2019)) (.ref (ad 2020)) (.ref (ad 2021)) (.ref (ad 2022)) th (fun j => nI (PO j).val) h_mo h_mp hg9) ⟨(callB_of 0 hg (wd_goodG q_906) rfl rfl rfl (hg _ q_5) (hg _ q_903) (by decide +kernel) ⟨Nat.le_of_ble_eq_true rfl, Nat.le_of_ble_eq_true rfl⟩), hg _ q_904, hg _ q_905⟩ (mp_preV (C := R_M) (T := F_M) hI hK h_mo rfl []) rfl rfl hl.1 rfl (lv_room (Nat.le_of_ble_eq_true rfl)) d_L_law_124 ⟨by omega, by omega⟩) (fun r8 S5 H6 locs p_7 hI => ?_)
    obtain ⟨er8, q_mo, q_mp, fr⟩ := p_7
    rw [zr_F] at q_mp
    have h_o : S5 o = some (0, .inr (0, [.int (nI nl), .ref pa, .ref lo, .ref fa0, .int (nI (gv + 1)), .int (nI tk), .int fq, .int an, .int av, sv])) := (fr o (mp_in h_o) (mp_ne h_o h_mo (by omega)) (mp_ne h_o h_mp (by omega))).trans h_o
    have h_pa : S5 pa = some (1, .inl ((g 2), 40, .inr (.inr (.inr (.inr (rfs eo 40)))))) := (fr pa (mp_in h_pa) (mp_ne h_pa h_mo (by omega)) (mp_ne h_pa h_mp (by omega))).trans h_pa
    have h_fa0 : S5 fa0 = some (3, .inl ((g 0), 3, .inl ff)) := (fr fa0 (mp_in h_fa0) (mp_ne h_fa0 h_mo (by omega)) (mp_ne h_fa0 h_mp (by omega))).trans h_fa0
    have h_oa : S5 oa = some (9, .inl ((g 4), 1, .inr (.inl f1))) := (fr oa (mp_in h_oa) (mp_ne h_oa h_mo (by omega)) (mp_ne h_oa h_mp (by omega))).trans h_oa
    have h_le : S5 (ad 2008) = some (2008, .inl ((g 0), 17, .inl (fun j => nI (LF j)))) := (fr (ad 2008) (mp_in h_le) (mp_ne h_le h_mo (by omega)) (mp_ne h_le h_mp (by omega))).trans h_le
    have h_dg : S5 (ad 2010) = some (2010, .inl ((g 0), 3, .inl (fun j => nI (DG j)))) := (fr (ad 2010) (mp_in h_dg) (mp_ne h_dg h_mo (by omega)) (mp_ne h_dg h_mp (by omega))).trans h_dg
    have h_lt : S5 (ad 2011) = some (2011, .inl ((g 0), 51, .inl (fun j => nI (LE j).val))) := (fr (ad 2011) (mp_in h_lt) (mp_ne h_lt h_mo (by omega)) (mp_ne h_lt h_mp (by omega))).trans h_lt
    have h_ze : S5 (ad 2014) = some (2014, .inl ((g 0), 51, .inl (fun j => nI (ZM j).val))) := (fr (ad 2014) (mp_in h_ze) (mp_ne h_ze h_mo (by omega)) (mp_ne h_ze h_mp (by omega))).trans h_ze
    have h_oq : S5 (ad 2015) = some (2015, .inl ((g 0), 17, .inl (fun j => nI (OF j)))) := (fr (ad 2015) (mp_in h_oq) (mp_ne h_oq h_mo (by omega)) (mp_ne h_oq h_mp (by omega))).trans h_oq
    have h_fv : S5 (ad 2016) = some (2016, .inl ((g 5), 3, .inl FV)) := (fr (ad 2016) (mp_in h_fv) (mp_ne h_fv h_mo (by omega)) (mp_ne h_fv h_mp (by omega))).trans h_fv
    have hL := gLs_kept hL (S1 := S5) (fun b t9 e9 hb9 h1 h2 => by have h8 : S5 b = some (t9, e9) := (fr b (mp_in hb9) (mp_ne hb9 h_mo (by omega)) (mp_ne hb9 h_mp (by omega))).trans hb9; rw [h8, hb9])
    have hM := gMs_kept hM (S1 := S5) (fun b t9 e9 hb9 h1 h2 => by have h8 : S5 b = some (t9, e9) := (fr b (mp_in hb9) (mp_ne hb9 h_mo (by omega)) (mp_ne hb9 h_mp (by omega))).trans hb9; rw [h8, hb9])
    have hWk := gWs_kept hWk (S1 := S5) (fun b t9 e9 hb9 h1 h2 => by have h8 : S5 b = some (t9, e9) := (fr b (mp_in hb9) (mp_ne hb9 h_mo (by omega)) (mp_ne hb9 h_mp (by omega))).trans hb9; rw [h8, hb9])
    have hA := anP_kept hA (S1 := S5) (fun b t9 e9 hb9 h1 h2 => by have h8 : S5 b = some (t9, e9) := (fr b (mp_in hb9) (mp_ne hb9 h_mo (by omega)) (mp_ne hb9 h_mp (by omega))).trans hb9; rw [h8, hb9])
    have hP := gPs_kept hP (S1 := S5) (fun b t9 e9 hb9 h1 h2 => by have h8 : S5 b = some (t9, e9) := (fr b (mp_in hb9) (mp_ne hb9 h_mo (by omega)) (mp_ne hb9 h_mp (by omega))).trans hb9; rw [h8, hb9])
    have h_mo := q_mo
    have h_mp := q_mp
    refine lv_istore (lv' := [(6, .int r8), (5, .int (nI 0)), (4, .int (nI i)), (3, .ref oa), (2, .ref mo), (1, .ref o), (0, .ref b)]) hx hb d_L_law_127 hl (by decide) rfl (fun ls hl => ?_)
    refine lv_aload_n hx hb d_L_law_129 rfl (lv_at hl 4 rfl) ?_
    refine mp_calli hI (va_runV (As := []) (rest := []) ⟨hx, hb, hml, hown, hg⟩ (c_M_thrown l D g S5 _ mo (.int (nI nl)) (.int (nI (gv + 1))) (.int (nI tk)) (.ref (ad 2001)) (.int (nI n)) (.ref (ad 2002)) (.ref (ad 2003)) (.ref (ad 2004)) (.ref (ad 2005)) (.ref (ad 2006)) (.ref (ad 2007)) (.int kn) (.int ak) (.int s0) (.ref (ad 2008)) (.ref (ad 2009)) (.ref (ad 2010)) (.ref (ad 2011)) (.ref (ad 2012)) (.ref (ad 2013)) (.int z0) (.ref (ad 2014)) (.ref (ad 2015)) (.ref (ad 2016)) (.ref (ad 2017)) (.ref (ad 2018)) (.ref (ad 2019)) (.ref (ad 2020)) (.ref (ad 2021)) (.ref (ad 2022)) (nI 0) h_mo) ⟨(callB_of 0 hg (wd_goodG q_902) rfl rfl rfl (hg _ q_5) (hg _ q_899) (by decide +kernel) ⟨Nat.le_of_ble_eq_true rfl, Nat.le_of_ble_eq_true rfl⟩), hg _ q_900, hg _ q_901⟩ (mp_preV (C := R_M) (T := F_M) hI hK h_mo rfl []) rfl rfl hl.1 rfl (lv_room (Nat.le_of_ble_eq_true rfl)) d_L_law_130 ⟨by omega, by omega⟩) (fun r12 S9 H10 locs p_11 hI => ?_)
    obtain ⟨er12, eS13⟩ := p_11
    rw [eS13] at hI
    have er12 : r12 = nI 0 := er12
    subst er12
    refine lv_iload hx hb d_L_law_133 (lv_at hl 1 rfl) ?_
    refine lv_icmp_eq (tgt := 140) hx hb d_L_law_135 (by decide) (fun _ => ?_) (fun h9 => absurd (rfl) h9)
    refine lv_iload hx hb d_L_law_140 (lv_at hl 1 rfl) ?_
    refine lv_if_ne (tgt := 157) hx hb d_L_law_142 (by decide) (fun h9 => absurd h9 (by decide)) (fun _ => ?_)
    refine lv_aload_n hx hb d_L_law_145 rfl (lv_at hl 3 rfl) ?_
    refine lv_iconst (v := nI 0) hx hb d_L_law_146 (by decide) ?_
    refine mp_lald hx hb hK.va hI 4 h_oa rfl (vp_in_nI (by decide) (by decide)) d_L_law_147 ?_
    refine lv_topl (fun v14 ev14 => ?_)
    obtain rfl : v14 = lN gv := ev14.trans (hf1)
    refine lv_iload hx hb d_L_law_148 (lv_at hl 0 rfl) ?_
    refine lv_i2l (v := (r8).toInt64) hx hb d_L_law_150 rfl ?_
    refine W.lcmp hx hb d_L_law_151 ?_
    refine lv_if_eq (tgt := 157) hx hb d_L_law_152 (by decide) (fun _ => ?_) (fun h9 => absurd (lg_same (by rw [er8]; exact (nI_l (by omega)).symm)) h9)
    refine lv_goto (tgt := 822) hx hb d_L_law_157 (by decide) ?_
    refine W.widen (k := cells + 189) (n := slots + 11130) (by omega) (by omega) ?_
    exact kx S5 _ _ ls ⟨(pa), (lo), (fa0), (ma), (hd), (eo), (me), (ad), ((va_up cf gv (fun _ => 0))), ((gv + 1)), (tk), (n), (fq), (an), (av), (sv), (ff), (hq), (zq), (mq), (cq), (nI 0), (kn), (ak), (s0), (z0), ((fun j => if 1000 * gv ≤ j ∧ j < 1000 * gv + 1000 then 0 else PO j)), (LF), (DG), (LE), (ZM), (OF), (FV), (f1), h_o, h_pa, h_fa0, h_oa, h_mo, h_mp, h_le, h_dg, h_lt, h_ze, h_oq, h_fv, hP, hL, hM, hWk, hA, (by omega), htk, hnt, (plR_zero hR gv), (plI_zero hI9 gv), hIn, hF9⟩ hI (lv_sub hl [2, 3, 4, 5, 6] rfl)
  · obtain rfl : gv = 40 := by omega
    refine lv_aload_n hx hb d_L_law_116 rfl (lv_at hl 3 rfl) ?_
    refine lv_aload_n hx hb d_L_law_117 rfl (lv_at hl 1 rfl) ?_
    refine mp_calli hI (lw_runS (As := [.ref o, .ref oa]) (rest := []) ⟨hx, hb, hml, hown, hg⟩ (c_L_polyX l D g S _ o pa (.int (nI nl)) (.ref lo) (.ref fa0) (.int (nI tk)) (.int fq) (.int an) (.int av) (sv) (nI 40) oa of h_o h_oa hl9 (Or.inr (Int32.le_refl _))) ⟨callBW_of 2 hg (hts _ q_544) rfl rfl (hg _ q_0) (hg _ q_542) (by decide +kernel) ⟨Nat.le_of_ble_eq_true rfl, Nat.le_of_ble_eq_true rfl⟩, hg _ q_543⟩ (mp_pre hI hK [.ref o, .ref oa]) rfl rfl hl.1 rfl (lv_room (Nat.le_of_ble_eq_true rfl)) d_L_law_118 ⟨by omega, by omega⟩) (fun r18 S15 H16 locs p_17 hI => ?_)
    obtain ⟨er18, eS19⟩ := p_17
    rw [eS19] at hI
    have er18 : r18 = nI 1 := er18
    subst er18
    refine lv_istore (lv' := [(5, .int (nI 1)), (4, .int (nI i)), (3, .ref oa), (2, .ref mo), (1, .ref o), (0, .ref b)]) hx hb d_L_law_121 hl (by decide) rfl (fun ls hl => ?_)
    refine lv_aload_n hx hb d_L_law_123 rfl (lv_at hl 3 rfl) ?_
    refine mp_calli hI (va_runV (As := []) (rest := []) ⟨hx, hb, hml, hown, hg⟩ (c_M_polyX l D g S _ mo (.int (nI nl)) (.int (nI tk)) (.ref (ad 2001)) (.int (nI n)) (.ref (ad 2002)) (.ref (ad 2003)) (.ref (ad 2004)) (.ref (ad 2005)) (.ref (ad 2006)) (.ref (ad 2007)) (.int kn) (.int ak) (.int s0) (.ref (ad 2008)) (.ref (ad 2009)) (.ref (ad 2010)) (.ref (ad 2011)) (.ref (ad 2012)) (.ref (ad 2013)) (.int z0) (.ref (ad 2014)) (.ref (ad 2015)) (.ref (ad 2016)) (.ref (ad 2017)) (.ref (ad 2018)) (.ref (ad 2019)) (.ref (ad 2020)) (.ref (ad 2021)) (.ref (ad 2022)) th h_mo) ⟨(callB_of 0 hg (wd_goodG q_906) rfl rfl rfl (hg _ q_5) (hg _ q_903) (by decide +kernel) ⟨Nat.le_of_ble_eq_true rfl, Nat.le_of_ble_eq_true rfl⟩), hg _ q_904, hg _ q_905⟩ (mp_preV (C := R_M) (T := F_M) hI hK h_mo rfl []) rfl rfl hl.1 rfl (lv_room (Nat.le_of_ble_eq_true rfl)) d_L_law_124 ⟨by omega, by omega⟩) (fun r23 S20 H21 locs p_22 hI => ?_)
    obtain ⟨q_mo, fr⟩ := p_22
    have h_o : S20 o = some (0, .inr (0, [.int (nI nl), .ref pa, .ref lo, .ref fa0, .int (nI 40), .int (nI tk), .int fq, .int an, .int av, sv])) := (fr o (mp_in h_o) (mp_ne h_o h_mo (by omega))).trans h_o
    have h_pa : S20 pa = some (1, .inl ((g 2), 40, .inr (.inr (.inr (.inr (rfs eo 40)))))) := (fr pa (mp_in h_pa) (mp_ne h_pa h_mo (by omega))).trans h_pa
    have h_fa0 : S20 fa0 = some (3, .inl ((g 0), 3, .inl ff)) := (fr fa0 (mp_in h_fa0) (mp_ne h_fa0 h_mo (by omega))).trans h_fa0
    have h_oa : S20 oa = some (9, .inl ((g 4), 1, .inr (.inl of))) := (fr oa (mp_in h_oa) (mp_ne h_oa h_mo (by omega))).trans h_oa
    have h_mp : S20 (ad 2001) = some (2001, .inl ((g 0), 40000, .inl (fun j => nI (PO j).val))) := (fr (ad 2001) (mp_in h_mp) (mp_ne h_mp h_mo (by omega))).trans h_mp
    have h_le : S20 (ad 2008) = some (2008, .inl ((g 0), 17, .inl (fun j => nI (LF j)))) := (fr (ad 2008) (mp_in h_le) (mp_ne h_le h_mo (by omega))).trans h_le
    have h_dg : S20 (ad 2010) = some (2010, .inl ((g 0), 3, .inl (fun j => nI (DG j)))) := (fr (ad 2010) (mp_in h_dg) (mp_ne h_dg h_mo (by omega))).trans h_dg
    have h_lt : S20 (ad 2011) = some (2011, .inl ((g 0), 51, .inl (fun j => nI (LE j).val))) := (fr (ad 2011) (mp_in h_lt) (mp_ne h_lt h_mo (by omega))).trans h_lt
    have h_ze : S20 (ad 2014) = some (2014, .inl ((g 0), 51, .inl (fun j => nI (ZM j).val))) := (fr (ad 2014) (mp_in h_ze) (mp_ne h_ze h_mo (by omega))).trans h_ze
    have h_oq : S20 (ad 2015) = some (2015, .inl ((g 0), 17, .inl (fun j => nI (OF j)))) := (fr (ad 2015) (mp_in h_oq) (mp_ne h_oq h_mo (by omega))).trans h_oq
    have h_fv : S20 (ad 2016) = some (2016, .inl ((g 5), 3, .inl FV)) := (fr (ad 2016) (mp_in h_fv) (mp_ne h_fv h_mo (by omega))).trans h_fv
    have hP := gPs_kept hP (S1 := S20) (fun b t9 e9 hb9 h1 h2 => by have h8 : S20 b = some (t9, e9) := (fr b (mp_in hb9) (mp_ne hb9 h_mo (by omega))).trans hb9; rw [h8, hb9])
    have hL := gLs_kept hL (S1 := S20) (fun b t9 e9 hb9 h1 h2 => by have h8 : S20 b = some (t9, e9) := (fr b (mp_in hb9) (mp_ne hb9 h_mo (by omega))).trans hb9; rw [h8, hb9])
    have hM := gMs_kept hM (S1 := S20) (fun b t9 e9 hb9 h1 h2 => by have h8 : S20 b = some (t9, e9) := (fr b (mp_in hb9) (mp_ne hb9 h_mo (by omega))).trans hb9; rw [h8, hb9])
    have hWk := gWs_kept hWk (S1 := S20) (fun b t9 e9 hb9 h1 h2 => by have h8 : S20 b = some (t9, e9) := (fr b (mp_in hb9) (mp_ne hb9 h_mo (by omega))).trans hb9; rw [h8, hb9])
    have hA := anP_kept hA (S1 := S20) (fun b t9 e9 hb9 h1 h2 => by have h8 : S20 b = some (t9, e9) := (fr b (mp_in hb9) (mp_ne hb9 h_mo (by omega))).trans hb9; rw [h8, hb9])
    have h_mo := q_mo
    refine lv_istore (lv' := [(6, .int r23), (5, .int (nI 1)), (4, .int (nI i)), (3, .ref oa), (2, .ref mo), (1, .ref o), (0, .ref b)]) hx hb d_L_law_127 hl (by decide) rfl (fun ls hl => ?_)
    refine lv_aload_n hx hb d_L_law_129 rfl (lv_at hl 4 rfl) ?_
    refine mp_calli hI (va_runV (As := []) (rest := []) ⟨hx, hb, hml, hown, hg⟩ (c_M_thrown l D g S20 _ mo (.int (nI nl)) (.int (nI 40)) (.int (nI tk)) (.ref (ad 2001)) (.int (nI n)) (.ref (ad 2002)) (.ref (ad 2003)) (.ref (ad 2004)) (.ref (ad 2005)) (.ref (ad 2006)) (.ref (ad 2007)) (.int kn) (.int ak) (.int s0) (.ref (ad 2008)) (.ref (ad 2009)) (.ref (ad 2010)) (.ref (ad 2011)) (.ref (ad 2012)) (.ref (ad 2013)) (.int z0) (.ref (ad 2014)) (.ref (ad 2015)) (.ref (ad 2016)) (.ref (ad 2017)) (.ref (ad 2018)) (.ref (ad 2019)) (.ref (ad 2020)) (.ref (ad 2021)) (.ref (ad 2022)) (nI 1) h_mo) ⟨(callB_of 0 hg (wd_goodG q_902) rfl rfl rfl (hg _ q_5) (hg _ q_899) (by decide +kernel) ⟨Nat.le_of_ble_eq_true rfl, Nat.le_of_ble_eq_true rfl⟩), hg _ q_900, hg _ q_901⟩ (mp_preV (C := R_M) (T := F_M) hI hK h_mo rfl []) rfl rfl hl.1 rfl (lv_room (Nat.le_of_ble_eq_true rfl)) d_L_law_130 ⟨by omega, by omega⟩) (fun r27 S24 H25 locs p_26 hI => ?_)
    obtain ⟨er27, eS28⟩ := p_26
    rw [eS28] at hI
    have er27 : r27 = nI 1 := er27
    subst er27
    refine lv_iload hx hb d_L_law_133 (lv_at hl 1 rfl) ?_
    refine lv_icmp_eq (tgt := 140) hx hb d_L_law_135 (by decide) (fun _ => ?_) (fun h9 => absurd (rfl) h9)
    refine lv_iload hx hb d_L_law_140 (lv_at hl 1 rfl) ?_
    refine lv_if_ne (tgt := 157) hx hb d_L_law_142 (by decide) (fun _ => ?_) (fun h9 => absurd h9 (by decide))
    refine lv_goto (tgt := 822) hx hb d_L_law_157 (by decide) ?_
    refine W.widen (k := cells + 189) (n := slots + 11130) (by omega) (by omega) ?_
    exact kx S20 _ _ ls ⟨(pa), (lo), (fa0), (ma), (hd), (eo), (me), (ad), (cf), (40), (tk), (n), (fq), (an), (av), (sv), (ff), (hq), (zq), (mq), (cq), (nI 1), (kn), (ak), (s0), (z0), (PO), (LF), (DG), (LE), (ZM), (OF), (FV), (of), h_o, h_pa, h_fa0, h_oa, h_mo, h_mp, h_le, h_dg, h_lt, h_ze, h_oq, h_fv, hP, hL, hM, hWk, hA, hgv, htk, hnt, hR, hI9, hIn, hF9⟩ hI (lv_sub hl [2, 3, 4, 5, 6] rfl)
