set_option maxHeartbeats 8000000 in
set_option maxRecDepth 100000 in
/-- run -/
theorem lk_run {p : Program} {l : Launch} {e : Env} {s : State} {m : MethodId} {below : List Frame} {meth : Method} {c : Code} {Q : State → Prop} {D : mp_G} {g : Nat → ClassId} {A : Nat → Prop} {b L i : Nat} {xs : Nat → Int32} {cells slots : Nat} {S : mp_M} {H : Heap} {locs : List Loc} {ls : Array Slot} (hx : p.tables.exec = Jvm.exec) (hb : c.code = b_L_law) (hml : c.maxLocals = 7) (hts : ∀ w ∈ lw_tbl, w.before #[Value.ref b] s = true) (hg : ∀ w ∈ gw, w.before #[Value.ref b] s = true) (hown : s.vm.findClass R_L = some m.cls) (hK : mp_K D classes (tys g) s) (hX : va_X b L xs D.2.1 D.2.1.heap) (hL9 : L ≤ 3585) (hi : i + 6 < L) (hc : cells + 189 ≤ room_1.cells) (hs9 : slots + 11130 ≤ room_1.slots) (hl9 : l.stackTraces = false) {nl oa mo o : Nat} (hnl : nl ≤ 3) (hn1 : 1 ≤ nl) (hV : lawI g nl o mo oa S) (hI : mp_I D classes A s.heap S H locs) (hl : lv_has ls 7 [(4, .int (nI i)), (3, .ref oa), (2, .ref mo), (1, .ref o), (0, .ref b)]) (kx : ∀ (S : mp_M) (H : Heap) (locs : List Loc) (ls : Array Slot), lawI g nl o mo oa S → mp_I D classes A s.heap S H locs → lv_has ls 7 [(4, .int (nI i)), (3, .ref oa), (2, .ref mo), (1, .ref o), (0, .ref b)] → W p l e room_1 s m #[Value.ref b] below meth c H locs (cells + 189) (slots + 11130) Q (F0 m 822 ls [])) : W p l e room_1 s m #[Value.ref b] below meth c H locs (cells) (slots) Q (F0 m 388 ls []) := by
  have hc : cells + 189 ≤ 164015 := hc
  have hs9 : slots + 11130 ≤ 8604026 := hs9
  obtain ⟨pa, lo, fa0, ma, hd, eo, me, ad, cf, gv, tk, n, fq, an, av, sv, ff, hq, zq, mq, cq, th, kn, ak, s0, z0, PO, LF, DG, LE, ZM, OF, FV, of, h_o, h_pa, h_fa0, h_oa, h_mo, h_mp, h_le, h_dg, h_lt, h_ze, h_oq, h_fv, hP, hL, hM, hWk, hA, hgv, htk, hnt, hR, hI9, hIn, hF9⟩ := hV
  rcases hA with ⟨rfl, rfl, hsv⟩ | ⟨rfl, hroM, Av, Tv, rfl, hVg, hroB⟩
  · obtain ⟨mk, mn, mcap, mz, mkf, mnf, hf, h_lo, h_ma, h_hd, hY, hmc, hB⟩ := id hL
    refine lv_aload_n hx hb d_L_law_388 rfl (lv_at hl 3 rfl) ?_
    refine mp_calli hI (va_runV (As := []) (rest := []) ⟨hx, hb, hml, hown, hg⟩ (c_B_run l D g S _ o lo ma hd fa0 n nl (.ref pa) (.int (nI gv)) (.int (nI tk)) sv fq av ff me mk mn mcap mz mkf mnf hf hq zq mq cq h_o h_fa0 h_lo h_ma h_hd hY hsv hB hnl hn1 hIn) ⟨(callB_of 0 hg (wd_goodG q_116) rfl rfl rfl (hg _ q_1) (hg _ q_113) (by decide +kernel) ⟨Nat.le_of_ble_eq_true rfl, Nat.le_of_ble_eq_true rfl⟩), hg _ q_114, hg _ q_115⟩ (mp_preV (C := R_B) (T := F_B) hI hK h_o rfl []) rfl rfl hl.1 rfl (lv_room (Nat.le_of_ble_eq_true rfl)) d_L_law_389 ⟨by omega, by omega⟩) (fun r4 S1 H2 locs p_3 hI => ?_)
    obtain ⟨Av, Tv, ff1, hroB, hfrS, q_o, q_fa0, hVg, fr⟩ := p_3
    have h_pa : S1 pa = some (1, .inl ((g 2), 40, .inr (.inr (.inr (.inr (rfs eo 40)))))) := fr pa _ _ h_pa (by omega) (by omega) (by omega) (by omega)
    have h_oa : S1 oa = some (9, .inl ((g 4), 1, .inr (.inl of))) := fr oa _ _ h_oa (by omega) (by omega) (by omega) (by omega)
    have h_mo : S1 mo = some (2000, .inr (10, [.int (nI nl), .int (nI gv), .int (nI tk), .int th, .ref (ad 2001), .int (nI n), .ref (ad 2002), .ref (ad 2003), .ref (ad 2004), .ref (ad 2005), .ref (ad 2006), .ref (ad 2007), .int (nI 0), .int ak, .int s0, .ref (ad 2008), .ref (ad 2009), .ref (ad 2010), .ref (ad 2011), .ref (ad 2012), .ref (ad 2013), .int z0, .ref (ad 2014), .ref (ad 2015), .ref (ad 2016), .ref (ad 2017), .ref (ad 2018), .ref (ad 2019), .ref (ad 2020), .ref (ad 2021), .ref (ad 2022)])) := fr mo _ _ h_mo (by omega) (by omega) (by omega) (by omega)
    have h_mp : S1 (ad 2001) = some (2001, .inl ((g 0), 40000, .inl (fun j => nI (PO j).val))) := fr (ad 2001) _ _ h_mp (by omega) (by omega) (by omega) (by omega)
    have h_le : S1 (ad 2008) = some (2008, .inl ((g 0), 17, .inl (fun j => nI (LF j)))) := fr (ad 2008) _ _ h_le (by omega) (by omega) (by omega) (by omega)
    have h_dg : S1 (ad 2010) = some (2010, .inl ((g 0), 3, .inl (fun j => nI (DG j)))) := fr (ad 2010) _ _ h_dg (by omega) (by omega) (by omega) (by omega)
    have h_lt : S1 (ad 2011) = some (2011, .inl ((g 0), 51, .inl (fun j => nI (LE j).val))) := fr (ad 2011) _ _ h_lt (by omega) (by omega) (by omega) (by omega)
    have h_ze : S1 (ad 2014) = some (2014, .inl ((g 0), 51, .inl (fun j => nI (ZM j).val))) := fr (ad 2014) _ _ h_ze (by omega) (by omega) (by omega) (by omega)
    have h_oq : S1 (ad 2015) = some (2015, .inl ((g 0), 17, .inl (fun j => nI (OF j)))) := fr (ad 2015) _ _ h_oq (by omega) (by omega) (by omega) (by omega)
    have h_fv : S1 (ad 2016) = some (2016, .inl ((g 5), 3, .inl FV)) := fr (ad 2016) _ _ h_fv (by omega) (by omega) (by omega) (by omega)
    have hP := gPs_kept hP (S1 := S1) (fun b t9 e9 hb9 h1 h2 => by have h8 : S1 b = some (t9, e9) := fr b _ _ hb9 (by omega) (by omega) (by omega) (by omega); rw [h8, hb9])
    have hL := gLs_kept hL (S1 := S1) (fun b t9 e9 hb9 h1 h2 => by have h8 : S1 b = some (t9, e9) := fr b _ _ hb9 (by omega) (by omega) (by omega) (by omega); rw [h8, hb9])
    have hM := gMs_kept hM (S1 := S1) (fun b t9 e9 hb9 h1 h2 => by have h8 : S1 b = some (t9, e9) := fr b _ _ hb9 (by omega) (by omega) (by omega) (by omega); rw [h8, hb9])
    have hWk := gWs_kept hWk (S1 := S1) (fun b t9 e9 hb9 h1 h2 => by have h8 : S1 b = some (t9, e9) := fr b _ _ hb9 (by omega) (by omega) (by omega) (by omega); rw [h8, hb9])
    have h_o := q_o
    have h_fa0 := q_fa0
    obtain ⟨tf, tpf, tnf, hf2, hif, z2, mo2, co2, ld, m_te, m_tp, m_tn, m_hd, m_hv, hlM⟩ := id hM
    obtain ⟨CU, TB, RMf, RO, vv, ww, RW, PV, SQ, RS, tCU, w7, w9, w12, w13, w17, w18, w19, w20, w21, w22⟩ := hWk
    refine lv_aload_n hx hb d_L_law_392 rfl (lv_at hl 2 rfl) ?_
    refine mp_calli hI (va_runV (As := []) (rest := [.int r4]) ⟨hx, hb, hml, hown, hg⟩ (c_M_run l D g S1 _ mo (ad 2002) (ad 2003) (ad 2004) (ad 2005) (ad 2006) (ad 2007) (ad 2008) (ad 2009) (ad 2010) (ad 2011) (ad 2012) (ad 2013) (ad 2014) (ad 2015) (ad 2016) (ad 2017) (ad 2018) (ad 2019) (ad 2020) (ad 2021) (ad 2022) n nl (.int (nI gv)) (.int (nI tk)) (.ref (ad 2001)) tf tpf tnf hf2 hif hq zq mq cq z2 mo2 co2 ld th (nI 0) ak s0 z0 FV CU LF TB DG LE RMf RO ZM OF vv ww RW PV SQ RS h_mo m_te m_tp m_tn m_hd m_hv w7 h_le w9 h_dg h_lt w12 w13 h_ze h_oq h_fv w17 w18 w19 w20 w21 w22 hlM hnl hn1 hIn tCU) ⟨(callB_of 0 hg (wd_goodG q_951) rfl rfl rfl (hg _ q_5) (hg _ q_948) (by decide +kernel) ⟨Nat.le_of_ble_eq_true rfl, Nat.le_of_ble_eq_true rfl⟩), hg _ q_949, hg _ q_950⟩ (mp_preV (C := R_M) (T := F_M) hI hK h_mo rfl []) rfl rfl hl.1 rfl (lv_room (Nat.le_of_ble_eq_true rfl)) d_L_law_393 ⟨by omega, by omega⟩) (fun r8 S5 H6 locs p_7 hI => ?_)
    obtain ⟨kn1, s1, z1, FV1, CU1, LF1, TB1, DG1, LE1, RMf1, RO1, ZM1, OF1, vv1, ww1, RW1, PV1, SQ1, RS1, hroM1, hfm, tCU1, q_mo, v7, q_le, v9, q_dg, q_lt, v12, v13, q_ze, q_oq, q_fv, v17, v18, v19, v20, v21, v22, fr⟩ := p_7
    have h_o : S5 o = some (0, .inr (0, [.int (nI nl), .ref pa, .ref lo, .ref fa0, .int (nI gv), .int (nI tk), .int (nI (cntF (bndL n (fun i => (hq i).1) (fun i => (hq i).2.1) (fun i => (hq i).2.2)) nl)), .int 1, .int r4, .ref Av.vo])) := fr o _ _ h_o (by omega) (by omega) (by omega) (by omega) (by omega) (by omega) (by omega) (by omega) (by omega) (by omega) (by omega) (by omega) (by omega) (by omega) (by omega) (by omega) (by omega)
    have h_pa : S5 pa = some (1, .inl ((g 2), 40, .inr (.inr (.inr (.inr (rfs eo 40)))))) := fr pa _ _ h_pa (by omega) (by omega) (by omega) (by omega) (by omega) (by omega) (by omega) (by omega) (by omega) (by omega) (by omega) (by omega) (by omega) (by omega) (by omega) (by omega) (by omega)
    have h_fa0 : S5 fa0 = some (3, .inl ((g 0), 3, .inl ff1)) := fr fa0 _ _ h_fa0 (by omega) (by omega) (by omega) (by omega) (by omega) (by omega) (by omega) (by omega) (by omega) (by omega) (by omega) (by omega) (by omega) (by omega) (by omega) (by omega) (by omega)
    have h_oa : S5 oa = some (9, .inl ((g 4), 1, .inr (.inl of))) := fr oa _ _ h_oa (by omega) (by omega) (by omega) (by omega) (by omega) (by omega) (by omega) (by omega) (by omega) (by omega) (by omega) (by omega) (by omega) (by omega) (by omega) (by omega) (by omega)
    have h_mp : S5 (ad 2001) = some (2001, .inl ((g 0), 40000, .inl (fun j => nI (PO j).val))) := fr (ad 2001) _ _ h_mp (by omega) (by omega) (by omega) (by omega) (by omega) (by omega) (by omega) (by omega) (by omega) (by omega) (by omega) (by omega) (by omega) (by omega) (by omega) (by omega) (by omega)
    have hP := gPs_kept hP (S1 := S5) (fun b t9 e9 hb9 h1 h2 => by have h8 : S5 b = some (t9, e9) := fr b _ _ hb9 (by omega) (by omega) (by omega) (by omega) (by omega) (by omega) (by omega) (by omega) (by omega) (by omega) (by omega) (by omega) (by omega) (by omega) (by omega) (by omega) (by omega); rw [h8, hb9])
    have hL := gLs_kept hL (S1 := S5) (fun b t9 e9 hb9 h1 h2 => by have h8 : S5 b = some (t9, e9) := fr b _ _ hb9 (by omega) (by omega) (by omega) (by omega) (by omega) (by omega) (by omega) (by omega) (by omega) (by omega) (by omega) (by omega) (by omega) (by omega) (by omega) (by omega) (by omega); rw [h8, hb9])
    have hM := gMs_kept hM (S1 := S5) (fun b t9 e9 hb9 h1 h2 => by have h8 : S5 b = some (t9, e9) := fr b _ _ hb9 (by omega) (by omega) (by omega) (by omega) (by omega) (by omega) (by omega) (by omega) (by omega) (by omega) (by omega) (by omega) (by omega) (by omega) (by omega) (by omega) (by omega); rw [h8, hb9])
    have hVg := vG_kept hVg (S1 := S5) (fun b t9 e9 hb9 h1 h2 => by have h8 : S5 b = some (t9, e9) := fr b _ _ hb9 (by omega) (by omega) (by omega) (by omega) (by omega) (by omega) (by omega) (by omega) (by omega) (by omega) (by omega) (by omega) (by omega) (by omega) (by omega) (by omega) (by omega); rw [h8, hb9])
    have h_mo := q_mo
    have h_le := q_le
    have h_dg := q_dg
    have h_lt := q_lt
    have h_ze := q_ze
    have h_oq := q_oq
    have h_fv := q_fv
    have hWk : gWs g ad S5 := ⟨CU1, TB1, RMf1, RO1, vv1, ww1, RW1, PV1, SQ1, RS1, tCU1, v7, v9, v12, v13, v17, v18, v19, v20, v21, v22⟩
    obtain rfl : r4 = r8 := ro_eq hnl hn1 (mo_e9 hlM) hroB hroM1
    refine lv_icmp_eq (tgt := 822) hx hb d_L_law_396 (by decide) (fun _ => ?_) (fun h9 => absurd (rfl) h9)
    refine W.widen (k := cells + 189) (n := slots + 11130) (by omega) (by omega) ?_
    exact kx S5 _ _ ls ⟨(pa), (lo), (fa0), (ma), (hd), (eo), (me), (ad), (cf), (gv), (tk), (n), (nI (cntF (bndL n (fun i => (hq i).1) (fun i => (hq i).2.1) (fun i => (hq i).2.2)) nl)), (1), (r4), (.ref Av.vo), (ff1), (hq), (zq), (mq), (cq), (nI 0), (kn1), (nI 1), (s1), (z1), (PO), (LF1), (DG1), (LE1), (ZM1), (OF1), (FV1), (of), h_o, h_pa, h_fa0, h_oa, h_mo, h_mp, h_le, h_dg, h_lt, h_ze, h_oq, h_fv, hP, hL, hM, hWk, (Or.inr ⟨rfl, hroM1, Av, Tv, rfl, hVg, hroB⟩), hgv, htk, hnt, hR, hI9, hIn, (Or.inr ⟨rfl, n, hq, fun _ => ⟨rfl, rfl⟩, hfm, rfl, hfrS⟩)⟩ hI (lv_sub hl [0, 1, 2, 3, 4] rfl)
  · have hF8 : fq = nI (cntF (bndL n (fun i => (hq i).1) (fun i => (hq i).2.1) (fun i => (hq i).2.2)) nl) ∧ frS (bndL n (fun i => (hq i).1) (fun i => (hq i).2.1) (fun i => (hq i).2.2)) nl ff := by rcases hF9 with ⟨_, _, q⟩ | ⟨_, n8, h8, q1, _, q2, q3⟩; exact absurd q (by decide); obtain ⟨rfl, rfl⟩ := q1 rfl; exact ⟨q2, q3⟩
    refine lv_aload_n hx hb d_L_law_388 rfl (lv_at hl 3 rfl) ?_
    refine mp_calli hI (va_runV (As := []) (rest := []) ⟨hx, hb, hml, hown, hg⟩ (c_B_runA l D g S _ o (.int (nI nl)) (.ref pa) (.ref lo) (.ref fa0) (.int (nI gv)) (.int (nI tk)) (.int fq) (.ref Av.vo) av h_o) ⟨(callB_of 0 hg (wd_goodG q_116) rfl rfl rfl (hg _ q_1) (hg _ q_113) (by decide +kernel) ⟨Nat.le_of_ble_eq_true rfl, Nat.le_of_ble_eq_true rfl⟩), hg _ q_114, hg _ q_115⟩ (mp_preV (C := R_B) (T := F_B) hI hK h_o rfl []) rfl rfl hl.1 rfl (lv_room (Nat.le_of_ble_eq_true rfl)) d_L_law_389 ⟨by omega, by omega⟩) (fun r12 S9 H10 locs p_11 hI => ?_)
    obtain ⟨er12, eS13⟩ := p_11
    rw [eS13] at hI
    have er12 : av = r12 := er12.symm
    subst er12
    obtain ⟨tf, tpf, tnf, hf2, hif, z2, mo2, co2, ld, m_te, m_tp, m_tn, m_hd, m_hv, hlM⟩ := id hM
    obtain ⟨CU, TB, RMf, RO, vv, ww, RW, PV, SQ, RS, tCU, w7, w9, w12, w13, w17, w18, w19, w20, w21, w22⟩ := hWk
    refine lv_aload_n hx hb d_L_law_392 rfl (lv_at hl 2 rfl) ?_
    refine mp_calli hI (va_runV (As := []) (rest := [.int av]) ⟨hx, hb, hml, hown, hg⟩ (c_M_run l D g S _ mo (ad 2002) (ad 2003) (ad 2004) (ad 2005) (ad 2006) (ad 2007) (ad 2008) (ad 2009) (ad 2010) (ad 2011) (ad 2012) (ad 2013) (ad 2014) (ad 2015) (ad 2016) (ad 2017) (ad 2018) (ad 2019) (ad 2020) (ad 2021) (ad 2022) n nl (.int (nI gv)) (.int (nI tk)) (.ref (ad 2001)) tf tpf tnf hf2 hif hq zq mq cq z2 mo2 co2 ld th kn ak s0 z0 FV CU LF TB DG LE RMf RO ZM OF vv ww RW PV SQ RS h_mo m_te m_tp m_tn m_hd m_hv w7 h_le w9 h_dg h_lt w12 w13 h_ze h_oq h_fv w17 w18 w19 w20 w21 w22 hlM hnl hn1 hIn tCU) ⟨(callB_of 0 hg (wd_goodG q_951) rfl rfl rfl (hg _ q_5) (hg _ q_948) (by decide +kernel) ⟨Nat.le_of_ble_eq_true rfl, Nat.le_of_ble_eq_true rfl⟩), hg _ q_949, hg _ q_950⟩ (mp_preV (C := R_M) (T := F_M) hI hK h_mo rfl []) rfl rfl hl.1 rfl (lv_room (Nat.le_of_ble_eq_true rfl)) d_L_law_393 ⟨by omega, by omega⟩) (fun r17 S14 H15 locs p_16 hI => ?_)
    obtain ⟨kn1, s1, z1, FV1, CU1, LF1, TB1, DG1, LE1, RMf1, RO1, ZM1, OF1, vv1, ww1, RW1, PV1, SQ1, RS1, hroM1, hfm, tCU1, q_mo, v7, q_le, v9, q_dg, q_lt, v12, v13, q_ze, q_oq, q_fv, v17, v18, v19, v20, v21, v22, fr⟩ := p_16
    have h_o : S14 o = some (0, .inr (0, [.int (nI nl), .ref pa, .ref lo, .ref fa0, .int (nI gv), .int (nI tk), .int fq, .int 1, .int av, .ref Av.vo])) := fr o _ _ h_o (by omega) (by omega) (by omega) (by omega) (by omega) (by omega) (by omega) (by omega) (by omega) (by omega) (by omega) (by omega) (by omega) (by omega) (by omega) (by omega) (by omega)
    have h_pa : S14 pa = some (1, .inl ((g 2), 40, .inr (.inr (.inr (.inr (rfs eo 40)))))) := fr pa _ _ h_pa (by omega) (by omega) (by omega) (by omega) (by omega) (by omega) (by omega) (by omega) (by omega) (by omega) (by omega) (by omega) (by omega) (by omega) (by omega) (by omega) (by omega)
    have h_fa0 : S14 fa0 = some (3, .inl ((g 0), 3, .inl ff)) := fr fa0 _ _ h_fa0 (by omega) (by omega) (by omega) (by omega) (by omega) (by omega) (by omega) (by omega) (by omega) (by omega) (by omega) (by omega) (by omega) (by omega) (by omega) (by omega) (by omega)
    have h_oa : S14 oa = some (9, .inl ((g 4), 1, .inr (.inl of))) := fr oa _ _ h_oa (by omega) (by omega) (by omega) (by omega) (by omega) (by omega) (by omega) (by omega) (by omega) (by omega) (by omega) (by omega) (by omega) (by omega) (by omega) (by omega) (by omega)
    have h_mp : S14 (ad 2001) = some (2001, .inl ((g 0), 40000, .inl (fun j => nI (PO j).val))) := fr (ad 2001) _ _ h_mp (by omega) (by omega) (by omega) (by omega) (by omega) (by omega) (by omega) (by omega) (by omega) (by omega) (by omega) (by omega) (by omega) (by omega) (by omega) (by omega) (by omega)
    have hP := gPs_kept hP (S1 := S14) (fun b t9 e9 hb9 h1 h2 => by have h8 : S14 b = some (t9, e9) := fr b _ _ hb9 (by omega) (by omega) (by omega) (by omega) (by omega) (by omega) (by omega) (by omega) (by omega) (by omega) (by omega) (by omega) (by omega) (by omega) (by omega) (by omega) (by omega); rw [h8, hb9])
    have hL := gLs_kept hL (S1 := S14) (fun b t9 e9 hb9 h1 h2 => by have h8 : S14 b = some (t9, e9) := fr b _ _ hb9 (by omega) (by omega) (by omega) (by omega) (by omega) (by omega) (by omega) (by omega) (by omega) (by omega) (by omega) (by omega) (by omega) (by omega) (by omega) (by omega) (by omega); rw [h8, hb9])
    have hM := gMs_kept hM (S1 := S14) (fun b t9 e9 hb9 h1 h2 => by have h8 : S14 b = some (t9, e9) := fr b _ _ hb9 (by omega) (by omega) (by omega) (by omega) (by omega) (by omega) (by omega) (by omega) (by omega) (by omega) (by omega) (by omega) (by omega) (by omega) (by omega) (by omega) (by omega); rw [h8, hb9])
    have hVg := vG_kept hVg (S1 := S14) (fun b t9 e9 hb9 h1 h2 => by have h8 : S14 b = some (t9, e9) := fr b _ _ hb9 (by omega) (by omega) (by omega) (by omega) (by omega) (by omega) (by omega) (by omega) (by omega) (by omega) (by omega) (by omega) (by omega) (by omega) (by omega) (by omega) (by omega); rw [h8, hb9])
    have h_mo := q_mo
    have h_le := q_le
    have h_dg := q_dg
    have h_lt := q_lt
    have h_ze := q_ze
    have h_oq := q_oq
    have h_fv := q_fv
    have hWk : gWs g ad S14 := ⟨CU1, TB1, RMf1, RO1, vv1, ww1, RW1, PV1, SQ1, RS1, tCU1, v7, v9, v12, v13, v17, v18, v19, v20, v21, v22⟩
    obtain rfl : av = r17 := ro_eq hnl hn1 (mo_e9 hlM) hroB hroM1
    refine lv_icmp_eq (tgt := 822) hx hb d_L_law_396 (by decide) (fun _ => ?_) (fun h9 => absurd (rfl) h9)
    refine W.widen (k := cells + 189) (n := slots + 11130) (by omega) (by omega) ?_
    exact kx S14 _ _ ls ⟨(pa), (lo), (fa0), (ma), (hd), (eo), (me), (ad), (cf), (gv), (tk), (n), (fq), (1), (av), (.ref Av.vo), (ff), (hq), (zq), (mq), (cq), (nI 0), (kn1), (nI 1), (s1), (z1), (PO), (LF1), (DG1), (LE1), (ZM1), (OF1), (FV1), (of), h_o, h_pa, h_fa0, h_oa, h_mo, h_mp, h_le, h_dg, h_lt, h_ze, h_oq, h_fv, hP, hL, hM, hWk, (Or.inr ⟨rfl, hroM1, Av, Tv, rfl, hVg, hroB⟩), hgv, htk, hnt, hR, hI9, hIn, (Or.inr ⟨rfl, n, hq, fun _ => ⟨rfl, rfl⟩, hfm, hF8.1, hF8.2⟩)⟩ hI (lv_sub hl [0, 1, 2, 3, 4] rfl)
set_option maxHeartbeats 8000000 in
set_option maxRecDepth 100000 in
/-- free -/
theorem lk_free {p : Program} {l : Launch} {e : Env} {s : State} {m : MethodId} {below : List Frame} {meth : Method} {c : Code} {Q : State → Prop} {D : mp_G} {g : Nat → ClassId} {A : Nat → Prop} {b L i : Nat} {xs : Nat → Int32} {cells slots : Nat} {S : mp_M} {H : Heap} {locs : List Loc} {ls : Array Slot} (hx : p.tables.exec = Jvm.exec) (hb : c.code = b_L_law) (hml : c.maxLocals = 7) (hts : ∀ w ∈ lw_tbl, w.before #[Value.ref b] s = true) (hg : ∀ w ∈ gw, w.before #[Value.ref b] s = true) (hown : s.vm.findClass R_L = some m.cls) (hK : mp_K D classes (tys g) s) (hX : va_X b L xs D.2.1 D.2.1.heap) (hL9 : L ≤ 3585) (hi : i + 6 < L) (hc : cells + 189 ≤ room_1.cells) (hs9 : slots + 11130 ≤ room_1.slots) (hl9 : l.stackTraces = false) {nl oa mo o : Nat} (hnl : nl ≤ 3) (hn1 : 1 ≤ nl) (hV : lawI g nl o mo oa S) (hI : mp_I D classes A s.heap S H locs) (hl : lv_has ls 7 [(4, .int (nI i)), (3, .ref oa), (2, .ref mo), (1, .ref o), (0, .ref b)]) (kx : ∀ (S : mp_M) (H : Heap) (locs : List Loc) (ls : Array Slot), lawI g nl o mo oa S → mp_I D classes A s.heap S H locs → lv_has ls 7 [(4, .int (nI i)), (3, .ref oa), (2, .ref mo), (1, .ref o), (0, .ref b)] → W p l e room_1 s m #[Value.ref b] below meth c H locs (cells + 189) (slots + 11130) Q (F0 m 822 ls [])) : W p l e room_1 s m #[Value.ref b] below meth c H locs (cells) (slots) Q (F0 m 761 ls []) := by
  have hc : cells + 189 ≤ 164015 := hc
  have hs9 : slots + 11130 ≤ 8604026 := hs9
  obtain ⟨pa, lo, fa0, ma, hd, eo, me, ad, cf, gv, tk, n, fq, an, av, sv, ff, hq, zq, mq, cq, th, kn, ak, s0, z0, PO, LF, DG, LE, ZM, OF, FV, of, h_o, h_pa, h_fa0, h_oa, h_mo, h_mp, h_le, h_dg, h_lt, h_ze, h_oq, h_fv, hP, hL, hM, hWk, hA, hgv, htk, hnt, hR, hI9, hIn, hF9⟩ := hV
  rcases id hF9 with ⟨rfl, rfl, ha0⟩ | ⟨rfl, n8, h8, hq1, hfm, hfq, hfS⟩
  · refine lv_aload_n hx hb d_L_law_761 rfl (lv_at hl 3 rfl) ?_
    refine lv_aload_n hx hb d_L_law_762 rfl (lv_at hl 4 rfl) ?_
    refine lv_iload hx hb d_L_law_763 (lv_at hl 0 rfl) ?_
    refine lv_iconst (v := nI 1) hx hb d_L_law_765 (by decide) ?_
    refine lv_iadd hx hb d_L_law_766 ?_
    refine lv_topi (fun v1 ev1 => ?_)
    obtain rfl : v1 = nI (i + 1) := ev1.trans (nI_add _ _)
    refine mp_sld hx hb hX hK hI (vp_in_nI (show (i + 1) < L by omega) (by omega)) d_L_law_767 ?_
    refine lv_topi (fun v2 ev2 => ?_)
    obtain rfl : v2 = xs (i + 1) := ev2.trans (by rw [nI_clamp (by omega)])
    refine mp_calli hI (va_runV (As := [.int (xs (i + 1))]) (rest := []) ⟨hx, hb, hml, hown, hg⟩ (c_B_freeN l D g S _ o pa fa0 0 (.int (nI nl)) (.ref lo) (.int (nI gv)) (.int (nI tk)) (.int an) (.int av) (sv) ff (xs (i + 1)) h_o h_fa0 (i32_tot _)) ⟨(callB_of 1 hg (wd_goodG q_526) rfl rfl rfl (hg _ q_1) (hg _ q_523) (by decide +kernel) ⟨Nat.le_of_ble_eq_true rfl, Nat.le_of_ble_eq_true rfl⟩), hg _ q_524, hg _ q_525⟩ (mp_preV (C := R_B) (T := F_B) hI hK h_o rfl [.int (xs (i + 1))]) rfl rfl hl.1 rfl (lv_room (Nat.le_of_ble_eq_true rfl)) d_L_law_768 ⟨by omega, by omega⟩) (fun r6 S3 H4 locs p_5 hI => ?_)
    obtain ⟨er6, eS7⟩ := p_5
    rw [eS7] at hI
    have er6 : r6 = (-1) := er6
    subst er6
    refine lv_aload_n hx hb d_L_law_771 rfl (lv_at hl 2 rfl) ?_
    refine lv_aload_n hx hb d_L_law_772 rfl (lv_at hl 4 rfl) ?_
    refine lv_iload hx hb d_L_law_773 (lv_at hl 0 rfl) ?_
    refine lv_iconst (v := nI 1) hx hb d_L_law_775 (by decide) ?_
    refine lv_iadd hx hb d_L_law_776 ?_
    refine lv_topi (fun v8 ev8 => ?_)
    obtain rfl : v8 = nI (i + 1) := ev8.trans (nI_add _ _)
    refine mp_sld hx hb hX hK hI (vp_in_nI (show (i + 1) < L by omega) (by omega)) d_L_law_777 ?_
    refine lv_topi (fun v9 ev9 => ?_)
    obtain rfl : v9 = xs (i + 1) := ev9.trans (by rw [nI_clamp (by omega)])
    refine mp_calli hI (va_runV (As := [.int (xs (i + 1))]) (rest := [.int (-1)]) ⟨hx, hb, hml, hown, hg⟩ (c_M_freeU l D g S _ mo nl (.int (nI gv)) (.int (nI tk)) (.ref (ad 2001)) (.int (nI n)) (.ref (ad 2002)) (.ref (ad 2003)) (.ref (ad 2004)) (.ref (ad 2005)) (.ref (ad 2006)) (.ref (ad 2007)) (.int kn) (.int s0) (.ref (ad 2008)) (.ref (ad 2009)) (.ref (ad 2010)) (.ref (ad 2011)) (.ref (ad 2012)) (.ref (ad 2013)) (.int z0) (.ref (ad 2014)) (.ref (ad 2015)) (.ref (ad 2016)) (.ref (ad 2017)) (.ref (ad 2018)) (.ref (ad 2019)) (.ref (ad 2020)) (.ref (ad 2021)) (.ref (ad 2022)) th (xs (i + 1)) h_mo hnl) ⟨(callB_of 1 hg (wd_goodG q_1102) rfl rfl rfl (hg _ q_5) (hg _ q_1099) (by decide +kernel) ⟨Nat.le_of_ble_eq_true rfl, Nat.le_of_ble_eq_true rfl⟩), hg _ q_1100, hg _ q_1101⟩ (mp_preV (C := R_M) (T := F_M) hI hK h_mo rfl [.int (xs (i + 1))]) rfl rfl hl.1 rfl (lv_room (Nat.le_of_ble_eq_true rfl)) d_L_law_778 ⟨by omega, by omega⟩) (fun r13 S10 H11 locs p_12 hI => ?_)
    obtain ⟨er13, q_mo, fr⟩ := p_12
    have h_o : S10 o = some (0, .inr (0, [.int (nI nl), .ref pa, .ref lo, .ref fa0, .int (nI gv), .int (nI tk), .int (nI 0), .int an, .int av, sv])) := (fr o (mp_in h_o) (mp_ne h_o h_mo (by omega))).trans h_o
    have h_pa : S10 pa = some (1, .inl ((g 2), 40, .inr (.inr (.inr (.inr (rfs eo 40)))))) := (fr pa (mp_in h_pa) (mp_ne h_pa h_mo (by omega))).trans h_pa
    have h_fa0 : S10 fa0 = some (3, .inl ((g 0), 3, .inl ff)) := (fr fa0 (mp_in h_fa0) (mp_ne h_fa0 h_mo (by omega))).trans h_fa0
    have h_oa : S10 oa = some (9, .inl ((g 4), 1, .inr (.inl of))) := (fr oa (mp_in h_oa) (mp_ne h_oa h_mo (by omega))).trans h_oa
    have h_mp : S10 (ad 2001) = some (2001, .inl ((g 0), 40000, .inl (fun j => nI (PO j).val))) := (fr (ad 2001) (mp_in h_mp) (mp_ne h_mp h_mo (by omega))).trans h_mp
    have h_le : S10 (ad 2008) = some (2008, .inl ((g 0), 17, .inl (fun j => nI (LF j)))) := (fr (ad 2008) (mp_in h_le) (mp_ne h_le h_mo (by omega))).trans h_le
    have h_dg : S10 (ad 2010) = some (2010, .inl ((g 0), 3, .inl (fun j => nI (DG j)))) := (fr (ad 2010) (mp_in h_dg) (mp_ne h_dg h_mo (by omega))).trans h_dg
    have h_lt : S10 (ad 2011) = some (2011, .inl ((g 0), 51, .inl (fun j => nI (LE j).val))) := (fr (ad 2011) (mp_in h_lt) (mp_ne h_lt h_mo (by omega))).trans h_lt
    have h_ze : S10 (ad 2014) = some (2014, .inl ((g 0), 51, .inl (fun j => nI (ZM j).val))) := (fr (ad 2014) (mp_in h_ze) (mp_ne h_ze h_mo (by omega))).trans h_ze
    have h_oq : S10 (ad 2015) = some (2015, .inl ((g 0), 17, .inl (fun j => nI (OF j)))) := (fr (ad 2015) (mp_in h_oq) (mp_ne h_oq h_mo (by omega))).trans h_oq
    have h_fv : S10 (ad 2016) = some (2016, .inl ((g 5), 3, .inl FV)) := (fr (ad 2016) (mp_in h_fv) (mp_ne h_fv h_mo (by omega))).trans h_fv
    have hP := gPs_kept hP (S1 := S10) (fun b t9 e9 hb9 h1 h2 => by have h8 : S10 b = some (t9, e9) := (fr b (mp_in hb9) (mp_ne hb9 h_mo (by omega))).trans hb9; rw [h8, hb9])
    have hL := gLs_kept hL (S1 := S10) (fun b t9 e9 hb9 h1 h2 => by have h8 : S10 b = some (t9, e9) := (fr b (mp_in hb9) (mp_ne hb9 h_mo (by omega))).trans hb9; rw [h8, hb9])
    have hM := gMs_kept hM (S1 := S10) (fun b t9 e9 hb9 h1 h2 => by have h8 : S10 b = some (t9, e9) := (fr b (mp_in hb9) (mp_ne hb9 h_mo (by omega))).trans hb9; rw [h8, hb9])
    have hWk := gWs_kept hWk (S1 := S10) (fun b t9 e9 hb9 h1 h2 => by have h8 : S10 b = some (t9, e9) := (fr b (mp_in hb9) (mp_ne hb9 h_mo (by omega))).trans hb9; rw [h8, hb9])
    have hA := anP_kept hA (S1 := S10) (fun b t9 e9 hb9 h1 h2 => by have h8 : S10 b = some (t9, e9) := (fr b (mp_in hb9) (mp_ne hb9 h_mo (by omega))).trans hb9; rw [h8, hb9])
    have h_mo := q_mo
    refine lv_icmp_eq (tgt := 822) hx hb d_L_law_781 (by decide) (fun _ => ?_) (fun h9 => absurd (er13.symm) h9)
    refine W.widen (k := cells + 189) (n := slots + 11130) (by omega) (by omega) ?_
    exact kx S10 _ _ ls ⟨(pa), (lo), (fa0), (ma), (hd), (eo), (me), (ad), (cf), (gv), (tk), (n), (nI 0), (an), (av), (sv), (ff), (hq), (zq), (mq), (cq), (nI 0), (kn), (nI 0), (s0), (z0), (PO), (LF), (DG), (LE), (ZM), (OF), (FV), (of), h_o, h_pa, h_fa0, h_oa, h_mo, h_mp, h_le, h_dg, h_lt, h_ze, h_oq, h_fv, hP, hL, hM, hWk, hA, hgv, htk, hnt, hR, hI9, hIn, hF9⟩ hI (lv_sub hl [0, 1, 2, 3, 4] rfl)
  · subst hfq
    have hcn := cntF_le (bndL n8 (fun i => (h8 i).1) (fun i => (h8 i).2.1) (fun i => (h8 i).2.2)) nl
    rcases i32_b (xs (i + 1)) (show (cntF (bndL n8 (fun i => (h8 i).1) (fun i => (h8 i).2.1) (fun i => (h8 i).2.2)) nl) < 2 ^ 31 by omega) with hx9 | ⟨k9, hk9, hxk⟩
    · refine lv_aload_n hx hb d_L_law_761 rfl (lv_at hl 3 rfl) ?_
      refine lv_aload_n hx hb d_L_law_762 rfl (lv_at hl 4 rfl) ?_
      refine lv_iload hx hb d_L_law_763 (lv_at hl 0 rfl) ?_
      refine lv_iconst (v := nI 1) hx hb d_L_law_765 (by decide) ?_
      refine lv_iadd hx hb d_L_law_766 ?_
      refine lv_topi (fun v14 ev14 => ?_)
      obtain rfl : v14 = nI (i + 1) := ev14.trans (nI_add _ _)
      refine mp_sld hx hb hX hK hI (vp_in_nI (show (i + 1) < L by omega) (by omega)) d_L_law_767 ?_
      refine lv_topi (fun v15 ev15 => ?_)
      obtain rfl : v15 = xs (i + 1) := ev15.trans (by rw [nI_clamp (by omega)])
      refine mp_calli hI (va_runV (As := [.int (xs (i + 1))]) (rest := []) ⟨hx, hb, hml, hown, hg⟩ (c_B_freeN l D g S _ o pa fa0 (cntF (bndL n8 (fun i => (h8 i).1) (fun i => (h8 i).2.1) (fun i => (h8 i).2.2)) nl) (.int (nI nl)) (.ref lo) (.int (nI gv)) (.int (nI tk)) (.int an) (.int av) (sv) ff (xs (i + 1)) h_o h_fa0 hx9) ⟨(callB_of 1 hg (wd_goodG q_526) rfl rfl rfl (hg _ q_1) (hg _ q_523) (by decide +kernel) ⟨Nat.le_of_ble_eq_true rfl, Nat.le_of_ble_eq_true rfl⟩), hg _ q_524, hg _ q_525⟩ (mp_preV (C := R_B) (T := F_B) hI hK h_o rfl [.int (xs (i + 1))]) rfl rfl hl.1 rfl (lv_room (Nat.le_of_ble_eq_true rfl)) d_L_law_768 ⟨by omega, by omega⟩) (fun r19 S16 H17 locs p_18 hI => ?_)
      obtain ⟨er19, eS20⟩ := p_18
      rw [eS20] at hI
      have er19 : r19 = (-1) := er19
      subst er19
      refine lv_aload_n hx hb d_L_law_771 rfl (lv_at hl 2 rfl) ?_
      refine lv_aload_n hx hb d_L_law_772 rfl (lv_at hl 4 rfl) ?_
      refine lv_iload hx hb d_L_law_773 (lv_at hl 0 rfl) ?_
      refine lv_iconst (v := nI 1) hx hb d_L_law_775 (by decide) ?_
      refine lv_iadd hx hb d_L_law_776 ?_
      refine lv_topi (fun v21 ev21 => ?_)
      obtain rfl : v21 = nI (i + 1) := ev21.trans (nI_add _ _)
      refine mp_sld hx hb hX hK hI (vp_in_nI (show (i + 1) < L by omega) (by omega)) d_L_law_777 ?_
      refine lv_topi (fun v22 ev22 => ?_)
      obtain rfl : v22 = xs (i + 1) := ev22.trans (by rw [nI_clamp (by omega)])
      refine mp_calli hI (va_runV (As := [.int (xs (i + 1))]) (rest := [.int (-1)]) ⟨hx, hb, hml, hown, hg⟩ (c_M_free l D g S _ mo (ad 2016) n8 nl (.int (nI gv)) (.int (nI tk)) (.ref (ad 2001)) (.int (nI n)) (.ref (ad 2002)) (.ref (ad 2003)) (.ref (ad 2004)) (.ref (ad 2005)) (.ref (ad 2006)) (.ref (ad 2007)) (.int kn) (.int s0) (.ref (ad 2008)) (.ref (ad 2009)) (.ref (ad 2010)) (.ref (ad 2011)) (.ref (ad 2012)) (.ref (ad 2013)) (.int z0) (.ref (ad 2014)) (.ref (ad 2015)) (.ref (ad 2017)) (.ref (ad 2018)) (.ref (ad 2019)) (.ref (ad 2020)) (.ref (ad 2021)) (.ref (ad 2022)) (fun i => (h8 i).1) (fun i => (h8 i).2.1) (fun i => (h8 i).2.2) FV (xs (i + 1)) th h_mo h_fv hnl hfm) ⟨(callB_of 1 hg (wd_goodG q_1102) rfl rfl rfl (hg _ q_5) (hg _ q_1099) (by decide +kernel) ⟨Nat.le_of_ble_eq_true rfl, Nat.le_of_ble_eq_true rfl⟩), hg _ q_1100, hg _ q_1101⟩ (mp_preV (C := R_M) (T := F_M) hI hK h_mo rfl [.int (xs (i + 1))]) rfl rfl hl.1 rfl (lv_room (Nat.le_of_ble_eq_true rfl)) d_L_law_778 ⟨by omega, by omega⟩) (fun r26 S23 H24 locs p_25 hI => ?_)
      obtain ⟨er26, q_mo, fr⟩ := p_25
      have h_o : S23 o = some (0, .inr (0, [.int (nI nl), .ref pa, .ref lo, .ref fa0, .int (nI gv), .int (nI tk), .int (nI (cntF (bndL n8 (fun i => (h8 i).1) (fun i => (h8 i).2.1) (fun i => (h8 i).2.2)) nl)), .int an, .int av, sv])) := fr o _ _ h_o (by omega)
      have h_pa : S23 pa = some (1, .inl ((g 2), 40, .inr (.inr (.inr (.inr (rfs eo 40)))))) := fr pa _ _ h_pa (by omega)
      have h_fa0 : S23 fa0 = some (3, .inl ((g 0), 3, .inl ff)) := fr fa0 _ _ h_fa0 (by omega)
      have h_oa : S23 oa = some (9, .inl ((g 4), 1, .inr (.inl of))) := fr oa _ _ h_oa (by omega)
      have h_mp : S23 (ad 2001) = some (2001, .inl ((g 0), 40000, .inl (fun j => nI (PO j).val))) := fr (ad 2001) _ _ h_mp (by omega)
      have h_le : S23 (ad 2008) = some (2008, .inl ((g 0), 17, .inl (fun j => nI (LF j)))) := fr (ad 2008) _ _ h_le (by omega)
      have h_dg : S23 (ad 2010) = some (2010, .inl ((g 0), 3, .inl (fun j => nI (DG j)))) := fr (ad 2010) _ _ h_dg (by omega)
      have h_lt : S23 (ad 2011) = some (2011, .inl ((g 0), 51, .inl (fun j => nI (LE j).val))) := fr (ad 2011) _ _ h_lt (by omega)
      have h_ze : S23 (ad 2014) = some (2014, .inl ((g 0), 51, .inl (fun j => nI (ZM j).val))) := fr (ad 2014) _ _ h_ze (by omega)
      have h_oq : S23 (ad 2015) = some (2015, .inl ((g 0), 17, .inl (fun j => nI (OF j)))) := fr (ad 2015) _ _ h_oq (by omega)
      have h_fv : S23 (ad 2016) = some (2016, .inl ((g 5), 3, .inl FV)) := fr (ad 2016) _ _ h_fv (by omega)
      have hP := gPs_kept hP (S1 := S23) (fun b t9 e9 hb9 h1 h2 => by have h8 : S23 b = some (t9, e9) := fr b _ _ hb9 (by omega); rw [h8, hb9])
      have hL := gLs_kept hL (S1 := S23) (fun b t9 e9 hb9 h1 h2 => by have h8 : S23 b = some (t9, e9) := fr b _ _ hb9 (by omega); rw [h8, hb9])
      have hM := gMs_kept hM (S1 := S23) (fun b t9 e9 hb9 h1 h2 => by have h8 : S23 b = some (t9, e9) := fr b _ _ hb9 (by omega); rw [h8, hb9])
      have hWk := gWs_kept hWk (S1 := S23) (fun b t9 e9 hb9 h1 h2 => by have h8 : S23 b = some (t9, e9) := fr b _ _ hb9 (by omega); rw [h8, hb9])
      have hA := anP_kept hA (S1 := S23) (fun b t9 e9 hb9 h1 h2 => by have h8 : S23 b = some (t9, e9) := fr b _ _ hb9 (by omega); rw [h8, hb9])
      have h_mo := q_mo
      refine lv_icmp_eq (tgt := 822) hx hb d_L_law_781 (by decide) (fun _ => ?_) (fun h9 => absurd (free_eq (x := (xs (i + 1))) hnl hfS (Or.inl ⟨hx9, rfl⟩) er26) h9)
      refine W.widen (k := cells + 189) (n := slots + 11130) (by omega) (by omega) ?_
      exact kx S23 _ _ ls ⟨(pa), (lo), (fa0), (ma), (hd), (eo), (me), (ad), (cf), (gv), (tk), (n), (nI (cntF (bndL n8 (fun i => (h8 i).1) (fun i => (h8 i).2.1) (fun i => (h8 i).2.2)) nl)), (an), (av), (sv), (ff), (hq), (zq), (mq), (cq), (nI 0), (kn), (nI 1), (s0), (z0), (PO), (LF), (DG), (LE), (ZM), (OF), (FV), (of), h_o, h_pa, h_fa0, h_oa, h_mo, h_mp, h_le, h_dg, h_lt, h_ze, h_oq, h_fv, hP, hL, hM, hWk, hA, hgv, htk, hnt, hR, hI9, hIn, hF9⟩ hI (lv_sub hl [0, 1, 2, 3, 4] rfl)
    · refine lv_aload_n hx hb d_L_law_761 rfl (lv_at hl 3 rfl) ?_
      refine lv_aload_n hx hb d_L_law_762 rfl (lv_at hl 4 rfl) ?_
      refine lv_iload hx hb d_L_law_763 (lv_at hl 0 rfl) ?_
      refine lv_iconst (v := nI 1) hx hb d_L_law_765 (by decide) ?_
      refine lv_iadd hx hb d_L_law_766 ?_
      refine lv_topi (fun v27 ev27 => ?_)
      obtain rfl : v27 = nI (i + 1) := ev27.trans (nI_add _ _)
      refine mp_sld hx hb hX hK hI (vp_in_nI (show (i + 1) < L by omega) (by omega)) d_L_law_767 ?_
      refine lv_topi (fun v28 ev28 => ?_)
      obtain rfl : v28 = xs (i + 1) := ev28.trans (by rw [nI_clamp (by omega)])
      refine lv_topi (fun v29 ev29 => ?_)
      obtain rfl : v29 = nI k9 := ev29.trans (hxk)
      refine mp_calli hI (va_runV (As := [.int (nI k9)]) (rest := []) ⟨hx, hb, hml, hown, hg⟩ (c_B_free l D g S _ o pa fa0 (cntF (bndL n8 (fun i => (h8 i).1) (fun i => (h8 i).2.1) (fun i => (h8 i).2.2)) nl) (.int (nI nl)) (.ref lo) (.int (nI gv)) (.int (nI tk)) (.int an) (.int av) (sv) ff k9 h_o h_fa0 hk9 (by omega)) ⟨(callB_of 1 hg (wd_goodG q_526) rfl rfl rfl (hg _ q_1) (hg _ q_523) (by decide +kernel) ⟨Nat.le_of_ble_eq_true rfl, Nat.le_of_ble_eq_true rfl⟩), hg _ q_524, hg _ q_525⟩ (mp_preV (C := R_B) (T := F_B) hI hK h_o rfl [.int (nI k9)]) rfl rfl hl.1 rfl (lv_room (Nat.le_of_ble_eq_true rfl)) d_L_law_768 ⟨by omega, by omega⟩) (fun r33 S30 H31 locs p_32 hI => ?_)
      obtain ⟨er33, eS34⟩ := p_32
      rw [eS34] at hI
      have er33 : r33 = ff k9 := er33
      subst er33
      refine lv_aload_n hx hb d_L_law_771 rfl (lv_at hl 2 rfl) ?_
      refine lv_aload_n hx hb d_L_law_772 rfl (lv_at hl 4 rfl) ?_
      refine lv_iload hx hb d_L_law_773 (lv_at hl 0 rfl) ?_
      refine lv_iconst (v := nI 1) hx hb d_L_law_775 (by decide) ?_
      refine lv_iadd hx hb d_L_law_776 ?_
      refine lv_topi (fun v35 ev35 => ?_)
      obtain rfl : v35 = nI (i + 1) := ev35.trans (nI_add _ _)
      refine mp_sld hx hb hX hK hI (vp_in_nI (show (i + 1) < L by omega) (by omega)) d_L_law_777 ?_
      refine lv_topi (fun v36 ev36 => ?_)
      obtain rfl : v36 = xs (i + 1) := ev36.trans (by rw [nI_clamp (by omega)])
      refine lv_topi (fun v37 ev37 => ?_)
      obtain rfl : v37 = nI k9 := ev37.trans (hxk)
      refine mp_calli hI (va_runV (As := [.int (nI k9)]) (rest := [.int (ff k9)]) ⟨hx, hb, hml, hown, hg⟩ (c_M_free l D g S _ mo (ad 2016) n8 nl (.int (nI gv)) (.int (nI tk)) (.ref (ad 2001)) (.int (nI n)) (.ref (ad 2002)) (.ref (ad 2003)) (.ref (ad 2004)) (.ref (ad 2005)) (.ref (ad 2006)) (.ref (ad 2007)) (.int kn) (.int s0) (.ref (ad 2008)) (.ref (ad 2009)) (.ref (ad 2010)) (.ref (ad 2011)) (.ref (ad 2012)) (.ref (ad 2013)) (.int z0) (.ref (ad 2014)) (.ref (ad 2015)) (.ref (ad 2017)) (.ref (ad 2018)) (.ref (ad 2019)) (.ref (ad 2020)) (.ref (ad 2021)) (.ref (ad 2022)) (fun i => (h8 i).1) (fun i => (h8 i).2.1) (fun i => (h8 i).2.2) FV (nI k9) th h_mo h_fv hnl hfm) ⟨(callB_of 1 hg (wd_goodG q_1102) rfl rfl rfl (hg _ q_5) (hg _ q_1099) (by decide +kernel) ⟨Nat.le_of_ble_eq_true rfl, Nat.le_of_ble_eq_true rfl⟩), hg _ q_1100, hg _ q_1101⟩ (mp_preV (C := R_M) (T := F_M) hI hK h_mo rfl [.int (nI k9)]) rfl rfl hl.1 rfl (lv_room (Nat.le_of_ble_eq_true rfl)) d_L_law_778 ⟨by omega, by omega⟩) (fun r41 S38 H39 locs p_40 hI => ?_)
      obtain ⟨er41, q_mo, fr⟩ := p_40
      have h_o : S38 o = some (0, .inr (0, [.int (nI nl), .ref pa, .ref lo, .ref fa0, .int (nI gv), .int (nI tk), .int (nI (cntF (bndL n8 (fun i => (h8 i).1) (fun i => (h8 i).2.1) (fun i => (h8 i).2.2)) nl)), .int an, .int av, sv])) := fr o _ _ h_o (by omega)
      have h_pa : S38 pa = some (1, .inl ((g 2), 40, .inr (.inr (.inr (.inr (rfs eo 40)))))) := fr pa _ _ h_pa (by omega)
      have h_fa0 : S38 fa0 = some (3, .inl ((g 0), 3, .inl ff)) := fr fa0 _ _ h_fa0 (by omega)
      have h_oa : S38 oa = some (9, .inl ((g 4), 1, .inr (.inl of))) := fr oa _ _ h_oa (by omega)
      have h_mp : S38 (ad 2001) = some (2001, .inl ((g 0), 40000, .inl (fun j => nI (PO j).val))) := fr (ad 2001) _ _ h_mp (by omega)
      have h_le : S38 (ad 2008) = some (2008, .inl ((g 0), 17, .inl (fun j => nI (LF j)))) := fr (ad 2008) _ _ h_le (by omega)
      have h_dg : S38 (ad 2010) = some (2010, .inl ((g 0), 3, .inl (fun j => nI (DG j)))) := fr (ad 2010) _ _ h_dg (by omega)
      have h_lt : S38 (ad 2011) = some (2011, .inl ((g 0), 51, .inl (fun j => nI (LE j).val))) := fr (ad 2011) _ _ h_lt (by omega)
      have h_ze : S38 (ad 2014) = some (2014, .inl ((g 0), 51, .inl (fun j => nI (ZM j).val))) := fr (ad 2014) _ _ h_ze (by omega)
      have h_oq : S38 (ad 2015) = some (2015, .inl ((g 0), 17, .inl (fun j => nI (OF j)))) := fr (ad 2015) _ _ h_oq (by omega)
      have h_fv : S38 (ad 2016) = some (2016, .inl ((g 5), 3, .inl FV)) := fr (ad 2016) _ _ h_fv (by omega)
      have hP := gPs_kept hP (S1 := S38) (fun b t9 e9 hb9 h1 h2 => by have h8 : S38 b = some (t9, e9) := fr b _ _ hb9 (by omega); rw [h8, hb9])
      have hL := gLs_kept hL (S1 := S38) (fun b t9 e9 hb9 h1 h2 => by have h8 : S38 b = some (t9, e9) := fr b _ _ hb9 (by omega); rw [h8, hb9])
      have hM := gMs_kept hM (S1 := S38) (fun b t9 e9 hb9 h1 h2 => by have h8 : S38 b = some (t9, e9) := fr b _ _ hb9 (by omega); rw [h8, hb9])
      have hWk := gWs_kept hWk (S1 := S38) (fun b t9 e9 hb9 h1 h2 => by have h8 : S38 b = some (t9, e9) := fr b _ _ hb9 (by omega); rw [h8, hb9])
      have hA := anP_kept hA (S1 := S38) (fun b t9 e9 hb9 h1 h2 => by have h8 : S38 b = some (t9, e9) := fr b _ _ hb9 (by omega); rw [h8, hb9])
      have h_mo := q_mo
      refine lv_icmp_eq (tgt := 822) hx hb d_L_law_781 (by decide) (fun _ => ?_) (fun h9 => absurd (free_eq (x := (nI k9)) hnl hfS (Or.inr ⟨k9, hk9, rfl, rfl⟩) er41) h9)
      refine W.widen (k := cells + 189) (n := slots + 11130) (by omega) (by omega) ?_
      exact kx S38 _ _ ls ⟨(pa), (lo), (fa0), (ma), (hd), (eo), (me), (ad), (cf), (gv), (tk), (n), (nI (cntF (bndL n8 (fun i => (h8 i).1) (fun i => (h8 i).2.1) (fun i => (h8 i).2.2)) nl)), (an), (av), (sv), (ff), (hq), (zq), (mq), (cq), (nI 0), (kn), (nI 1), (s0), (z0), (PO), (LF), (DG), (LE), (ZM), (OF), (FV), (of), h_o, h_pa, h_fa0, h_oa, h_mo, h_mp, h_le, h_dg, h_lt, h_ze, h_oq, h_fv, hP, hL, hM, hWk, hA, hgv, htk, hnt, hR, hI9, hIn, hF9⟩ hI (lv_sub hl [0, 1, 2, 3, 4] rfl)
set_option maxHeartbeats 8000000 in
set_option maxRecDepth 100000 in
/-- clear -/
theorem lk_clear {p : Program} {l : Launch} {e : Env} {s : State} {m : MethodId} {below : List Frame} {meth : Method} {c : Code} {Q : State → Prop} {D : mp_G} {g : Nat → ClassId} {A : Nat → Prop} {b L i : Nat} {xs : Nat → Int32} {cells slots : Nat} {S : mp_M} {H : Heap} {locs : List Loc} {ls : Array Slot} (hx : p.tables.exec = Jvm.exec) (hb : c.code = b_L_law) (hml : c.maxLocals = 7) (hts : ∀ w ∈ lw_tbl, w.before #[Value.ref b] s = true) (hg : ∀ w ∈ gw, w.before #[Value.ref b] s = true) (hown : s.vm.findClass R_L = some m.cls) (hK : mp_K D classes (tys g) s) (hX : va_X b L xs D.2.1 D.2.1.heap) (hL9 : L ≤ 3585) (hi : i + 6 < L) (hc : cells + 189 ≤ room_1.cells) (hs9 : slots + 11130 ≤ room_1.slots) (hl9 : l.stackTraces = false) {nl oa mo o : Nat} (hnl : nl ≤ 3) (hn1 : 1 ≤ nl) (hV : lawI g nl o mo oa S) (hI : mp_I D classes A s.heap S H locs) (hl : lv_has ls 7 [(4, .int (nI i)), (3, .ref oa), (2, .ref mo), (1, .ref o), (0, .ref b)]) (kx : ∀ (S : mp_M) (H : Heap) (locs : List Loc) (ls : Array Slot), lawI g nl o mo oa S → mp_I D classes A s.heap S H locs → lv_has ls 7 [(4, .int (nI i)), (3, .ref oa), (2, .ref mo), (1, .ref o), (0, .ref b)] → W p l e room_1 s m #[Value.ref b] below meth c H locs (cells + 189) (slots + 11130) Q (F0 m 822 ls [])) : W p l e room_1 s m #[Value.ref b] below meth c H locs (cells) (slots) Q (F0 m 786 ls []) := by
  have hc : cells + 189 ≤ 164015 := hc
  have hs9 : slots + 11130 ≤ 8604026 := hs9
  obtain ⟨pa, lo, fa0, ma, hd, eo, me, ad, cf, gv, tk, n, fq, an, av, sv, ff, hq, zq, mq, cq, th, kn, ak, s0, z0, PO, LF, DG, LE, ZM, OF, FV, of, h_o, h_pa, h_fa0, h_oa, h_mo, h_mp, h_le, h_dg, h_lt, h_ze, h_oq, h_fv, hP, hL, hM, hWk, hA, hgv, htk, hnt, hR, hI9, hIn, hF9⟩ := hV
  have hsv := an_sv hA
  obtain ⟨ek, en, cap, pz, kf, nf, hE, hG⟩ := hP
  obtain ⟨mk, mn, mcap, mz, mkf, mnf, hf, h_lo, h_ma, h_hd, hY, hmc, hB⟩ := hL
  refine lv_aload_n hx hb d_L_law_786 rfl (lv_at hl 3 rfl) ?_
  refine mp_callv hI (va_runV (As := []) (rest := []) ⟨hx, hb, hml, hown, hg⟩ (c_B_clear l D g S _ o pa lo (.int (nI nl)) (.ref fa0) (.int (nI gv)) (.int (nI tk)) (.int fq) (.int an) (.int av) sv (.ref ma) (.ref hd) (.int (nI n)) eo ek en cap pz kf nf h_o h_pa h_lo hE) ⟨(callB_of 0 hg (wd_goodG q_530) rfl rfl rfl (hg _ q_1) (hg _ q_527) (by decide +kernel) ⟨Nat.le_of_ble_eq_true rfl, Nat.le_of_ble_eq_true rfl⟩), hg _ q_528, hg _ q_529⟩ (mp_preV (C := R_B) (T := F_B) hI hK h_o rfl []) rfl rfl hl.1 rfl (lv_room (Nat.le_of_ble_eq_true rfl)) d_L_law_787 ⟨by omega, by omega⟩) (fun S1 H2 locs p_3 hI => ?_)
  obtain ⟨q_o, q_lo, hE1, fr0⟩ := p_3
  have fr : ∀ b t e9, S b = some (t, e9) → t ≠ 0 → t ≠ 2 → (t < 100 ∨ 220 ≤ t) → S1 b = some (t, e9) := fun b t e9 h9 k1 k2 k3 => (fr0 b t e9 h9 k1 k2 k3).trans h9
  have q_ma := fr _ _ _ h_ma (by decide) (by decide) (by decide)
  have q_hd := fr _ _ _ h_hd (by decide) (by decide) (by decide)
  have q_Y := yS_kept hY (S1 := S1) (fun b t9 e9 hb9 h1 h2 => (fr b t9 e9 hb9 (by omega) (by omega) (by omega)).trans hb9.symm)
  have h_pa : S1 pa = some (1, .inl ((g 2), 40, .inr (.inr (.inr (.inr (rfs eo 40)))))) := fr pa _ _ h_pa (by omega) (by omega) (by omega)
  have h_fa0 : S1 fa0 = some (3, .inl ((g 0), 3, .inl ff)) := fr fa0 _ _ h_fa0 (by omega) (by omega) (by omega)
  have h_oa : S1 oa = some (9, .inl ((g 4), 1, .inr (.inl of))) := fr oa _ _ h_oa (by omega) (by omega) (by omega)
  have h_mo : S1 mo = some (2000, .inr (10, [.int (nI nl), .int (nI gv), .int (nI tk), .int th, .ref (ad 2001), .int (nI n), .ref (ad 2002), .ref (ad 2003), .ref (ad 2004), .ref (ad 2005), .ref (ad 2006), .ref (ad 2007), .int kn, .int ak, .int s0, .ref (ad 2008), .ref (ad 2009), .ref (ad 2010), .ref (ad 2011), .ref (ad 2012), .ref (ad 2013), .int z0, .ref (ad 2014), .ref (ad 2015), .ref (ad 2016), .ref (ad 2017), .ref (ad 2018), .ref (ad 2019), .ref (ad 2020), .ref (ad 2021), .ref (ad 2022)])) := fr mo _ _ h_mo (by omega) (by omega) (by omega)
  have h_mp : S1 (ad 2001) = some (2001, .inl ((g 0), 40000, .inl (fun j => nI (PO j).val))) := fr (ad 2001) _ _ h_mp (by omega) (by omega) (by omega)
  have h_le : S1 (ad 2008) = some (2008, .inl ((g 0), 17, .inl (fun j => nI (LF j)))) := fr (ad 2008) _ _ h_le (by omega) (by omega) (by omega)
  have h_dg : S1 (ad 2010) = some (2010, .inl ((g 0), 3, .inl (fun j => nI (DG j)))) := fr (ad 2010) _ _ h_dg (by omega) (by omega) (by omega)
  have h_lt : S1 (ad 2011) = some (2011, .inl ((g 0), 51, .inl (fun j => nI (LE j).val))) := fr (ad 2011) _ _ h_lt (by omega) (by omega) (by omega)
  have h_ze : S1 (ad 2014) = some (2014, .inl ((g 0), 51, .inl (fun j => nI (ZM j).val))) := fr (ad 2014) _ _ h_ze (by omega) (by omega) (by omega)
  have h_oq : S1 (ad 2015) = some (2015, .inl ((g 0), 17, .inl (fun j => nI (OF j)))) := fr (ad 2015) _ _ h_oq (by omega) (by omega) (by omega)
  have h_fv : S1 (ad 2016) = some (2016, .inl ((g 5), 3, .inl FV)) := fr (ad 2016) _ _ h_fv (by omega) (by omega) (by omega)
  have hM := gMs_kept hM (S1 := S1) (fun b t9 e9 hb9 h1 h2 => by have h8 : S1 b = some (t9, e9) := fr b _ _ hb9 (by omega) (by omega) (by omega); rw [h8, hb9])
  have hWk := gWs_kept hWk (S1 := S1) (fun b t9 e9 hb9 h1 h2 => by have h8 : S1 b = some (t9, e9) := fr b _ _ hb9 (by omega) (by omega) (by omega); rw [h8, hb9])
  have hsv := svS_kept hsv (S1 := S1) (fun b t9 e9 hb9 h1 h2 => by have h8 : S1 b = some (t9, e9) := fr b _ _ hb9 (by omega) (by omega) (by omega); rw [h8, hb9])
  have h_o : S1 o = some (0, .inr (0, [.int (nI nl), .ref pa, .ref lo, .ref fa0, .int (nI 0), .int (nI 0), .int 0, .int 0, .int av, sv])) := q_o
  have hP : gPs g eo (fun _ _ => 0) S1 := ⟨ek, en, cap, _, kf, nf, hE1, pG_all0 hG⟩
  have hL : gLs g lo ma hd me 0 hq zq mq cq S1 := ⟨mk, mn, mcap, mz, mkf, mnf, hf, q_lo, q_ma, q_hd, q_Y, hmc, (fun i hi => absurd hi (Nat.not_lt_zero i)), Nat.zero_le _, fun i hi => absurd hi (Nat.not_lt_zero i)⟩
  refine lv_aload_n hx hb d_L_law_790 rfl (lv_at hl 2 rfl) ?_
  refine mp_callv hI (va_runV (As := []) (rest := []) ⟨hx, hb, hml, hown, hg⟩ (c_M_clear l D g S1 _ mo (ad 2001) (.int (nI nl)) (.int (nI gv)) (.int (nI tk)) (.int th) (.int (nI n)) (.ref (ad 2002)) (.ref (ad 2003)) (.ref (ad 2004)) (.ref (ad 2005)) (.ref (ad 2006)) (.ref (ad 2007)) (.int kn) (.int ak) (.int s0) (.ref (ad 2008)) (.ref (ad 2009)) (.ref (ad 2010)) (.ref (ad 2011)) (.ref (ad 2012)) (.ref (ad 2013)) (.int z0) (.ref (ad 2014)) (.ref (ad 2015)) (.ref (ad 2016)) (.ref (ad 2017)) (.ref (ad 2018)) (.ref (ad 2019)) (.ref (ad 2020)) (.ref (ad 2021)) (.ref (ad 2022)) (fun j => nI (PO j).val) h_mo h_mp) ⟨(callB_of 0 hg (wd_goodG q_947) rfl rfl rfl (hg _ q_5) (hg _ q_944) (by decide +kernel) ⟨Nat.le_of_ble_eq_true rfl, Nat.le_of_ble_eq_true rfl⟩), hg _ q_945, hg _ q_946⟩ (mp_preV (C := R_M) (T := F_M) hI hK h_mo rfl []) rfl rfl hl.1 rfl (lv_room (Nat.le_of_ble_eq_true rfl)) d_L_law_791 ⟨by omega, by omega⟩) (fun S5 H6 locs p_7 hI => ?_)
  obtain ⟨q_mo, q_mp, fr⟩ := p_7
  rw [zr_F] at q_mp
  have h_o : S5 o = some (0, .inr (0, [.int (nI nl), .ref pa, .ref lo, .ref fa0, .int (nI 0), .int (nI 0), .int 0, .int 0, .int av, sv])) := (fr o (mp_in h_o) (mp_ne h_o h_mo (by omega)) (mp_ne h_o h_mp (by omega))).trans h_o
  have h_pa : S5 pa = some (1, .inl ((g 2), 40, .inr (.inr (.inr (.inr (rfs eo 40)))))) := (fr pa (mp_in h_pa) (mp_ne h_pa h_mo (by omega)) (mp_ne h_pa h_mp (by omega))).trans h_pa
  have h_fa0 : S5 fa0 = some (3, .inl ((g 0), 3, .inl ff)) := (fr fa0 (mp_in h_fa0) (mp_ne h_fa0 h_mo (by omega)) (mp_ne h_fa0 h_mp (by omega))).trans h_fa0
  have h_oa : S5 oa = some (9, .inl ((g 4), 1, .inr (.inl of))) := (fr oa (mp_in h_oa) (mp_ne h_oa h_mo (by omega)) (mp_ne h_oa h_mp (by omega))).trans h_oa
  have h_le : S5 (ad 2008) = some (2008, .inl ((g 0), 17, .inl (fun j => nI (LF j)))) := (fr (ad 2008) (mp_in h_le) (mp_ne h_le h_mo (by omega)) (mp_ne h_le h_mp (by omega))).trans h_le
  have h_dg : S5 (ad 2010) = some (2010, .inl ((g 0), 3, .inl (fun j => nI (DG j)))) := (fr (ad 2010) (mp_in h_dg) (mp_ne h_dg h_mo (by omega)) (mp_ne h_dg h_mp (by omega))).trans h_dg
  have h_lt : S5 (ad 2011) = some (2011, .inl ((g 0), 51, .inl (fun j => nI (LE j).val))) := (fr (ad 2011) (mp_in h_lt) (mp_ne h_lt h_mo (by omega)) (mp_ne h_lt h_mp (by omega))).trans h_lt
  have h_ze : S5 (ad 2014) = some (2014, .inl ((g 0), 51, .inl (fun j => nI (ZM j).val))) := (fr (ad 2014) (mp_in h_ze) (mp_ne h_ze h_mo (by omega)) (mp_ne h_ze h_mp (by omega))).trans h_ze
  have h_oq : S5 (ad 2015) = some (2015, .inl ((g 0), 17, .inl (fun j => nI (OF j)))) := (fr (ad 2015) (mp_in h_oq) (mp_ne h_oq h_mo (by omega)) (mp_ne h_oq h_mp (by omega))).trans h_oq
  have h_fv : S5 (ad 2016) = some (2016, .inl ((g 5), 3, .inl FV)) := (fr (ad 2016) (mp_in h_fv) (mp_ne h_fv h_mo (by omega)) (mp_ne h_fv h_mp (by omega))).trans h_fv
  have hM := gMs_kept hM (S1 := S5) (fun b t9 e9 hb9 h1 h2 => by have h8 : S5 b = some (t9, e9) := (fr b (mp_in hb9) (mp_ne hb9 h_mo (by omega)) (mp_ne hb9 h_mp (by omega))).trans hb9; rw [h8, hb9])
  have hWk := gWs_kept hWk (S1 := S5) (fun b t9 e9 hb9 h1 h2 => by have h8 : S5 b = some (t9, e9) := (fr b (mp_in hb9) (mp_ne hb9 h_mo (by omega)) (mp_ne hb9 h_mp (by omega))).trans hb9; rw [h8, hb9])
  have hsv := svS_kept hsv (S1 := S5) (fun b t9 e9 hb9 h1 h2 => by have h8 : S5 b = some (t9, e9) := (fr b (mp_in hb9) (mp_ne hb9 h_mo (by omega)) (mp_ne hb9 h_mp (by omega))).trans hb9; rw [h8, hb9])
  have hP := gPs_kept hP (S1 := S5) (fun b t9 e9 hb9 h1 h2 => by have h8 : S5 b = some (t9, e9) := (fr b (mp_in hb9) (mp_ne hb9 h_mo (by omega)) (mp_ne hb9 h_mp (by omega))).trans hb9; rw [h8, hb9])
  have hL := gLs_kept hL (S1 := S5) (fun b t9 e9 hb9 h1 h2 => by have h8 : S5 b = some (t9, e9) := (fr b (mp_in hb9) (mp_ne hb9 h_mo (by omega)) (mp_ne hb9 h_mp (by omega))).trans hb9; rw [h8, hb9])
  have h_mo := q_mo
  have h_mp := q_mp
  have hM : gMs g ad 0 hq zq mq cq S5 := by obtain ⟨tf, tpf, tnf, hf2, hif, z2, mo2, co2, ld, m1, m2, m3, m4, m5, m6⟩ := hM; exact ⟨tf, tpf, tnf, hf2, hif, z2, mo2, co2, ld, m1, m2, m3, m4, m5, (fun i hi => absurd hi (Nat.not_lt_zero i)), Nat.zero_le _, fun i hi => absurd hi (Nat.not_lt_zero i)⟩
  refine lv_goto (tgt := 822) hx hb d_L_law_794 (by decide) ?_
  refine W.widen (k := cells + 189) (n := slots + 11130) (by omega) (by omega) ?_
  exact kx S5 _ _ ls ⟨(pa), (lo), (fa0), (ma), (hd), (eo), (me), (ad), ((fun _ _ => 0)), (0), (0), (0), (0), (0), (av), (sv), (ff), (hq), (zq), (mq), (cq), (nI 0), (nI 0), (nI 0), (s0), (z0), ((fun j => if 0 ≤ j ∧ j < 0 + 40000 then 0 else PO j)), (LF), (DG), (LE), (ZM), (OF), (FV), (of), h_o, h_pa, h_fa0, h_oa, h_mo, h_mp, h_le, h_dg, h_lt, h_ze, h_oq, h_fv, hP, hL, hM, hWk, (Or.inl ⟨rfl, rfl, hsv⟩), (Nat.zero_le _), (Nat.zero_le _), (Nat.le_refl _), (plR_all0 PO), (fun k hk u hu hc => absurd rfl hc), (fun i hi => absurd hi (Nat.not_lt_zero i)), (Or.inl ⟨rfl, rfl, rfl⟩)⟩ hI (lv_sub hl [0, 1, 2, 3, 4] rfl)
set_option maxHeartbeats 8000000 in
set_option maxRecDepth 100000 in
/-- count -/
theorem lk_count {p : Program} {l : Launch} {e : Env} {s : State} {m : MethodId} {below : List Frame} {meth : Method} {c : Code} {Q : State → Prop} {D : mp_G} {g : Nat → ClassId} {A : Nat → Prop} {b L i : Nat} {xs : Nat → Int32} {cells slots : Nat} {S : mp_M} {H : Heap} {locs : List Loc} {ls : Array Slot} (hx : p.tables.exec = Jvm.exec) (hb : c.code = b_L_law) (hml : c.maxLocals = 7) (hts : ∀ w ∈ lw_tbl, w.before #[Value.ref b] s = true) (hg : ∀ w ∈ gw, w.before #[Value.ref b] s = true) (hown : s.vm.findClass R_L = some m.cls) (hK : mp_K D classes (tys g) s) (hX : va_X b L xs D.2.1 D.2.1.heap) (hL9 : L ≤ 3585) (hi : i + 6 < L) (hc : cells + 189 ≤ room_1.cells) (hs9 : slots + 11130 ≤ room_1.slots) (hl9 : l.stackTraces = false) {nl oa mo o : Nat} (hnl : nl ≤ 3) (hn1 : 1 ≤ nl) (hV : lawI g nl o mo oa S) (hI : mp_I D classes A s.heap S H locs) (hl : lv_has ls 7 [(4, .int (nI i)), (3, .ref oa), (2, .ref mo), (1, .ref o), (0, .ref b)]) (kx : ∀ (S : mp_M) (H : Heap) (locs : List Loc) (ls : Array Slot), lawI g nl o mo oa S → mp_I D classes A s.heap S H locs → lv_has ls 7 [(4, .int (nI i)), (3, .ref oa), (2, .ref mo), (1, .ref o), (0, .ref b)] → W p l e room_1 s m #[Value.ref b] below meth c H locs (cells + 189) (slots + 11130) Q (F0 m 822 ls [])) : W p l e room_1 s m #[Value.ref b] below meth c H locs (cells) (slots) Q (F0 m 797 ls []) := by
  have hc : cells + 189 ≤ 164015 := hc
  have hs9 : slots + 11130 ≤ 8604026 := hs9
  obtain ⟨pa, lo, fa0, ma, hd, eo, me, ad, cf, gv, tk, n, fq, an, av, sv, ff, hq, zq, mq, cq, th, kn, ak, s0, z0, PO, LF, DG, LE, ZM, OF, FV, of, h_o, h_pa, h_fa0, h_oa, h_mo, h_mp, h_le, h_dg, h_lt, h_ze, h_oq, h_fv, hP, hL, hM, hWk, hA, hgv, htk, hnt, hR, hI9, hIn, hF9⟩ := hV
  refine lv_aload_n hx hb d_L_law_797 rfl (lv_at hl 3 rfl) ?_
  refine lv_aload_n hx hb d_L_law_798 rfl (lv_at hl 4 rfl) ?_
  refine lv_iload hx hb d_L_law_799 (lv_at hl 0 rfl) ?_
  refine lv_iconst (v := nI 1) hx hb d_L_law_801 (by decide) ?_
  refine lv_iadd hx hb d_L_law_802 ?_
  refine lv_topi (fun v1 ev1 => ?_)
  obtain rfl : v1 = nI (i + 1) := ev1.trans (nI_add _ _)
  refine mp_sld hx hb hX hK hI (vp_in_nI (show (i + 1) < L by omega) (by omega)) d_L_law_803 ?_
  refine lv_topi (fun v2 ev2 => ?_)
  obtain rfl : v2 = xs (i + 1) := ev2.trans (by rw [nI_clamp (by omega)])
  refine mp_calli hI (va_runV (As := [.int (xs (i + 1))]) (rest := []) ⟨hx, hb, hml, hown, hg⟩ (c_B_count l D g S _ o pa (.ref lo) (.ref fa0) (.int fq) (.int an) (.int av) (sv) (nI nl) (nI gv) (nI tk) (xs (i + 1)) h_o) ⟨(callB_of 1 hg (wd_goodG q_538) rfl rfl rfl (hg _ q_1) (hg _ q_535) (by decide +kernel) ⟨Nat.le_of_ble_eq_true rfl, Nat.le_of_ble_eq_true rfl⟩), hg _ q_536, hg _ q_537⟩ (mp_preV (C := R_B) (T := F_B) hI hK h_o rfl [.int (xs (i + 1))]) rfl rfl hl.1 rfl (lv_room (Nat.le_of_ble_eq_true rfl)) d_L_law_804 ⟨by omega, by omega⟩) (fun r6 S3 H4 locs p_5 hI => ?_)
  obtain ⟨er6, eS7⟩ := p_5
  rw [eS7] at hI
  have er6 : r6 = (if xs (i + 1) = 0 then nI gv else if xs (i + 1) = 1 then nI tk else if xs (i + 1) = 2 then nI nl else -1) := er6
  subst er6
  refine lv_aload_n hx hb d_L_law_807 rfl (lv_at hl 2 rfl) ?_
  refine lv_aload_n hx hb d_L_law_808 rfl (lv_at hl 4 rfl) ?_
  refine lv_iload hx hb d_L_law_809 (lv_at hl 0 rfl) ?_
  refine lv_iconst (v := nI 1) hx hb d_L_law_811 (by decide) ?_
  refine lv_iadd hx hb d_L_law_812 ?_
  refine lv_topi (fun v8 ev8 => ?_)
  obtain rfl : v8 = nI (i + 1) := ev8.trans (nI_add _ _)
  refine mp_sld hx hb hX hK hI (vp_in_nI (show (i + 1) < L by omega) (by omega)) d_L_law_813 ?_
  refine lv_topi (fun v9 ev9 => ?_)
  obtain rfl : v9 = xs (i + 1) := ev9.trans (by rw [nI_clamp (by omega)])
  refine mp_calli hI (va_runV (As := [.int (xs (i + 1))]) (rest := [.int (if xs (i + 1) = 0 then nI gv else if xs (i + 1) = 1 then nI tk else if xs (i + 1) = 2 then nI nl else -1)]) ⟨hx, hb, hml, hown, hg⟩ (c_M_count l D g S _ mo (.ref (ad 2001)) (.int (nI n)) (.ref (ad 2002)) (.ref (ad 2003)) (.ref (ad 2004)) (.ref (ad 2005)) (.ref (ad 2006)) (.ref (ad 2007)) (.int kn) (.int ak) (.int s0) (.ref (ad 2008)) (.ref (ad 2009)) (.ref (ad 2010)) (.ref (ad 2011)) (.ref (ad 2012)) (.ref (ad 2013)) (.int z0) (.ref (ad 2014)) (.ref (ad 2015)) (.ref (ad 2016)) (.ref (ad 2017)) (.ref (ad 2018)) (.ref (ad 2019)) (.ref (ad 2020)) (.ref (ad 2021)) (.ref (ad 2022)) (nI nl) (nI gv) (nI tk) th (xs (i + 1)) h_mo) ⟨(callB_of 1 hg (wd_goodG q_1106) rfl rfl rfl (hg _ q_5) (hg _ q_1103) (by decide +kernel) ⟨Nat.le_of_ble_eq_true rfl, Nat.le_of_ble_eq_true rfl⟩), hg _ q_1104, hg _ q_1105⟩ (mp_preV (C := R_M) (T := F_M) hI hK h_mo rfl [.int (xs (i + 1))]) rfl rfl hl.1 rfl (lv_room (Nat.le_of_ble_eq_true rfl)) d_L_law_814 ⟨by omega, by omega⟩) (fun r13 S10 H11 locs p_12 hI => ?_)
  obtain ⟨er13, q_mo, fr⟩ := p_12
  have h_o : S10 o = some (0, .inr (0, [.int (nI nl), .ref pa, .ref lo, .ref fa0, .int (nI gv), .int (nI tk), .int fq, .int an, .int av, sv])) := (fr o (mp_in h_o) (mp_ne h_o h_mo (by omega))).trans h_o
  have h_pa : S10 pa = some (1, .inl ((g 2), 40, .inr (.inr (.inr (.inr (rfs eo 40)))))) := (fr pa (mp_in h_pa) (mp_ne h_pa h_mo (by omega))).trans h_pa
  have h_fa0 : S10 fa0 = some (3, .inl ((g 0), 3, .inl ff)) := (fr fa0 (mp_in h_fa0) (mp_ne h_fa0 h_mo (by omega))).trans h_fa0
  have h_oa : S10 oa = some (9, .inl ((g 4), 1, .inr (.inl of))) := (fr oa (mp_in h_oa) (mp_ne h_oa h_mo (by omega))).trans h_oa
  have h_mp : S10 (ad 2001) = some (2001, .inl ((g 0), 40000, .inl (fun j => nI (PO j).val))) := (fr (ad 2001) (mp_in h_mp) (mp_ne h_mp h_mo (by omega))).trans h_mp
  have h_le : S10 (ad 2008) = some (2008, .inl ((g 0), 17, .inl (fun j => nI (LF j)))) := (fr (ad 2008) (mp_in h_le) (mp_ne h_le h_mo (by omega))).trans h_le
  have h_dg : S10 (ad 2010) = some (2010, .inl ((g 0), 3, .inl (fun j => nI (DG j)))) := (fr (ad 2010) (mp_in h_dg) (mp_ne h_dg h_mo (by omega))).trans h_dg
  have h_lt : S10 (ad 2011) = some (2011, .inl ((g 0), 51, .inl (fun j => nI (LE j).val))) := (fr (ad 2011) (mp_in h_lt) (mp_ne h_lt h_mo (by omega))).trans h_lt
  have h_ze : S10 (ad 2014) = some (2014, .inl ((g 0), 51, .inl (fun j => nI (ZM j).val))) := (fr (ad 2014) (mp_in h_ze) (mp_ne h_ze h_mo (by omega))).trans h_ze
  have h_oq : S10 (ad 2015) = some (2015, .inl ((g 0), 17, .inl (fun j => nI (OF j)))) := (fr (ad 2015) (mp_in h_oq) (mp_ne h_oq h_mo (by omega))).trans h_oq
  have h_fv : S10 (ad 2016) = some (2016, .inl ((g 5), 3, .inl FV)) := (fr (ad 2016) (mp_in h_fv) (mp_ne h_fv h_mo (by omega))).trans h_fv
  have hP := gPs_kept hP (S1 := S10) (fun b t9 e9 hb9 h1 h2 => by have h8 : S10 b = some (t9, e9) := (fr b (mp_in hb9) (mp_ne hb9 h_mo (by omega))).trans hb9; rw [h8, hb9])
  have hL := gLs_kept hL (S1 := S10) (fun b t9 e9 hb9 h1 h2 => by have h8 : S10 b = some (t9, e9) := (fr b (mp_in hb9) (mp_ne hb9 h_mo (by omega))).trans hb9; rw [h8, hb9])
  have hM := gMs_kept hM (S1 := S10) (fun b t9 e9 hb9 h1 h2 => by have h8 : S10 b = some (t9, e9) := (fr b (mp_in hb9) (mp_ne hb9 h_mo (by omega))).trans hb9; rw [h8, hb9])
  have hWk := gWs_kept hWk (S1 := S10) (fun b t9 e9 hb9 h1 h2 => by have h8 : S10 b = some (t9, e9) := (fr b (mp_in hb9) (mp_ne hb9 h_mo (by omega))).trans hb9; rw [h8, hb9])
  have hA := anP_kept hA (S1 := S10) (fun b t9 e9 hb9 h1 h2 => by have h8 : S10 b = some (t9, e9) := (fr b (mp_in hb9) (mp_ne hb9 h_mo (by omega))).trans hb9; rw [h8, hb9])
  have h_mo := q_mo
  refine lv_icmp_eq (tgt := 822) hx hb d_L_law_817 (by decide) (fun _ => ?_) (fun h9 => absurd (er13.symm) h9)
  refine W.widen (k := cells + 189) (n := slots + 11130) (by omega) (by omega) ?_
  exact kx S10 _ _ ls ⟨(pa), (lo), (fa0), (ma), (hd), (eo), (me), (ad), (cf), (gv), (tk), (n), (fq), (an), (av), (sv), (ff), (hq), (zq), (mq), (cq), (nI 0), (kn), (ak), (s0), (z0), (PO), (LF), (DG), (LE), (ZM), (OF), (FV), (of), h_o, h_pa, h_fa0, h_oa, h_mo, h_mp, h_le, h_dg, h_lt, h_ze, h_oq, h_fv, hP, hL, hM, hWk, hA, hgv, htk, hnt, hR, hI9, hIn, hF9⟩ hI (lv_sub hl [0, 1, 2, 3, 4] rfl)
