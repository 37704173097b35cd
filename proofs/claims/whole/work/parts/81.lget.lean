theorem left_eq {u : m3} (h : e9 u) : u.1 + 16 * u.2.1 + 256 * u.2.2 = pN u.1 u.2.1 u.2.2 % 10 + 16 * (pN u.1 u.2.1 u.2.2 / 10 % 10) + 256 * (pN u.1 u.2.1 u.2.2 / 100) := by
  unfold e9 at h; unfold pN; omega
def vT_X (Tv : vT) (Xb : Nat → fF) (Wb : Nat → Nat → fF) : vT := vTm Tv.s1 Tv.kQ Tv.PT Tv.lwf Tv.llf Tv.MU Tv.Fa Tv.Nx Tv.Re Tv.z1 Tv.ρ1 Tv.p1 Tv.z2 Tv.ρ2 Tv.p2 Tv.z3 Tv.dn Tv.cn Tv.dt Tv.ct Tv.dgE Tv.CF Tv.dl Tv.CL Tv.RT Tv.RC Tv.ZZ Tv.MQ Xb Wb Tv.zc1
theorem vG_setX {g : Nat → ClassId} {nl : Nat} {Av : vA} {Tv : vT} {S S1 : mp_M} {Xb : Nat → fF} {Wb : Nat → Nat → fF} (h : vG g nl Av Tv S) (q_pn : S1 Av.pn = some (38, .inl ((g 0), 3, .inl (fun j => nI (Xb j).val)))) (q_W : rS g 610 3 10 (fun ii => Av.pp + 1 + ii) (fun ii j => nI (Wb ii j).val) S1) (hk : ∀ b t e9, S b = some (t, e9) → t ≠ 38 → (t < 610 ∨ 613 ≤ t) → (10 ≤ t ∧ (t < 40 ∨ (400 ≤ t ∧ t < 700))) → S1 b = some (t, e9)) : vG g nl Av (vT_X Tv Xb Wb) S1 := by
  obtain ⟨h_vo, h_d9, h_ra, h_ka, h_qo, h_ky, h_pr, h_lw, h_ll, h_mu, h_fa, h_nx, h_re, h_so1, h_rq1, h_rp1, h_so2, h_rq2, h_rp2, h_zo, h_fs, h_lz, h_rr, h_rc, h_za, h_mu9, h_po, h_pn, h_pp, h_on, h_na, h_ot, h_ta, hP, hMU, hR1, hR2, hE, hLo, hRR, hZ, hW, hone, tPT, tMU, tFa, tNx, tRe, tρ1, tρ2, tcn, tct, tCF, tCL, hFL⟩ := h
  exact ⟨hk _ _ _ h_vo (by decide) (by decide) (by decide), hk _ _ _ h_d9 (by decide) (by decide) (by decide), hk _ _ _ h_ra (by decide) (by decide) (by decide), hk _ _ _ h_ka (by decide) (by decide) (by decide), hk _ _ _ h_qo (by decide) (by decide) (by decide), hk _ _ _ h_ky (by decide) (by decide) (by decide), hk _ _ _ h_pr (by decide) (by decide) (by decide), hk _ _ _ h_lw (by decide) (by decide) (by decide), hk _ _ _ h_ll (by decide) (by decide) (by decide), hk _ _ _ h_mu (by decide) (by decide) (by decide), hk _ _ _ h_fa (by decide) (by decide) (by decide), hk _ _ _ h_nx (by decide) (by decide) (by decide), hk _ _ _ h_re (by decide) (by decide) (by decide), hk _ _ _ h_so1 (by decide) (by decide) (by decide), hk _ _ _ h_rq1 (by decide) (by decide) (by decide), hk _ _ _ h_rp1 (by decide) (by decide) (by decide), hk _ _ _ h_so2 (by decide) (by decide) (by decide), hk _ _ _ h_rq2 (by decide) (by decide) (by decide), hk _ _ _ h_rp2 (by decide) (by decide) (by decide), hk _ _ _ h_zo (by decide) (by decide) (by decide), hk _ _ _ h_fs (by decide) (by decide) (by decide), hk _ _ _ h_lz (by decide) (by decide) (by decide), hk _ _ _ h_rr (by decide) (by decide) (by decide), hk _ _ _ h_rc (by decide) (by decide) (by decide), hk _ _ _ h_za (by decide) (by decide) (by decide), hk _ _ _ h_mu9 (by decide) (by decide) (by decide), hk _ _ _ h_po (by decide) (by decide) (by decide), q_pn, hk _ _ _ h_pp (by decide) (by decide) (by decide), hk _ _ _ h_on (by decide) (by decide) (by decide), hk _ _ _ h_na (by decide) (by decide) (by decide), hk _ _ _ h_ot (by decide) (by decide) (by decide), hk _ _ _ h_ta (by decide) (by decide) (by decide), rS_kept hP (fun b t e h9 k1 k2 => (hk b t e h9 (by omega) (by omega) (by omega)).trans h9.symm), rS_kept hMU (fun b t e h9 k1 k2 => (hk b t e h9 (by omega) (by omega) (by omega)).trans h9.symm), rS_kept hR1 (fun b t e h9 k1 k2 => (hk b t e h9 (by omega) (by omega) (by omega)).trans h9.symm), rS_kept hR2 (fun b t e h9 k1 k2 => (hk b t e h9 (by omega) (by omega) (by omega)).trans h9.symm), oS_kept hE (fun b t e h9 k1 k2 => (hk b t e h9 (by omega) (by omega) (by omega)).trans h9.symm), oS_kept hLo (fun b t e h9 k1 k2 => (hk b t e h9 (by omega) (by omega) (by omega)).trans h9.symm), rS_kept hRR (fun b t e h9 k1 k2 => (hk b t e h9 (by omega) (by omega) (by omega)).trans h9.symm), rS_kept hZ (fun b t e h9 k1 k2 => (hk b t e h9 (by omega) (by omega) (by omega)).trans h9.symm), q_W, hone, tPT, tMU, tFa, tNx, tRe, tρ1, tρ2, tcn, tct, tCF, tCL, hFL⟩
theorem d_L_law_430 : decode b_L_law 430 = .ok (.aload_n 3, 1) := by decide +kernel
theorem d_L_law_431 : decode b_L_law 431 = .ok (.iconst 0, 1) := by decide +kernel
theorem d_L_law_432 : decode b_L_law 432 = .ok (.laload, 1) := by decide +kernel
theorem d_L_law_433 : decode b_L_law 433 = .ok (.iload 6, 2) := by decide +kernel
theorem d_L_law_435 : decode b_L_law 435 = .ok (.i2l, 1) := by decide +kernel
theorem d_L_law_436 : decode b_L_law 436 = .ok (.lcmp, 1) := by decide +kernel
theorem d_L_law_437 : decode b_L_law 437 = .ok (.ifCond .eq 5, 3) := by decide +kernel
theorem d_L_law_486 : decode b_L_law 486 = .ok (.aload_n 3, 1) := by decide +kernel
theorem d_L_law_487 : decode b_L_law 487 = .ok (.iconst 0, 1) := by decide +kernel
theorem d_L_law_488 : decode b_L_law 488 = .ok (.laload, 1) := by decide +kernel
theorem d_L_law_489 : decode b_L_law 489 = .ok (.iload 6, 2) := by decide +kernel
theorem d_L_law_491 : decode b_L_law 491 = .ok (.i2l, 1) := by decide +kernel
theorem d_L_law_492 : decode b_L_law 492 = .ok (.lcmp, 1) := by decide +kernel
theorem d_L_law_493 : decode b_L_law 493 = .ok (.ifCond .eq 5, 3) := by decide +kernel
theorem d_L_law_554 : decode b_L_law 554 = .ok (.aload_n 3, 1) := by decide +kernel
theorem d_L_law_555 : decode b_L_law 555 = .ok (.iconst 0, 1) := by decide +kernel
theorem d_L_law_556 : decode b_L_law 556 = .ok (.laload, 1) := by decide +kernel
theorem d_L_law_557 : decode b_L_law 557 = .ok (.iload 6, 2) := by decide +kernel
theorem d_L_law_559 : decode b_L_law 559 = .ok (.i2l, 1) := by decide +kernel
theorem d_L_law_560 : decode b_L_law 560 = .ok (.lcmp, 1) := by decide +kernel
theorem d_L_law_561 : decode b_L_law 561 = .ok (.ifCond .eq 5, 3) := by decide +kernel
theorem d_L_law_610 : decode b_L_law 610 = .ok (.aload_n 3, 1) := by decide +kernel
theorem d_L_law_611 : decode b_L_law 611 = .ok (.iconst 0, 1) := by decide +kernel
theorem d_L_law_612 : decode b_L_law 612 = .ok (.laload, 1) := by decide +kernel
theorem d_L_law_613 : decode b_L_law 613 = .ok (.iload 6, 2) := by decide +kernel
theorem d_L_law_615 : decode b_L_law 615 = .ok (.i2l, 1) := by decide +kernel
theorem d_L_law_616 : decode b_L_law 616 = .ok (.lcmp, 1) := by decide +kernel
theorem d_L_law_617 : decode b_L_law 617 = .ok (.ifCond .eq 5, 3) := by decide +kernel
theorem d_L_law_678 : decode b_L_law 678 = .ok (.aload_n 3, 1) := by decide +kernel
theorem d_L_law_679 : decode b_L_law 679 = .ok (.iconst 0, 1) := by decide +kernel
theorem d_L_law_680 : decode b_L_law 680 = .ok (.laload, 1) := by decide +kernel
theorem d_L_law_681 : decode b_L_law 681 = .ok (.iload 6, 2) := by decide +kernel
theorem d_L_law_683 : decode b_L_law 683 = .ok (.i2l, 1) := by decide +kernel
theorem d_L_law_684 : decode b_L_law 684 = .ok (.lcmp, 1) := by decide +kernel
theorem d_L_law_685 : decode b_L_law 685 = .ok (.ifCond .eq 5, 3) := by decide +kernel
theorem d_L_law_746 : decode b_L_law 746 = .ok (.aload_n 3, 1) := by decide +kernel
theorem d_L_law_747 : decode b_L_law 747 = .ok (.iconst 0, 1) := by decide +kernel
theorem d_L_law_748 : decode b_L_law 748 = .ok (.laload, 1) := by decide +kernel
theorem d_L_law_749 : decode b_L_law 749 = .ok (.iload 6, 2) := by decide +kernel
theorem d_L_law_751 : decode b_L_law 751 = .ok (.i2l, 1) := by decide +kernel
theorem d_L_law_752 : decode b_L_law 752 = .ok (.lcmp, 1) := by decide +kernel
theorem d_L_law_753 : decode b_L_law 753 = .ok (.ifCond .eq 5, 3) := by decide +kernel
set_option maxHeartbeats 8000000 in
set_option maxRecDepth 100000 in
/-- total -/
theorem lk_total {p : Program} {l : Launch} {e : Env} {s : State} {m : MethodId} {below : List Frame} {meth : Method} {c : Code} {Q : State → Prop} {D : mp_G} {g : Nat → ClassId} {A : Nat → Prop} {b L i : Nat} {xs : Nat → Int32} {cells slots : Nat} {S : mp_M} {H : Heap} {locs : List Loc} {ls : Array Slot} (hx : p.tables.exec = Jvm.exec) (hb : c.code = b_L_law) (hml : c.maxLocals = 7) (hts : ∀ w ∈ lw_tbl, w.before #[Value.ref b] s = true) (hg : ∀ w ∈ gw, w.before #[Value.ref b] s = true) (hown : s.vm.findClass R_L = some m.cls) (hK : mp_K D classes (tys g) s) (hX : va_X b L xs D.2.1 D.2.1.heap) (hL9 : L ≤ 3585) (hi : i + 6 < L) (hc : cells + 189 ≤ room_1.cells) (hs9 : slots + 11130 ≤ room_1.slots) (hl9 : l.stackTraces = false) {nl oa mo o : Nat} (hnl : nl ≤ 3) (hn1 : 1 ≤ nl) (hV : lawI g nl o mo oa S) (hI : mp_I D classes A s.heap S H locs) (hl : lv_has ls 7 [(4, .int (nI i)), (3, .ref oa), (2, .ref mo), (1, .ref o), (0, .ref b)]) (kx : ∀ (S : mp_M) (H : Heap) (locs : List Loc) (ls : Array Slot), lawI g nl o mo oa S → mp_I D classes A s.heap S H locs → lv_has ls 7 [(4, .int (nI i)), (3, .ref oa), (2, .ref mo), (1, .ref o), (0, .ref b)] → W p l e room_1 s m #[Value.ref b] below meth c H locs (cells + 189) (slots + 11130) Q (F0 m 822 ls [])) : W p l e room_1 s m #[Value.ref b] below meth c H locs (cells) (slots) Q (F0 m 401 ls []) := by
  have hc : cells + 189 ≤ 164015 := hc
  have hs9 : slots + 11130 ≤ 8604026 := hs9
  obtain ⟨pa, lo, fa0, ma, hd, eo, me, ad, cf, gv, tk, n, fq, an, av, sv, ff, hq, zq, mq, cq, th, kn, ak, s0, z0, PO, LF, DG, LE, ZM, OF, FV, of, h_o, h_pa, h_fa0, h_oa, h_mo, h_mp, h_le, h_dg, h_lt, h_ze, h_oq, h_fv, hP, hL, hM, hWk, hA, hgv, htk, hnt, hR, hI9, hIn, hF9⟩ := hV
  rcases an_kn hA with ⟨hkn, hun⟩ | ⟨hkn, han, hroM, Av, Tv, hsve, hVg, hroB⟩
  · obtain ⟨so, hso⟩ := an_opt (an_sv hA)
    subst hso
    subst hkn
    refine lv_aload_n hx hb d_L_law_401 rfl (lv_at hl 3 rfl) ?_
    refine lv_aload_n hx hb d_L_law_402 rfl (lv_at hl 1 rfl) ?_
    refine mp_calli hI (lw_runS (As := [.ref o, .ref oa]) (rest := []) ⟨hx, hb, hml, hown, hg⟩ (c_L_totalU l D g S _ o pa (.int (nI nl)) (.ref lo) (.ref fa0) (.int (nI gv)) (.int (nI tk)) (.int fq) an av so  oa of h_o h_oa hl9 (hun.elim (fun q => Or.inl q) (fun q => Or.inr (Or.inl q)))) ⟨callBW_of 2 hg (hts _ q_734) rfl rfl (hg _ q_0) (hg _ q_732) (by decide +kernel) ⟨Nat.le_of_ble_eq_true rfl, Nat.le_of_ble_eq_true rfl⟩, hg _ q_733⟩ (mp_pre hI hK [.ref o, .ref oa]) rfl rfl hl.1 rfl (lv_room (Nat.le_of_ble_eq_true rfl)) d_L_law_403 ⟨by omega, by omega⟩) (fun r4 S1 H2 locs p_3 hI => ?_)
    obtain ⟨er4, eS5⟩ := p_3
    rw [eS5] at hI
    have er4 : r4 = nI 1 := er4
    subst er4
    refine lv_istore (lv' := [(5, .int (nI 1)), (4, .int (nI i)), (3, .ref oa), (2, .ref mo), (1, .ref o), (0, .ref b)]) hx hb d_L_law_406 hl (by decide) rfl (fun ls hl => ?_)
    refine lv_aload_n hx hb d_L_law_408 rfl (lv_at hl 3 rfl) ?_
    refine mp_calli hI (va_runV (As := []) (rest := []) ⟨hx, hb, hml, hown, hg⟩ (c_M_totalU l D g S _ mo (.int (nI nl)) (.int (nI gv)) (.int (nI tk)) (.ref (ad 2001)) (.int (nI n)) (.ref (ad 2002)) (.ref (ad 2003)) (.ref (ad 2004)) (.ref (ad 2005)) (.ref (ad 2006)) (.ref (ad 2007)) (.int ak) (.int s0) (.ref (ad 2008)) (.ref (ad 2009)) (.ref (ad 2010)) (.ref (ad 2011)) (.ref (ad 2012)) (.ref (ad 2013)) (.int z0) (.ref (ad 2014)) (.ref (ad 2015)) (.ref (ad 2016)) (.ref (ad 2017)) (.ref (ad 2018)) (.ref (ad 2019)) (.ref (ad 2020)) (.ref (ad 2021)) (.ref (ad 2022)) th  h_mo) ⟨(callB_of 0 hg (wd_goodG q_1067) rfl rfl rfl (hg _ q_5) (hg _ q_1064) (by decide +kernel) ⟨Nat.le_of_ble_eq_true rfl, Nat.le_of_ble_eq_true rfl⟩), hg _ q_1065, hg _ q_1066⟩ (mp_preV (C := R_M) (T := F_M) hI hK h_mo rfl []) rfl rfl hl.1 rfl (lv_room (Nat.le_of_ble_eq_true rfl)) d_L_law_409 ⟨by omega, by omega⟩) (fun r9 S6 H7 locs p_8 hI => ?_)
    obtain ⟨q_mo, fr⟩ := p_8
    have h_o : S6 o = some (0, .inr (0, [.int (nI nl), .ref pa, .ref lo, .ref fa0, .int (nI gv), .int (nI tk), .int fq, .int an, .int av, (va_rf so)])) := (fr o (mp_in h_o) (mp_ne h_o h_mo (by omega))).trans h_o
    have h_pa : S6 pa = some (1, .inl ((g 2), 40, .inr (.inr (.inr (.inr (rfs eo 40)))))) := (fr pa (mp_in h_pa) (mp_ne h_pa h_mo (by omega))).trans h_pa
    have h_fa0 : S6 fa0 = some (3, .inl ((g 0), 3, .inl ff)) := (fr fa0 (mp_in h_fa0) (mp_ne h_fa0 h_mo (by omega))).trans h_fa0
    have h_oa : S6 oa = some (9, .inl ((g 4), 1, .inr (.inl of))) := (fr oa (mp_in h_oa) (mp_ne h_oa h_mo (by omega))).trans h_oa
    have h_mp : S6 (ad 2001) = some (2001, .inl ((g 0), 40000, .inl (fun j => nI (PO j).val))) := (fr (ad 2001) (mp_in h_mp) (mp_ne h_mp h_mo (by omega))).trans h_mp
    have h_le : S6 (ad 2008) = some (2008, .inl ((g 0), 17, .inl (fun j => nI (LF j)))) := (fr (ad 2008) (mp_in h_le) (mp_ne h_le h_mo (by omega))).trans h_le
    have h_dg : S6 (ad 2010) = some (2010, .inl ((g 0), 3, .inl (fun j => nI (DG j)))) := (fr (ad 2010) (mp_in h_dg) (mp_ne h_dg h_mo (by omega))).trans h_dg
    have h_lt : S6 (ad 2011) = some (2011, .inl ((g 0), 51, .inl (fun j => nI (LE j).val))) := (fr (ad 2011) (mp_in h_lt) (mp_ne h_lt h_mo (by omega))).trans h_lt
    have h_ze : S6 (ad 2014) = some (2014, .inl ((g 0), 51, .inl (fun j => nI (ZM j).val))) := (fr (ad 2014) (mp_in h_ze) (mp_ne h_ze h_mo (by omega))).trans h_ze
    have h_oq : S6 (ad 2015) = some (2015, .inl ((g 0), 17, .inl (fun j => nI (OF j)))) := (fr (ad 2015) (mp_in h_oq) (mp_ne h_oq h_mo (by omega))).trans h_oq
    have h_fv : S6 (ad 2016) = some (2016, .inl ((g 5), 3, .inl FV)) := (fr (ad 2016) (mp_in h_fv) (mp_ne h_fv h_mo (by omega))).trans h_fv
    have hP := gPs_kept hP (S1 := S6) (fun b t9 e9 hb9 h1 h2 => by have h8 : S6 b = some (t9, e9) := (fr b (mp_in hb9) (mp_ne hb9 h_mo (by omega))).trans hb9; rw [h8, hb9])
    have hL := gLs_kept hL (S1 := S6) (fun b t9 e9 hb9 h1 h2 => by have h8 : S6 b = some (t9, e9) := (fr b (mp_in hb9) (mp_ne hb9 h_mo (by omega))).trans hb9; rw [h8, hb9])
    have hM := gMs_kept hM (S1 := S6) (fun b t9 e9 hb9 h1 h2 => by have h8 : S6 b = some (t9, e9) := (fr b (mp_in hb9) (mp_ne hb9 h_mo (by omega))).trans hb9; rw [h8, hb9])
    have hWk := gWs_kept hWk (S1 := S6) (fun b t9 e9 hb9 h1 h2 => by have h8 : S6 b = some (t9, e9) := (fr b (mp_in hb9) (mp_ne hb9 h_mo (by omega))).trans hb9; rw [h8, hb9])
    have hA := anP_kept hA (S1 := S6) (fun b t9 e9 hb9 h1 h2 => by have h8 : S6 b = some (t9, e9) := (fr b (mp_in hb9) (mp_ne hb9 h_mo (by omega))).trans hb9; rw [h8, hb9])
    have h_mo := q_mo
    refine lv_istore (lv' := [(6, .int r9), (5, .int (nI 1)), (4, .int (nI i)), (3, .ref oa), (2, .ref mo), (1, .ref o), (0, .ref b)]) hx hb d_L_law_412 hl (by decide) rfl (fun ls hl => ?_)
    refine lv_aload_n hx hb d_L_law_414 rfl (lv_at hl 4 rfl) ?_
    refine mp_calli hI (va_runV (As := []) (rest := []) ⟨hx, hb, hml, hown, hg⟩ (c_M_thrown l D g S6 _ mo (.int (nI nl)) (.int (nI gv)) (.int (nI tk)) (.ref (ad 2001)) (.int (nI n)) (.ref (ad 2002)) (.ref (ad 2003)) (.ref (ad 2004)) (.ref (ad 2005)) (.ref (ad 2006)) (.ref (ad 2007)) (.int (nI 0)) (.int ak) (.int s0) (.ref (ad 2008)) (.ref (ad 2009)) (.ref (ad 2010)) (.ref (ad 2011)) (.ref (ad 2012)) (.ref (ad 2013)) (.int z0) (.ref (ad 2014)) (.ref (ad 2015)) (.ref (ad 2016)) (.ref (ad 2017)) (.ref (ad 2018)) (.ref (ad 2019)) (.ref (ad 2020)) (.ref (ad 2021)) (.ref (ad 2022)) (nI 1) h_mo) ⟨(callB_of 0 hg (wd_goodG q_902) rfl rfl rfl (hg _ q_5) (hg _ q_899) (by decide +kernel) ⟨Nat.le_of_ble_eq_true rfl, Nat.le_of_ble_eq_true rfl⟩), hg _ q_900, hg _ q_901⟩ (mp_preV (C := R_M) (T := F_M) hI hK h_mo rfl []) rfl rfl hl.1 rfl (lv_room (Nat.le_of_ble_eq_true rfl)) d_L_law_415 ⟨by omega, by omega⟩) (fun r13 S10 H11 locs p_12 hI => ?_)
    obtain ⟨er13, eS14⟩ := p_12
    rw [eS14] at hI
    have er13 : r13 = nI 1 := er13
    subst er13
    refine lv_iload hx hb d_L_law_418 (lv_at hl 1 rfl) ?_
    refine lv_icmp_eq (tgt := 425) hx hb d_L_law_420 (by decide) (fun _ => ?_) (fun h9 => absurd (rfl) h9)
    refine lv_iload hx hb d_L_law_425 (lv_at hl 1 rfl) ?_
    refine lv_if_ne (tgt := 442) hx hb d_L_law_427 (by decide) (fun _ => ?_) (fun h9 => absurd h9 (by decide))
    refine lv_goto (tgt := 822) hx hb d_L_law_442 (by decide) ?_
    refine W.widen (k := cells + 189) (n := slots + 11130) (by omega) (by omega) ?_
    exact kx S6 _ _ ls ⟨(pa), (lo), (fa0), (ma), (hd), (eo), (me), (ad), (cf), (gv), (tk), (n), (fq), (an), (av), ((va_rf so)), (ff), (hq), (zq), (mq), (cq), (nI 1), (nI 0), (ak), (s0), (z0), (PO), (LF), (DG), (LE), (ZM), (OF), (FV), (of), h_o, h_pa, h_fa0, h_oa, h_mo, h_mp, h_le, h_dg, h_lt, h_ze, h_oq, h_fv, hP, hL, hM, hWk, hA, hgv, htk, hnt, hR, hI9, hIn, hF9⟩ hI (lv_sub hl [2, 3, 4, 5, 6] rfl)
  · obtain ⟨mkq, mnq, mcapq, mzq, mkfq, mnfq, hfq, l_lo, l_ma, l_hd, l_Y, l_mc, l_B⟩ := id hL
    subst hkn
    subst han
    subst hsve
    obtain ⟨s9, zc, lf, hs, hzc, hav, hs0, hz0, hs1, hz1, kw1, kw2, kw3, kw4⟩ := ro_kw l_B.1 hIn hnl hn1 (lsB_e9 l_B) hroB hroM
    subst hav
    subst hs0
    subst hz0
    obtain ⟨v_vo, v_d9, v_ra, v_ka, v_qo, v_ky, v_pr, v_lw, v_ll, v_mu, v_fa, v_nx, v_re, v_so1, v_rq1, v_rp1, v_so2, v_rq2, v_rp2, v_zo, v_fs, v_lz, v_rr, v_rc, v_za, v_mu9, v_po, v_pn, v_pp, v_on, v_na, v_ot, v_ta, vP, vMU, vR1, vR2, vE, vLo, vRR, vZ, vW, vhone, vtPT, vtMU, vtFa, vtNx, vtRe, vtρ1, vtρ2, vtcn, vtct, vtCF, vtCL, vhFL⟩ := id hVg
    rw [hz1] at v_vo
    rw [hs1] at v_qo
    refine lv_aload_n hx hb d_L_law_401 rfl (lv_at hl 3 rfl) ?_
    refine lv_aload_n hx hb d_L_law_402 rfl (lv_at hl 1 rfl) ?_
    refine mp_calli hI (lw_runS (As := [.ref o, .ref oa]) (rest := []) ⟨hx, hb, hml, hown, hg⟩ (c_L_totalK l D g S _ o pa Av.vo Av.qo Av.ky Av.lz Av.za Av.mu9 Av.po nl s9 zc (.ref lo) (.ref fa0) (.int (nI gv)) (.int (nI tk)) (.int fq) (.int (nI nl)) (.ref Av.d9) (.ref Av.zo) (.ref Av.rr) (.ref Av.rc) (.int (nI nl)) (.ref Av.pr) (.ref Av.lw) (.ref Av.ll) (.ref Av.mu) (.ref Av.fa) (.ref Av.nx) (.ref Av.re) (.ref Av.so1) (.ref Av.so2) eo Av.le Av.la Tv.kQ Tv.MQ Tv.dl Tv.CL Tv.ZZ oa of  h_o h_pa v_vo v_qo v_ky v_lz v_za v_mu9 h_oa vLo vZ hnl hs hzc ) ⟨callBW_of 2 hg (hts _ q_734) rfl rfl (hg _ q_0) (hg _ q_732) (by decide +kernel) ⟨Nat.le_of_ble_eq_true rfl, Nat.le_of_ble_eq_true rfl⟩, hg _ q_733⟩ (mp_pre hI hK [.ref o, .ref oa]) rfl rfl hl.1 rfl (lv_room (Nat.le_of_ble_eq_true rfl)) d_L_law_403 ⟨by omega, by omega⟩) (fun r18 S15 H16 locs p_17 hI => ?_)
    obtain ⟨er18, ⟨f1, q_oa, hf1⟩, fr⟩ := p_17
    subst er18
    have h_o : S15 o = some (0, .inr (0, [.int (nI nl), .ref pa, .ref lo, .ref fa0, .int (nI gv), .int (nI tk), .int fq, .int 1, .int (nI zc), .ref Av.vo])) := fr o _ _ h_o (by omega)
    have h_pa : S15 pa = some (1, .inl ((g 2), 40, .inr (.inr (.inr (.inr (rfs eo 40)))))) := fr pa _ _ h_pa (by omega)
    have h_fa0 : S15 fa0 = some (3, .inl ((g 0), 3, .inl ff)) := fr fa0 _ _ h_fa0 (by omega)
    have h_mo : S15 mo = some (2000, .inr (10, [.int (nI nl), .int (nI gv), .int (nI tk), .int th, .ref (ad 2001), .int (nI n), .ref (ad 2002), .ref (ad 2003), .ref (ad 2004), .ref (ad 2005), .ref (ad 2006), .ref (ad 2007), .int (nI 1), .int ak, .int (nI s9), .ref (ad 2008), .ref (ad 2009), .ref (ad 2010), .ref (ad 2011), .ref (ad 2012), .ref (ad 2013), .int (nI zc), .ref (ad 2014), .ref (ad 2015), .ref (ad 2016), .ref (ad 2017), .ref (ad 2018), .ref (ad 2019), .ref (ad 2020), .ref (ad 2021), .ref (ad 2022)])) := fr mo _ _ h_mo (by omega)
    have h_mp : S15 (ad 2001) = some (2001, .inl ((g 0), 40000, .inl (fun j => nI (PO j).val))) := fr (ad 2001) _ _ h_mp (by omega)
    have h_le : S15 (ad 2008) = some (2008, .inl ((g 0), 17, .inl (fun j => nI (LF j)))) := fr (ad 2008) _ _ h_le (by omega)
    have h_dg : S15 (ad 2010) = some (2010, .inl ((g 0), 3, .inl (fun j => nI (DG j)))) := fr (ad 2010) _ _ h_dg (by omega)
    have h_lt : S15 (ad 2011) = some (2011, .inl ((g 0), 51, .inl (fun j => nI (LE j).val))) := fr (ad 2011) _ _ h_lt (by omega)
    have h_ze : S15 (ad 2014) = some (2014, .inl ((g 0), 51, .inl (fun j => nI (ZM j).val))) := fr (ad 2014) _ _ h_ze (by omega)
    have h_oq : S15 (ad 2015) = some (2015, .inl ((g 0), 17, .inl (fun j => nI (OF j)))) := fr (ad 2015) _ _ h_oq (by omega)
    have h_fv : S15 (ad 2016) = some (2016, .inl ((g 5), 3, .inl FV)) := fr (ad 2016) _ _ h_fv (by omega)
    have hP := gPs_kept hP (S1 := S15) (fun b t9 e9 hb9 h1 h2 => by have h8 : S15 b = some (t9, e9) := fr b _ _ hb9 (by omega); rw [h8, hb9])
    have hL := gLs_kept hL (S1 := S15) (fun b t9 e9 hb9 h1 h2 => by have h8 : S15 b = some (t9, e9) := fr b _ _ hb9 (by omega); rw [h8, hb9])
    have hM := gMs_kept hM (S1 := S15) (fun b t9 e9 hb9 h1 h2 => by have h8 : S15 b = some (t9, e9) := fr b _ _ hb9 (by omega); rw [h8, hb9])
    have hWk := gWs_kept hWk (S1 := S15) (fun b t9 e9 hb9 h1 h2 => by have h8 : S15 b = some (t9, e9) := fr b _ _ hb9 (by omega); rw [h8, hb9])
    have hVg := vG_kept hVg (S1 := S15) (fun b t9 e9 hb9 h1 h2 => by have h8 : S15 b = some (t9, e9) := fr b _ _ hb9 (by omega); rw [h8, hb9])
    have h_oa := q_oa
    refine lv_istore (lv' := [(5, .int (nI 0)), (4, .int (nI i)), (3, .ref oa), (2, .ref mo), (1, .ref o), (0, .ref b)]) hx hb d_L_law_406 hl (by decide) rfl (fun ls hl => ?_)
    refine lv_aload_n hx hb d_L_law_408 rfl (lv_at hl 3 rfl) ?_
    refine mp_calli hI (va_runV (As := []) (rest := []) ⟨hx, hb, hml, hown, hg⟩ (c_M_totalK l D g S15 _ mo (ad 2001) (ad 2008) (ad 2010) (ad 2011) (ad 2014) (ad 2015) nl s9 zc (.int (nI gv)) (.int (nI tk)) (.int (nI n)) (.ref (ad 2002)) (.ref (ad 2003)) (.ref (ad 2004)) (.ref (ad 2005)) (.ref (ad 2006)) (.ref (ad 2007)) (.int ak) (.ref (ad 2009)) (.ref (ad 2012)) (.ref (ad 2013)) (.ref (ad 2016)) (.ref (ad 2017)) (.ref (ad 2018)) (.ref (ad 2019)) (.ref (ad 2020)) (.ref (ad 2021)) (.ref (ad 2022)) PO LF DG LE ZM OF th  h_mo h_mp h_le h_dg h_lt h_ze h_oq hnl hs hzc ) ⟨(callB_of 0 hg (wd_goodG q_1067) rfl rfl rfl (hg _ q_5) (hg _ q_1064) (by decide +kernel) ⟨Nat.le_of_ble_eq_true rfl, Nat.le_of_ble_eq_true rfl⟩), hg _ q_1065, hg _ q_1066⟩ (mp_preV (C := R_M) (T := F_M) hI hK h_mo rfl []) rfl rfl hl.1 rfl (lv_room (Nat.le_of_ble_eq_true rfl)) d_L_law_409 ⟨by omega, by omega⟩) (fun r22 S19 H20 locs p_21 hI => ?_)
    obtain ⟨er22, q_mo, fr⟩ := p_21
    have h_o : S19 o = some (0, .inr (0, [.int (nI nl), .ref pa, .ref lo, .ref fa0, .int (nI gv), .int (nI tk), .int fq, .int 1, .int (nI zc), .ref Av.vo])) := fr o _ _ h_o (by omega)
    have h_pa : S19 pa = some (1, .inl ((g 2), 40, .inr (.inr (.inr (.inr (rfs eo 40)))))) := fr pa _ _ h_pa (by omega)
    have h_fa0 : S19 fa0 = some (3, .inl ((g 0), 3, .inl ff)) := fr fa0 _ _ h_fa0 (by omega)
    have h_oa : S19 oa = some (9, .inl ((g 4), 1, .inr (.inl f1))) := fr oa _ _ h_oa (by omega)
    have h_mp : S19 (ad 2001) = some (2001, .inl ((g 0), 40000, .inl (fun j => nI (PO j).val))) := fr (ad 2001) _ _ h_mp (by omega)
    have h_le : S19 (ad 2008) = some (2008, .inl ((g 0), 17, .inl (fun j => nI (LF j)))) := fr (ad 2008) _ _ h_le (by omega)
    have h_dg : S19 (ad 2010) = some (2010, .inl ((g 0), 3, .inl (fun j => nI (DG j)))) := fr (ad 2010) _ _ h_dg (by omega)
    have h_lt : S19 (ad 2011) = some (2011, .inl ((g 0), 51, .inl (fun j => nI (LE j).val))) := fr (ad 2011) _ _ h_lt (by omega)
    have h_ze : S19 (ad 2014) = some (2014, .inl ((g 0), 51, .inl (fun j => nI (ZM j).val))) := fr (ad 2014) _ _ h_ze (by omega)
    have h_oq : S19 (ad 2015) = some (2015, .inl ((g 0), 17, .inl (fun j => nI (OF j)))) := fr (ad 2015) _ _ h_oq (by omega)
    have h_fv : S19 (ad 2016) = some (2016, .inl ((g 5), 3, .inl FV)) := fr (ad 2016) _ _ h_fv (by omega)
    have hP := gPs_kept hP (S1 := S19) (fun b t9 e9 hb9 h1 h2 => by have h8 : S19 b = some (t9, e9) := fr b _ _ hb9 (by omega); rw [h8, hb9])
    have hL := gLs_kept hL (S1 := S19) (fun b t9 e9 hb9 h1 h2 => by have h8 : S19 b = some (t9, e9) := fr b _ _ hb9 (by omega); rw [h8, hb9])
    have hM := gMs_kept hM (S1 := S19) (fun b t9 e9 hb9 h1 h2 => by have h8 : S19 b = some (t9, e9) := fr b _ _ hb9 (by omega); rw [h8, hb9])
    have hWk := gWs_kept hWk (S1 := S19) (fun b t9 e9 hb9 h1 h2 => by have h8 : S19 b = some (t9, e9) := fr b _ _ hb9 (by omega); rw [h8, hb9])
    have hVg := vG_kept hVg (S1 := S19) (fun b t9 e9 hb9 h1 h2 => by have h8 : S19 b = some (t9, e9) := fr b _ _ hb9 (by omega); rw [h8, hb9])
    have h_mo := q_mo
    refine lv_istore (lv' := [(6, .int r22), (5, .int (nI 0)), (4, .int (nI i)), (3, .ref oa), (2, .ref mo), (1, .ref o), (0, .ref b)]) hx hb d_L_law_412 hl (by decide) rfl (fun ls hl => ?_)
    refine lv_aload_n hx hb d_L_law_414 rfl (lv_at hl 4 rfl) ?_
    refine mp_calli hI (va_runV (As := []) (rest := []) ⟨hx, hb, hml, hown, hg⟩ (c_M_thrown l D g S19 _ mo (.int (nI nl)) (.int (nI gv)) (.int (nI tk)) (.ref (ad 2001)) (.int (nI n)) (.ref (ad 2002)) (.ref (ad 2003)) (.ref (ad 2004)) (.ref (ad 2005)) (.ref (ad 2006)) (.ref (ad 2007)) (.int (nI 1)) (.int ak) (.int (nI s9)) (.ref (ad 2008)) (.ref (ad 2009)) (.ref (ad 2010)) (.ref (ad 2011)) (.ref (ad 2012)) (.ref (ad 2013)) (.int (nI zc)) (.ref (ad 2014)) (.ref (ad 2015)) (.ref (ad 2016)) (.ref (ad 2017)) (.ref (ad 2018)) (.ref (ad 2019)) (.ref (ad 2020)) (.ref (ad 2021)) (.ref (ad 2022)) (nI 0) h_mo) ⟨(callB_of 0 hg (wd_goodG q_902) rfl rfl rfl (hg _ q_5) (hg _ q_899) (by decide +kernel) ⟨Nat.le_of_ble_eq_true rfl, Nat.le_of_ble_eq_true rfl⟩), hg _ q_900, hg _ q_901⟩ (mp_preV (C := R_M) (T := F_M) hI hK h_mo rfl []) rfl rfl hl.1 rfl (lv_room (Nat.le_of_ble_eq_true rfl)) d_L_law_415 ⟨by omega, by omega⟩) (fun r26 S23 H24 locs p_25 hI => ?_)
    obtain ⟨er26, eS27⟩ := p_25
    rw [eS27] at hI
    have er26 : r26 = nI 0 := er26
    subst er26
    refine lv_iload hx hb d_L_law_418 (lv_at hl 1 rfl) ?_
    refine lv_icmp_eq (tgt := 425) hx hb d_L_law_420 (by decide) (fun _ => ?_) (fun h9 => absurd (rfl) h9)
    refine lv_iload hx hb d_L_law_425 (lv_at hl 1 rfl) ?_
    refine lv_if_ne (tgt := 442) hx hb d_L_law_427 (by decide) (fun h9 => absurd h9 (by decide)) (fun _ => ?_)
    refine lv_aload_n hx hb d_L_law_430 rfl (lv_at hl 3 rfl) ?_
    refine lv_iconst (v := nI 0) hx hb d_L_law_431 (by decide) ?_
    refine mp_lald hx hb hK.va hI 4 h_oa rfl (vp_in_nI (by decide) (by decide)) d_L_law_432 ?_
    refine lv_topl (fun v28 ev28 => ?_)
    obtain rfl : v28 = (nI s9).toInt64 := ev28.trans (hf1)
    refine lv_iload hx hb d_L_law_433 (lv_at hl 0 rfl) ?_
    refine lv_i2l (v := (r22).toInt64) hx hb d_L_law_435 rfl ?_
    refine W.lcmp hx hb d_L_law_436 ?_
    refine lv_if_eq (tgt := 442) hx hb d_L_law_437 (by decide) (fun _ => ?_) (fun h9 => absurd (lg_same (congrArg Int32.toInt64 (show nI s9 = r22 by rw [er22]))) h9)
    refine lv_goto (tgt := 822) hx hb d_L_law_442 (by decide) ?_
    refine W.widen (k := cells + 189) (n := slots + 11130) (by omega) (by omega) ?_
    exact kx S19 _ _ ls ⟨(pa), (lo), (fa0), (ma), (hd), (eo), (me), (ad), (cf), (gv), (tk), (n), (fq), (1), (nI zc), (.ref Av.vo), (ff), (hq), (zq), (mq), (cq), (nI 0), (nI 1), (ak), (nI s9), (nI zc), (PO), (LF), (DG), (LE), (ZM), (OF), (FV), (f1), h_o, h_pa, h_fa0, h_oa, h_mo, h_mp, h_le, h_dg, h_lt, h_ze, h_oq, h_fv, hP, hL, hM, hWk, (Or.inr ⟨rfl, hroM, Av, Tv, rfl, hVg, hroB⟩), hgv, htk, hnt, hR, hI9, hIn, hF9⟩ hI (lv_sub hl [2, 3, 4, 5, 6] rfl)
set_option maxHeartbeats 8000000 in
set_option maxRecDepth 100000 in
/-- left -/
theorem lk_left {p : Program} {l : Launch} {e : Env} {s : State} {m : MethodId} {below : List Frame} {meth : Method} {c : Code} {Q : State → Prop} {D : mp_G} {g : Nat → ClassId} {A : Nat → Prop} {b L i : Nat} {xs : Nat → Int32} {cells slots : Nat} {S : mp_M} {H : Heap} {locs : List Loc} {ls : Array Slot} (hx : p.tables.exec = Jvm.exec) (hb : c.code = b_L_law) (hml : c.maxLocals = 7) (hts : ∀ w ∈ lw_tbl, w.before #[Value.ref b] s = true) (hg : ∀ w ∈ gw, w.before #[Value.ref b] s = true) (hown : s.vm.findClass R_L = some m.cls) (hK : mp_K D classes (tys g) s) (hX : va_X b L xs D.2.1 D.2.1.heap) (hL9 : L ≤ 3585) (hi : i + 6 < L) (hc : cells + 189 ≤ room_1.cells) (hs9 : slots + 11130 ≤ room_1.slots) (hl9 : l.stackTraces = false) {nl oa mo o : Nat} (hnl : nl ≤ 3) (hn1 : 1 ≤ nl) (hV : lawI g nl o mo oa S) (hI : mp_I D classes A s.heap S H locs) (hl : lv_has ls 7 [(4, .int (nI i)), (3, .ref oa), (2, .ref mo), (1, .ref o), (0, .ref b)]) (kx : ∀ (S : mp_M) (H : Heap) (locs : List Loc) (ls : Array Slot), lawI g nl o mo oa S → mp_I D classes A s.heap S H locs → lv_has ls 7 [(4, .int (nI i)), (3, .ref oa), (2, .ref mo), (1, .ref o), (0, .ref b)] → W p l e room_1 s m #[Value.ref b] below meth c H locs (cells + 189) (slots + 11130) Q (F0 m 822 ls [])) : W p l e room_1 s m #[Value.ref b] below meth c H locs (cells) (slots) Q (F0 m 445 ls []) := by
  have hc : cells + 189 ≤ 164015 := hc
  have hs9 : slots + 11130 ≤ 8604026 := hs9
  obtain ⟨pa, lo, fa0, ma, hd, eo, me, ad, cf, gv, tk, n, fq, an, av, sv, ff, hq, zq, mq, cq, th, kn, ak, s0, z0, PO, LF, DG, LE, ZM, OF, FV, of, h_o, h_pa, h_fa0, h_oa, h_mo, h_mp, h_le, h_dg, h_lt, h_ze, h_oq, h_fv, hP, hL, hM, hWk, hA, hgv, htk, hnt, hR, hI9, hIn, hF9⟩ := hV
  rcases an_kn hA with ⟨hkn, hun⟩ | ⟨hkn, han, hroM, Av, Tv, hsve, hVg, hroB⟩
  · obtain ⟨so, hso⟩ := an_opt (an_sv hA)
    subst hso
    subst hkn
    refine lv_aload_n hx hb d_L_law_445 rfl (lv_at hl 3 rfl) ?_
    refine lv_aload_n hx hb d_L_law_446 rfl (lv_at hl 4 rfl) ?_
    refine lv_iload hx hb d_L_law_447 (lv_at hl 0 rfl) ?_
    refine lv_iconst (v := nI 1) hx hb d_L_law_449 (by decide) ?_
    refine lv_iadd hx hb d_L_law_450 ?_
    refine lv_topi (fun v1 ev1 => ?_)
    obtain rfl : v1 = nI (i + 1) := ev1.trans (nI_add _ _)
    refine mp_sld hx hb hX hK hI (vp_in_nI (show (i + 1) < L by omega) (by omega)) d_L_law_451 ?_
    refine lv_topi (fun v2 ev2 => ?_)
    obtain rfl : v2 = xs (i + 1) := ev2.trans (by rw [nI_clamp (by omega)])
    refine lv_aload_n hx hb d_L_law_452 rfl (lv_at hl 1 rfl) ?_
    refine mp_calli hI (lw_runS (As := [.ref o, .int (xs (i + 1)), .ref oa]) (rest := []) ⟨hx, hb, hml, hown, hg⟩ (c_L_leftU l D g S _ o pa (.int (nI nl)) (.ref lo) (.ref fa0) (.int (nI gv)) (.int (nI tk)) (.int fq) an av so (xs (i + 1)) oa of h_o h_oa hl9 (hun.elim (fun q => Or.inl q) (fun q => Or.inr (Or.inl q)))) ⟨callBW_of 3 hg (hts _ q_746) rfl rfl (hg _ q_0) (hg _ q_744) (by decide +kernel) ⟨Nat.le_of_ble_eq_true rfl, Nat.le_of_ble_eq_true rfl⟩, hg _ q_745⟩ (mp_pre hI hK [.ref o, .int (xs (i + 1)), .ref oa]) rfl rfl hl.1 rfl (lv_room (Nat.le_of_ble_eq_true rfl)) d_L_law_453 ⟨by omega, by omega⟩) (fun r6 S3 H4 locs p_5 hI => ?_)
    obtain ⟨er6, eS7⟩ := p_5
    rw [eS7] at hI
    have er6 : r6 = nI 1 := er6
    subst er6
    refine lv_istore (lv' := [(5, .int (nI 1)), (4, .int (nI i)), (3, .ref oa), (2, .ref mo), (1, .ref o), (0, .ref b)]) hx hb d_L_law_456 hl (by decide) rfl (fun ls hl => ?_)
    refine lv_aload_n hx hb d_L_law_458 rfl (lv_at hl 3 rfl) ?_
    refine lv_aload_n hx hb d_L_law_459 rfl (lv_at hl 5 rfl) ?_
    refine lv_iload hx hb d_L_law_460 (lv_at hl 1 rfl) ?_
    refine lv_iconst (v := nI 1) hx hb d_L_law_462 (by decide) ?_
    refine lv_iadd hx hb d_L_law_463 ?_
    refine lv_topi (fun v8 ev8 => ?_)
    obtain rfl : v8 = nI (i + 1) := ev8.trans (nI_add _ _)
    refine mp_sld hx hb hX hK hI (vp_in_nI (show (i + 1) < L by omega) (by omega)) d_L_law_464 ?_
    refine lv_topi (fun v9 ev9 => ?_)
    obtain rfl : v9 = xs (i + 1) := ev9.trans (by rw [nI_clamp (by omega)])
    refine mp_calli hI (va_runV (As := [.int (xs (i + 1))]) (rest := []) ⟨hx, hb, hml, hown, hg⟩ (c_M_leftU l D g S _ mo (.int (nI nl)) (.int (nI gv)) (.int (nI tk)) (.ref (ad 2001)) (.int (nI n)) (.ref (ad 2002)) (.ref (ad 2003)) (.ref (ad 2004)) (.ref (ad 2005)) (.ref (ad 2006)) (.ref (ad 2007)) (.int ak) (.int s0) (.ref (ad 2008)) (.ref (ad 2009)) (.ref (ad 2010)) (.ref (ad 2011)) (.ref (ad 2012)) (.ref (ad 2013)) (.int z0) (.ref (ad 2014)) (.ref (ad 2015)) (.ref (ad 2016)) (.ref (ad 2017)) (.ref (ad 2018)) (.ref (ad 2019)) (.ref (ad 2020)) (.ref (ad 2021)) (.ref (ad 2022)) th (xs (i + 1)) h_mo) ⟨(callB_of 1 hg (wd_goodG q_1071) rfl rfl rfl (hg _ q_5) (hg _ q_1068) (by decide +kernel) ⟨Nat.le_of_ble_eq_true rfl, Nat.le_of_ble_eq_true rfl⟩), hg _ q_1069, hg _ q_1070⟩ (mp_preV (C := R_M) (T := F_M) hI hK h_mo rfl [.int (xs (i + 1))]) rfl rfl hl.1 rfl (lv_room (Nat.le_of_ble_eq_true rfl)) d_L_law_465 ⟨by omega, by omega⟩) (fun r13 S10 H11 locs p_12 hI => ?_)
    obtain ⟨q_mo, fr⟩ := p_12
    have h_o : S10 o = some (0, .inr (0, [.int (nI nl), .ref pa, .ref lo, .ref fa0, .int (nI gv), .int (nI tk), .int fq, .int an, .int av, (va_rf so)])) := (fr o (mp_in h_o) (mp_ne h_o h_mo (by omega))).trans h_o
    have h_pa : S10 pa = some (1, .inl ((g 2), 40, .inr (.inr (.inr (.inr (rfs eo 40)))))) := (fr pa (mp_in h_pa) (mp_ne h_pa h_mo (by omega))).trans h_pa
    have h_fa0 : S10 fa0 = some (3, .inl ((g 0), 3, .inl ff)) := (fr fa0 (mp_in h_fa0) (mp_ne h_fa0 h_mo (by omega))).trans h_fa0
    have h_oa : S10 oa = some (9, .inl ((g 4), 1, .inr (.inl of))) := (fr oa (mp_in h_oa) (mp_ne h_oa h_mo (by omega))).trans h_oa
    have h_mp : S10 (ad 2001) = some (2001, .inl ((g 0), 40000, .inl (fun j => nI (PO j).val))) := (fr (ad 2001) (mp_in h_mp) (mp_ne h_mp h_mo (by omega))).trans h_mp
    have h_le : S10 (ad 2008) = some (2008, .inl ((g 0), 17, .inl (fun j => nI (LF j)))) := (fr (ad 2008) (mp_in h_le) (mp_ne h_le h_mo (by omega))).trans h_le
    have h_dg : S10 (ad 2010) = some (2010, .inl ((g 0), 3, .inl (fun j => nI (DG j)))) := (fr (ad 2010) (mp_in h_dg) (mp_ne h_dg h_mo (by omega))).trans h_dg
    have h_lt : S10 (ad 2011) = some (2011, .inl ((g 0), 51, .inl (fun j => nI (LE j).val))) := (fr (ad 2011) (mp_in h_lt) (mp_ne h_lt h_mo (by omega))).trans h_lt
    have h_ze : S10 (ad 2014) = some (2014, .inl ((g 0), 51, .inl (fun j => nI (ZM j).val))) := (fr (ad 2014) (mp_in h_ze) (mp_ne h_ze h_mo (by omega))).trans h_ze
    have h_oq : S10 (ad 2015) = some (2015, .inl ((g 0), 17, .inl (fun j => nI (OF j)))) := (fr (ad 2015) (mp_in h_oq) (mp_ne h_oq h_mo (by omega))).trans h_oq
    have h_fv : S10 (ad 2016) = some (2016, .inl ((g 5), 3, .inl FV)) := (fr (ad 2016) (mp_in h_fv) (mp_ne h_fv h_mo (by omega))).trans h_fv
    have hP := gPs_kept hP (S1 := S10) (fun b t9 e9 hb9 h1 h2 => by have h8 : S10 b = some (t9, e9) := (fr b (mp_in hb9) (mp_ne hb9 h_mo (by omega))).trans hb9; rw [h8, hb9])
    have hL := gLs_kept hL (S1 := S10) (fun b t9 e9 hb9 h1 h2 => by have h8 : S10 b = some (t9, e9) := (fr b (mp_in hb9) (mp_ne hb9 h_mo (by omega))).trans hb9; rw [h8, hb9])
    have hM := gMs_kept hM (S1 := S10) (fun b t9 e9 hb9 h1 h2 => by have h8 : S10 b = some (t9, e9) := (fr b (mp_in hb9) (mp_ne hb9 h_mo (by omega))).trans hb9; rw [h8, hb9])
    have hWk := gWs_kept hWk (S1 := S10) (fun b t9 e9 hb9 h1 h2 => by have h8 : S10 b = some (t9, e9) := (fr b (mp_in hb9) (mp_ne hb9 h_mo (by omega))).trans hb9; rw [h8, hb9])
    have hA := anP_kept hA (S1 := S10) (fun b t9 e9 hb9 h1 h2 => by have h8 : S10 b = some (t9, e9) := (fr b (mp_in hb9) (mp_ne hb9 h_mo (by omega))).trans hb9; rw [h8, hb9])
    have h_mo := q_mo
    refine lv_istore (lv' := [(6, .int r13), (5, .int (nI 1)), (4, .int (nI i)), (3, .ref oa), (2, .ref mo), (1, .ref o), (0, .ref b)]) hx hb d_L_law_468 hl (by decide) rfl (fun ls hl => ?_)
    refine lv_aload_n hx hb d_L_law_470 rfl (lv_at hl 4 rfl) ?_
    refine mp_calli hI (va_runV (As := []) (rest := []) ⟨hx, hb, hml, hown, hg⟩ (c_M_thrown l D g S10 _ mo (.int (nI nl)) (.int (nI gv)) (.int (nI tk)) (.ref (ad 2001)) (.int (nI n)) (.ref (ad 2002)) (.ref (ad 2003)) (.ref (ad 2004)) (.ref (ad 2005)) (.ref (ad 2006)) (.ref (ad 2007)) (.int (nI 0)) (.int ak) (.int s0) (.ref (ad 2008)) (.ref (ad 2009)) (.ref (ad 2010)) (.ref (ad 2011)) (.ref (ad 2012)) (.ref (ad 2013)) (.int z0) (.ref (ad 2014)) (.ref (ad 2015)) (.ref (ad 2016)) (.ref (ad 2017)) (.ref (ad 2018)) (.ref (ad 2019)) (.ref (ad 2020)) (.ref (ad 2021)) (.ref (ad 2022)) (nI 1) h_mo) ⟨(callB_of 0 hg (wd_goodG q_902) rfl rfl rfl (hg _ q_5) (hg _ q_899) (by decide +kernel) ⟨Nat.le_of_ble_eq_true rfl, Nat.le_of_ble_eq_true rfl⟩), hg _ q_900, hg _ q_901⟩ (mp_preV (C := R_M) (T := F_M) hI hK h_mo rfl []) rfl rfl hl.1 rfl (lv_room (Nat.le_of_ble_eq_true rfl)) d_L_law_471 ⟨by omega, by omega⟩) (fun r17 S14 H15 locs p_16 hI => ?_)
    obtain ⟨er17, eS18⟩ := p_16
    rw [eS18] at hI
    have er17 : r17 = nI 1 := er17
    subst er17
    refine lv_iload hx hb d_L_law_474 (lv_at hl 1 rfl) ?_
    refine lv_icmp_eq (tgt := 481) hx hb d_L_law_476 (by decide) (fun _ => ?_) (fun h9 => absurd (rfl) h9)
    refine lv_iload hx hb d_L_law_481 (lv_at hl 1 rfl) ?_
    refine lv_if_ne (tgt := 498) hx hb d_L_law_483 (by decide) (fun _ => ?_) (fun h9 => absurd h9 (by decide))
    refine lv_goto (tgt := 822) hx hb d_L_law_498 (by decide) ?_
    refine W.widen (k := cells + 189) (n := slots + 11130) (by omega) (by omega) ?_
    exact kx S10 _ _ ls ⟨(pa), (lo), (fa0), (ma), (hd), (eo), (me), (ad), (cf), (gv), (tk), (n), (fq), (an), (av), ((va_rf so)), (ff), (hq), (zq), (mq), (cq), (nI 1), (nI 0), (ak), (s0), (z0), (PO), (LF), (DG), (LE), (ZM), (OF), (FV), (of), h_o, h_pa, h_fa0, h_oa, h_mo, h_mp, h_le, h_dg, h_lt, h_ze, h_oq, h_fv, hP, hL, hM, hWk, hA, hgv, htk, hnt, hR, hI9, hIn, hF9⟩ hI (lv_sub hl [2, 3, 4, 5, 6] rfl)
  · obtain ⟨mkq, mnq, mcapq, mzq, mkfq, mnfq, hfq, l_lo, l_ma, l_hd, l_Y, l_mc, l_B⟩ := id hL
    subst hkn
    subst han
    subst hsve
    obtain ⟨s9, zc, lf, hs, hzc, hav, hs0, hz0, hs1, hz1, kw1, kw2, kw3, kw4⟩ := ro_kw l_B.1 hIn hnl hn1 (lsB_e9 l_B) hroB hroM
    subst hav
    subst hs0
    subst hz0
    obtain ⟨v_vo, v_d9, v_ra, v_ka, v_qo, v_ky, v_pr, v_lw, v_ll, v_mu, v_fa, v_nx, v_re, v_so1, v_rq1, v_rp1, v_so2, v_rq2, v_rp2, v_zo, v_fs, v_lz, v_rr, v_rc, v_za, v_mu9, v_po, v_pn, v_pp, v_on, v_na, v_ot, v_ta, vP, vMU, vR1, vR2, vE, vLo, vRR, vZ, vW, vhone, vtPT, vtMU, vtFa, vtNx, vtRe, vtρ1, vtρ2, vtcn, vtct, vtCF, vtCL, vhFL⟩ := id hVg
    rw [hz1] at v_vo
    rw [hs1] at v_qo
    rcases i32_b (xs (i + 1)) (show s9 < 2 ^ 31 by omega) with hx9 | ⟨k9, hk9, hxk⟩
    · refine lv_aload_n hx hb d_L_law_445 rfl (lv_at hl 3 rfl) ?_
      refine lv_aload_n hx hb d_L_law_446 rfl (lv_at hl 4 rfl) ?_
      refine lv_iload hx hb d_L_law_447 (lv_at hl 0 rfl) ?_
      refine lv_iconst (v := nI 1) hx hb d_L_law_449 (by decide) ?_
      refine lv_iadd hx hb d_L_law_450 ?_
      refine lv_topi (fun v19 ev19 => ?_)
      obtain rfl : v19 = nI (i + 1) := ev19.trans (nI_add _ _)
      refine mp_sld hx hb hX hK hI (vp_in_nI (show (i + 1) < L by omega) (by omega)) d_L_law_451 ?_
      refine lv_topi (fun v20 ev20 => ?_)
      obtain rfl : v20 = xs (i + 1) := ev20.trans (by rw [nI_clamp (by omega)])
      refine lv_aload_n hx hb d_L_law_452 rfl (lv_at hl 1 rfl) ?_
      refine mp_calli hI (lw_runS (As := [.ref o, .int (xs (i + 1)), .ref oa]) (rest := []) ⟨hx, hb, hml, hown, hg⟩ (c_L_leftN l D g S _ o pa Av.vo Av.qo Av.ky Av.lz Av.za Av.mu9 Av.po nl s9 zc (.ref lo) (.ref fa0) (.int (nI gv)) (.int (nI tk)) (.int fq) (.int (nI nl)) (.ref Av.d9) (.ref Av.zo) (.ref Av.rr) (.ref Av.rc) (.int (nI nl)) (.ref Av.pr) (.ref Av.lw) (.ref Av.ll) (.ref Av.mu) (.ref Av.fa) (.ref Av.nx) (.ref Av.re) (.ref Av.so1) (.ref Av.so2) eo Av.le Av.la Tv.kQ Tv.MQ Tv.dl Tv.CL Tv.ZZ oa of (xs (i + 1)) h_o h_pa v_vo v_qo v_ky v_lz v_za v_mu9 h_oa vLo vZ hnl hs hzc hx9) ⟨callBW_of 3 hg (hts _ q_746) rfl rfl (hg _ q_0) (hg _ q_744) (by decide +kernel) ⟨Nat.le_of_ble_eq_true rfl, Nat.le_of_ble_eq_true rfl⟩, hg _ q_745⟩ (mp_pre hI hK [.ref o, .int (xs (i + 1)), .ref oa]) rfl rfl hl.1 rfl (lv_room (Nat.le_of_ble_eq_true rfl)) d_L_law_453 ⟨by omega, by omega⟩) (fun r24 S21 H22 locs p_23 hI => ?_)
      obtain ⟨er24, ⟨f1, q_oa, hf1⟩, fr⟩ := p_23
      subst er24
      have h_o : S21 o = some (0, .inr (0, [.int (nI nl), .ref pa, .ref lo, .ref fa0, .int (nI gv), .int (nI tk), .int fq, .int 1, .int (nI zc), .ref Av.vo])) := fr o _ _ h_o (by omega)
      have h_pa : S21 pa = some (1, .inl ((g 2), 40, .inr (.inr (.inr (.inr (rfs eo 40)))))) := fr pa _ _ h_pa (by omega)
      have h_fa0 : S21 fa0 = some (3, .inl ((g 0), 3, .inl ff)) := fr fa0 _ _ h_fa0 (by omega)
      have h_mo : S21 mo = some (2000, .inr (10, [.int (nI nl), .int (nI gv), .int (nI tk), .int th, .ref (ad 2001), .int (nI n), .ref (ad 2002), .ref (ad 2003), .ref (ad 2004), .ref (ad 2005), .ref (ad 2006), .ref (ad 2007), .int (nI 1), .int ak, .int (nI s9), .ref (ad 2008), .ref (ad 2009), .ref (ad 2010), .ref (ad 2011), .ref (ad 2012), .ref (ad 2013), .int (nI zc), .ref (ad 2014), .ref (ad 2015), .ref (ad 2016), .ref (ad 2017), .ref (ad 2018), .ref (ad 2019), .ref (ad 2020), .ref (ad 2021), .ref (ad 2022)])) := fr mo _ _ h_mo (by omega)
      have h_mp : S21 (ad 2001) = some (2001, .inl ((g 0), 40000, .inl (fun j => nI (PO j).val))) := fr (ad 2001) _ _ h_mp (by omega)
      have h_le : S21 (ad 2008) = some (2008, .inl ((g 0), 17, .inl (fun j => nI (LF j)))) := fr (ad 2008) _ _ h_le (by omega)
      have h_dg : S21 (ad 2010) = some (2010, .inl ((g 0), 3, .inl (fun j => nI (DG j)))) := fr (ad 2010) _ _ h_dg (by omega)
      have h_lt : S21 (ad 2011) = some (2011, .inl ((g 0), 51, .inl (fun j => nI (LE j).val))) := fr (ad 2011) _ _ h_lt (by omega)
      have h_ze : S21 (ad 2014) = some (2014, .inl ((g 0), 51, .inl (fun j => nI (ZM j).val))) := fr (ad 2014) _ _ h_ze (by omega)
      have h_oq : S21 (ad 2015) = some (2015, .inl ((g 0), 17, .inl (fun j => nI (OF j)))) := fr (ad 2015) _ _ h_oq (by omega)
      have h_fv : S21 (ad 2016) = some (2016, .inl ((g 5), 3, .inl FV)) := fr (ad 2016) _ _ h_fv (by omega)
      have hP := gPs_kept hP (S1 := S21) (fun b t9 e9 hb9 h1 h2 => by have h8 : S21 b = some (t9, e9) := fr b _ _ hb9 (by omega); rw [h8, hb9])
      have hL := gLs_kept hL (S1 := S21) (fun b t9 e9 hb9 h1 h2 => by have h8 : S21 b = some (t9, e9) := fr b _ _ hb9 (by omega); rw [h8, hb9])
      have hM := gMs_kept hM (S1 := S21) (fun b t9 e9 hb9 h1 h2 => by have h8 : S21 b = some (t9, e9) := fr b _ _ hb9 (by omega); rw [h8, hb9])
      have hWk := gWs_kept hWk (S1 := S21) (fun b t9 e9 hb9 h1 h2 => by have h8 : S21 b = some (t9, e9) := fr b _ _ hb9 (by omega); rw [h8, hb9])
      have hVg := vG_kept hVg (S1 := S21) (fun b t9 e9 hb9 h1 h2 => by have h8 : S21 b = some (t9, e9) := fr b _ _ hb9 (by omega); rw [h8, hb9])
      have h_oa := q_oa
      refine lv_istore (lv' := [(5, .int (nI 0)), (4, .int (nI i)), (3, .ref oa), (2, .ref mo), (1, .ref o), (0, .ref b)]) hx hb d_L_law_456 hl (by decide) rfl (fun ls hl => ?_)
      refine lv_aload_n hx hb d_L_law_458 rfl (lv_at hl 3 rfl) ?_
      refine lv_aload_n hx hb d_L_law_459 rfl (lv_at hl 5 rfl) ?_
      refine lv_iload hx hb d_L_law_460 (lv_at hl 1 rfl) ?_
      refine lv_iconst (v := nI 1) hx hb d_L_law_462 (by decide) ?_
      refine lv_iadd hx hb d_L_law_463 ?_
      refine lv_topi (fun v25 ev25 => ?_)
      obtain rfl : v25 = nI (i + 1) := ev25.trans (nI_add _ _)
      refine mp_sld hx hb hX hK hI (vp_in_nI (show (i + 1) < L by omega) (by omega)) d_L_law_464 ?_
      refine lv_topi (fun v26 ev26 => ?_)
      obtain rfl : v26 = xs (i + 1) := ev26.trans (by rw [nI_clamp (by omega)])
      refine mp_calli hI (va_runV (As := [.int (xs (i + 1))]) (rest := []) ⟨hx, hb, hml, hown, hg⟩ (c_M_leftN l D g S21 _ mo (ad 2001) (ad 2008) (ad 2010) (ad 2011) (ad 2014) (ad 2015) nl s9 zc (.int (nI gv)) (.int (nI tk)) (.int (nI n)) (.ref (ad 2002)) (.ref (ad 2003)) (.ref (ad 2004)) (.ref (ad 2005)) (.ref (ad 2006)) (.ref (ad 2007)) (.int ak) (.ref (ad 2009)) (.ref (ad 2012)) (.ref (ad 2013)) (.ref (ad 2016)) (.ref (ad 2017)) (.ref (ad 2018)) (.ref (ad 2019)) (.ref (ad 2020)) (.ref (ad 2021)) (.ref (ad 2022)) PO LF DG LE ZM OF th (xs (i + 1)) h_mo h_mp h_le h_dg h_lt h_ze h_oq hnl hs hzc hx9) ⟨(callB_of 1 hg (wd_goodG q_1071) rfl rfl rfl (hg _ q_5) (hg _ q_1068) (by decide +kernel) ⟨Nat.le_of_ble_eq_true rfl, Nat.le_of_ble_eq_true rfl⟩), hg _ q_1069, hg _ q_1070⟩ (mp_preV (C := R_M) (T := F_M) hI hK h_mo rfl [.int (xs (i + 1))]) rfl rfl hl.1 rfl (lv_room (Nat.le_of_ble_eq_true rfl)) d_L_law_465 ⟨by omega, by omega⟩) (fun r30 S27 H28 locs p_29 hI => ?_)
      obtain ⟨er30, q_mo, fr⟩ := p_29
      have h_o : S27 o = some (0, .inr (0, [.int (nI nl), .ref pa, .ref lo, .ref fa0, .int (nI gv), .int (nI tk), .int fq, .int 1, .int (nI zc), .ref Av.vo])) := fr o _ _ h_o (by omega)
      have h_pa : S27 pa = some (1, .inl ((g 2), 40, .inr (.inr (.inr (.inr (rfs eo 40)))))) := fr pa _ _ h_pa (by omega)
      have h_fa0 : S27 fa0 = some (3, .inl ((g 0), 3, .inl ff)) := fr fa0 _ _ h_fa0 (by omega)
      have h_oa : S27 oa = some (9, .inl ((g 4), 1, .inr (.inl f1))) := fr oa _ _ h_oa (by omega)
      have h_mp : S27 (ad 2001) = some (2001, .inl ((g 0), 40000, .inl (fun j => nI (PO j).val))) := fr (ad 2001) _ _ h_mp (by omega)
      have h_le : S27 (ad 2008) = some (2008, .inl ((g 0), 17, .inl (fun j => nI (LF j)))) := fr (ad 2008) _ _ h_le (by omega)
      have h_dg : S27 (ad 2010) = some (2010, .inl ((g 0), 3, .inl (fun j => nI (DG j)))) := fr (ad 2010) _ _ h_dg (by omega)
      have h_lt : S27 (ad 2011) = some (2011, .inl ((g 0), 51, .inl (fun j => nI (LE j).val))) := fr (ad 2011) _ _ h_lt (by omega)
      have h_ze : S27 (ad 2014) = some (2014, .inl ((g 0), 51, .inl (fun j => nI (ZM j).val))) := fr (ad 2014) _ _ h_ze (by omega)
      have h_oq : S27 (ad 2015) = some (2015, .inl ((g 0), 17, .inl (fun j => nI (OF j)))) := fr (ad 2015) _ _ h_oq (by omega)
      have h_fv : S27 (ad 2016) = some (2016, .inl ((g 5), 3, .inl FV)) := fr (ad 2016) _ _ h_fv (by omega)
      have hP := gPs_kept hP (S1 := S27) (fun b t9 e9 hb9 h1 h2 => by have h8 : S27 b = some (t9, e9) := fr b _ _ hb9 (by omega); rw [h8, hb9])
      have hL := gLs_kept hL (S1 := S27) (fun b t9 e9 hb9 h1 h2 => by have h8 : S27 b = some (t9, e9) := fr b _ _ hb9 (by omega); rw [h8, hb9])
      have hM := gMs_kept hM (S1 := S27) (fun b t9 e9 hb9 h1 h2 => by have h8 : S27 b = some (t9, e9) := fr b _ _ hb9 (by omega); rw [h8, hb9])
      have hWk := gWs_kept hWk (S1 := S27) (fun b t9 e9 hb9 h1 h2 => by have h8 : S27 b = some (t9, e9) := fr b _ _ hb9 (by omega); rw [h8, hb9])
      have hVg := vG_kept hVg (S1 := S27) (fun b t9 e9 hb9 h1 h2 => by have h8 : S27 b = some (t9, e9) := fr b _ _ hb9 (by omega); rw [h8, hb9])
      have h_mo := q_mo
      refine lv_istore (lv' := [(6, .int r30), (5, .int (nI 0)), (4, .int (nI i)), (3, .ref oa), (2, .ref mo), (1, .ref o), (0, .ref b)]) hx hb d_L_law_468 hl (by decide) rfl (fun ls hl => ?_)
      refine lv_aload_n hx hb d_L_law_470 rfl (lv_at hl 4 rfl) ?_
      refine mp_calli hI (va_runV (As := []) (rest := []) ⟨hx, hb, hml, hown, hg⟩ (c_M_thrown l D g S27 _ mo (.int (nI nl)) (.int (nI gv)) (.int (nI tk)) (.ref (ad 2001)) (.int (nI n)) (.ref (ad 2002)) (.ref (ad 2003)) (.ref (ad 2004)) (.ref (ad 2005)) (.ref (ad 2006)) (.ref (ad 2007)) (.int (nI 1)) (.int ak) (.int (nI s9)) (.ref (ad 2008)) (.ref (ad 2009)) (.ref (ad 2010)) (.ref (ad 2011)) (.ref (ad 2012)) (.ref (ad 2013)) (.int (nI zc)) (.ref (ad 2014)) (.ref (ad 2015)) (.ref (ad 2016)) (.ref (ad 2017)) (.ref (ad 2018)) (.ref (ad 2019)) (.ref (ad 2020)) (.ref (ad 2021)) (.ref (ad 2022)) (nI 0) h_mo) ⟨(callB_of 0 hg (wd_goodG q_902) rfl rfl rfl (hg _ q_5) (hg _ q_899) (by decide +kernel) ⟨Nat.le_of_ble_eq_true rfl, Nat.le_of_ble_eq_true rfl⟩), hg _ q_900, hg _ q_901⟩ (mp_preV (C := R_M) (T := F_M) hI hK h_mo rfl []) rfl rfl hl.1 rfl (lv_room (Nat.le_of_ble_eq_true rfl)) d_L_law_471 ⟨by omega, by omega⟩) (fun r34 S31 H32 locs p_33 hI => ?_)
      obtain ⟨er34, eS35⟩ := p_33
      rw [eS35] at hI
      have er34 : r34 = nI 0 := er34
      subst er34
      refine lv_iload hx hb d_L_law_474 (lv_at hl 1 rfl) ?_
      refine lv_icmp_eq (tgt := 481) hx hb d_L_law_476 (by decide) (fun _ => ?_) (fun h9 => absurd (rfl) h9)
      refine lv_iload hx hb d_L_law_481 (lv_at hl 1 rfl) ?_
      refine lv_if_ne (tgt := 498) hx hb d_L_law_483 (by decide) (fun h9 => absurd h9 (by decide)) (fun _ => ?_)
      refine lv_aload_n hx hb d_L_law_486 rfl (lv_at hl 3 rfl) ?_
      refine lv_iconst (v := nI 0) hx hb d_L_law_487 (by decide) ?_
      refine mp_lald hx hb hK.va hI 4 h_oa rfl (vp_in_nI (by decide) (by decide)) d_L_law_488 ?_
      refine lv_topl (fun v36 ev36 => ?_)
      obtain rfl : v36 = ((-1 : Int32)).toInt64 := ev36.trans (hf1.trans (by decide))
      refine lv_iload hx hb d_L_law_489 (lv_at hl 0 rfl) ?_
      refine lv_i2l (v := (r30).toInt64) hx hb d_L_law_491 rfl ?_
      refine W.lcmp hx hb d_L_law_492 ?_
      refine lv_if_eq (tgt := 498) hx hb d_L_law_493 (by decide) (fun _ => ?_) (fun h9 => absurd (lg_same (congrArg Int32.toInt64 (show (-1 : Int32) = r30 by rw [er30]))) h9)
      refine lv_goto (tgt := 822) hx hb d_L_law_498 (by decide) ?_
      refine W.widen (k := cells + 189) (n := slots + 11130) (by omega) (by omega) ?_
      exact kx S27 _ _ ls ⟨(pa), (lo), (fa0), (ma), (hd), (eo), (me), (ad), (cf), (gv), (tk), (n), (fq), (1), (nI zc), (.ref Av.vo), (ff), (hq), (zq), (mq), (cq), (nI 0), (nI 1), (ak), (nI s9), (nI zc), (PO), (LF), (DG), (LE), (ZM), (OF), (FV), (f1), h_o, h_pa, h_fa0, h_oa, h_mo, h_mp, h_le, h_dg, h_lt, h_ze, h_oq, h_fv, hP, hL, hM, hWk, (Or.inr ⟨rfl, hroM, Av, Tv, rfl, hVg, hroB⟩), hgv, htk, hnt, hR, hI9, hIn, hF9⟩ hI (lv_sub hl [2, 3, 4, 5, 6] rfl)
    · obtain ⟨hk1, hk2, hk3⟩ := kw1 k9 hk9
      refine lv_aload_n hx hb d_L_law_445 rfl (lv_at hl 3 rfl) ?_
      refine lv_aload_n hx hb d_L_law_446 rfl (lv_at hl 4 rfl) ?_
      refine lv_iload hx hb d_L_law_447 (lv_at hl 0 rfl) ?_
      refine lv_iconst (v := nI 1) hx hb d_L_law_449 (by decide) ?_
      refine lv_iadd hx hb d_L_law_450 ?_
      refine lv_topi (fun v37 ev37 => ?_)
      obtain rfl : v37 = nI (i + 1) := ev37.trans (nI_add _ _)
      refine mp_sld hx hb hX hK hI (vp_in_nI (show (i + 1) < L by omega) (by omega)) d_L_law_451 ?_
      refine lv_topi (fun v38 ev38 => ?_)
      obtain rfl : v38 = xs (i + 1) := ev38.trans (by rw [nI_clamp (by omega)])
      refine lv_topi (fun v39 ev39 => ?_)
      obtain rfl : v39 = nI k9 := ev39.trans (hxk)
      refine lv_aload_n hx hb d_L_law_452 rfl (lv_at hl 1 rfl) ?_
      refine mp_calli hI (lw_runS (As := [.ref o, .int (nI k9), .ref oa]) (rest := []) ⟨hx, hb, hml, hown, hg⟩ (c_L_leftK l D g S _ o pa Av.vo Av.qo Av.ky Av.lz Av.za Av.mu9 Av.po nl s9 zc (.ref lo) (.ref fa0) (.int (nI gv)) (.int (nI tk)) (.int fq) (.int (nI nl)) (.ref Av.d9) (.ref Av.zo) (.ref Av.rr) (.ref Av.rc) (.int (nI nl)) (.ref Av.pr) (.ref Av.lw) (.ref Av.ll) (.ref Av.mu) (.ref Av.fa) (.ref Av.nx) (.ref Av.re) (.ref Av.so1) (.ref Av.so2) eo Av.le Av.la Tv.kQ Tv.MQ Tv.dl Tv.CL Tv.ZZ oa of k9 (lf k9).1 (lf k9).2.1 (lf k9).2.2 h_o h_pa v_vo v_qo v_ky v_lz v_za v_mu9 h_oa vLo vZ hnl hs hzc hk9 hk1 hk3.1 hk3.2.1 hk3.2.2) ⟨callBW_of 3 hg (hts _ q_746) rfl rfl (hg _ q_0) (hg _ q_744) (by decide +kernel) ⟨Nat.le_of_ble_eq_true rfl, Nat.le_of_ble_eq_true rfl⟩, hg _ q_745⟩ (mp_pre hI hK [.ref o, .int (nI k9), .ref oa]) rfl rfl hl.1 rfl (lv_room (Nat.le_of_ble_eq_true rfl)) d_L_law_453 ⟨by omega, by omega⟩) (fun r43 S40 H41 locs p_42 hI => ?_)
      obtain ⟨er43, ⟨f1, q_oa, hf1⟩, fr⟩ := p_42
      subst er43
      have h_o : S40 o = some (0, .inr (0, [.int (nI nl), .ref pa, .ref lo, .ref fa0, .int (nI gv), .int (nI tk), .int fq, .int 1, .int (nI zc), .ref Av.vo])) := fr o _ _ h_o (by omega)
      have h_pa : S40 pa = some (1, .inl ((g 2), 40, .inr (.inr (.inr (.inr (rfs eo 40)))))) := fr pa _ _ h_pa (by omega)
      have h_fa0 : S40 fa0 = some (3, .inl ((g 0), 3, .inl ff)) := fr fa0 _ _ h_fa0 (by omega)
      have h_mo : S40 mo = some (2000, .inr (10, [.int (nI nl), .int (nI gv), .int (nI tk), .int th, .ref (ad 2001), .int (nI n), .ref (ad 2002), .ref (ad 2003), .ref (ad 2004), .ref (ad 2005), .ref (ad 2006), .ref (ad 2007), .int (nI 1), .int ak, .int (nI s9), .ref (ad 2008), .ref (ad 2009), .ref (ad 2010), .ref (ad 2011), .ref (ad 2012), .ref (ad 2013), .int (nI zc), .ref (ad 2014), .ref (ad 2015), .ref (ad 2016), .ref (ad 2017), .ref (ad 2018), .ref (ad 2019), .ref (ad 2020), .ref (ad 2021), .ref (ad 2022)])) := fr mo _ _ h_mo (by omega)
      have h_mp : S40 (ad 2001) = some (2001, .inl ((g 0), 40000, .inl (fun j => nI (PO j).val))) := fr (ad 2001) _ _ h_mp (by omega)
      have h_le : S40 (ad 2008) = some (2008, .inl ((g 0), 17, .inl (fun j => nI (LF j)))) := fr (ad 2008) _ _ h_le (by omega)
      have h_dg : S40 (ad 2010) = some (2010, .inl ((g 0), 3, .inl (fun j => nI (DG j)))) := fr (ad 2010) _ _ h_dg (by omega)
      have h_lt : S40 (ad 2011) = some (2011, .inl ((g 0), 51, .inl (fun j => nI (LE j).val))) := fr (ad 2011) _ _ h_lt (by omega)
      have h_ze : S40 (ad 2014) = some (2014, .inl ((g 0), 51, .inl (fun j => nI (ZM j).val))) := fr (ad 2014) _ _ h_ze (by omega)
      have h_oq : S40 (ad 2015) = some (2015, .inl ((g 0), 17, .inl (fun j => nI (OF j)))) := fr (ad 2015) _ _ h_oq (by omega)
      have h_fv : S40 (ad 2016) = some (2016, .inl ((g 5), 3, .inl FV)) := fr (ad 2016) _ _ h_fv (by omega)
      have hP := gPs_kept hP (S1 := S40) (fun b t9 e9 hb9 h1 h2 => by have h8 : S40 b = some (t9, e9) := fr b _ _ hb9 (by omega); rw [h8, hb9])
      have hL := gLs_kept hL (S1 := S40) (fun b t9 e9 hb9 h1 h2 => by have h8 : S40 b = some (t9, e9) := fr b _ _ hb9 (by omega); rw [h8, hb9])
      have hM := gMs_kept hM (S1 := S40) (fun b t9 e9 hb9 h1 h2 => by have h8 : S40 b = some (t9, e9) := fr b _ _ hb9 (by omega); rw [h8, hb9])
      have hWk := gWs_kept hWk (S1 := S40) (fun b t9 e9 hb9 h1 h2 => by have h8 : S40 b = some (t9, e9) := fr b _ _ hb9 (by omega); rw [h8, hb9])
      have hVg := vG_kept hVg (S1 := S40) (fun b t9 e9 hb9 h1 h2 => by have h8 : S40 b = some (t9, e9) := fr b _ _ hb9 (by omega); rw [h8, hb9])
      have h_oa := q_oa
      refine lv_istore (lv' := [(5, .int (nI 0)), (4, .int (nI i)), (3, .ref oa), (2, .ref mo), (1, .ref o), (0, .ref b)]) hx hb d_L_law_456 hl (by decide) rfl (fun ls hl => ?_)
      refine lv_aload_n hx hb d_L_law_458 rfl (lv_at hl 3 rfl) ?_
      refine lv_aload_n hx hb d_L_law_459 rfl (lv_at hl 5 rfl) ?_
      refine lv_iload hx hb d_L_law_460 (lv_at hl 1 rfl) ?_
      refine lv_iconst (v := nI 1) hx hb d_L_law_462 (by decide) ?_
      refine lv_iadd hx hb d_L_law_463 ?_
      refine lv_topi (fun v44 ev44 => ?_)
      obtain rfl : v44 = nI (i + 1) := ev44.trans (nI_add _ _)
      refine mp_sld hx hb hX hK hI (vp_in_nI (show (i + 1) < L by omega) (by omega)) d_L_law_464 ?_
      refine lv_topi (fun v45 ev45 => ?_)
      obtain rfl : v45 = xs (i + 1) := ev45.trans (by rw [nI_clamp (by omega)])
      refine lv_topi (fun v46 ev46 => ?_)
      obtain rfl : v46 = nI k9 := ev46.trans (hxk)
      refine mp_calli hI (va_runV (As := [.int (nI k9)]) (rest := []) ⟨hx, hb, hml, hown, hg⟩ (c_M_leftK l D g S40 _ mo (ad 2001) (ad 2008) (ad 2010) (ad 2011) (ad 2014) (ad 2015) nl s9 zc (.int (nI gv)) (.int (nI tk)) (.int (nI n)) (.ref (ad 2002)) (.ref (ad 2003)) (.ref (ad 2004)) (.ref (ad 2005)) (.ref (ad 2006)) (.ref (ad 2007)) (.int ak) (.ref (ad 2009)) (.ref (ad 2012)) (.ref (ad 2013)) (.ref (ad 2016)) (.ref (ad 2017)) (.ref (ad 2018)) (.ref (ad 2019)) (.ref (ad 2020)) (.ref (ad 2021)) (.ref (ad 2022)) PO LF DG LE ZM OF th k9 h_mo h_mp h_le h_dg h_lt h_ze h_oq hnl hs hzc hk9 (by rw [hk2]; exact pN_l9 hk3)) ⟨(callB_of 1 hg (wd_goodG q_1071) rfl rfl rfl (hg _ q_5) (hg _ q_1068) (by decide +kernel) ⟨Nat.le_of_ble_eq_true rfl, Nat.le_of_ble_eq_true rfl⟩), hg _ q_1069, hg _ q_1070⟩ (mp_preV (C := R_M) (T := F_M) hI hK h_mo rfl [.int (nI k9)]) rfl rfl hl.1 rfl (lv_room (Nat.le_of_ble_eq_true rfl)) d_L_law_465 ⟨by omega, by omega⟩) (fun r50 S47 H48 locs p_49 hI => ?_)
      obtain ⟨er50, q_mo, fr⟩ := p_49
      have h_o : S47 o = some (0, .inr (0, [.int (nI nl), .ref pa, .ref lo, .ref fa0, .int (nI gv), .int (nI tk), .int fq, .int 1, .int (nI zc), .ref Av.vo])) := fr o _ _ h_o (by omega)
      have h_pa : S47 pa = some (1, .inl ((g 2), 40, .inr (.inr (.inr (.inr (rfs eo 40)))))) := fr pa _ _ h_pa (by omega)
      have h_fa0 : S47 fa0 = some (3, .inl ((g 0), 3, .inl ff)) := fr fa0 _ _ h_fa0 (by omega)
      have h_oa : S47 oa = some (9, .inl ((g 4), 1, .inr (.inl f1))) := fr oa _ _ h_oa (by omega)
      have h_mp : S47 (ad 2001) = some (2001, .inl ((g 0), 40000, .inl (fun j => nI (PO j).val))) := fr (ad 2001) _ _ h_mp (by omega)
      have h_le : S47 (ad 2008) = some (2008, .inl ((g 0), 17, .inl (fun j => nI (LF j)))) := fr (ad 2008) _ _ h_le (by omega)
      have h_dg : S47 (ad 2010) = some (2010, .inl ((g 0), 3, .inl (fun j => nI (DG j)))) := fr (ad 2010) _ _ h_dg (by omega)
      have h_lt : S47 (ad 2011) = some (2011, .inl ((g 0), 51, .inl (fun j => nI (LE j).val))) := fr (ad 2011) _ _ h_lt (by omega)
      have h_ze : S47 (ad 2014) = some (2014, .inl ((g 0), 51, .inl (fun j => nI (ZM j).val))) := fr (ad 2014) _ _ h_ze (by omega)
      have h_oq : S47 (ad 2015) = some (2015, .inl ((g 0), 17, .inl (fun j => nI (OF j)))) := fr (ad 2015) _ _ h_oq (by omega)
      have h_fv : S47 (ad 2016) = some (2016, .inl ((g 5), 3, .inl FV)) := fr (ad 2016) _ _ h_fv (by omega)
      have hP := gPs_kept hP (S1 := S47) (fun b t9 e9 hb9 h1 h2 => by have h8 : S47 b = some (t9, e9) := fr b _ _ hb9 (by omega); rw [h8, hb9])
      have hL := gLs_kept hL (S1 := S47) (fun b t9 e9 hb9 h1 h2 => by have h8 : S47 b = some (t9, e9) := fr b _ _ hb9 (by omega); rw [h8, hb9])
      have hM := gMs_kept hM (S1 := S47) (fun b t9 e9 hb9 h1 h2 => by have h8 : S47 b = some (t9, e9) := fr b _ _ hb9 (by omega); rw [h8, hb9])
      have hWk := gWs_kept hWk (S1 := S47) (fun b t9 e9 hb9 h1 h2 => by have h8 : S47 b = some (t9, e9) := fr b _ _ hb9 (by omega); rw [h8, hb9])
      have hVg := vG_kept hVg (S1 := S47) (fun b t9 e9 hb9 h1 h2 => by have h8 : S47 b = some (t9, e9) := fr b _ _ hb9 (by omega); rw [h8, hb9])
      have h_mo := q_mo
      refine lv_istore (lv' := [(6, .int r50), (5, .int (nI 0)), (4, .int (nI i)), (3, .ref oa), (2, .ref mo), (1, .ref o), (0, .ref b)]) hx hb d_L_law_468 hl (by decide) rfl (fun ls hl => ?_)
      refine lv_aload_n hx hb d_L_law_470 rfl (lv_at hl 4 rfl) ?_
      refine mp_calli hI (va_runV (As := []) (rest := []) ⟨hx, hb, hml, hown, hg⟩ (c_M_thrown l D g S47 _ mo (.int (nI nl)) (.int (nI gv)) (.int (nI tk)) (.ref (ad 2001)) (.int (nI n)) (.ref (ad 2002)) (.ref (ad 2003)) (.ref (ad 2004)) (.ref (ad 2005)) (.ref (ad 2006)) (.ref (ad 2007)) (.int (nI 1)) (.int ak) (.int (nI s9)) (.ref (ad 2008)) (.ref (ad 2009)) (.ref (ad 2010)) (.ref (ad 2011)) (.ref (ad 2012)) (.ref (ad 2013)) (.int (nI zc)) (.ref (ad 2014)) (.ref (ad 2015)) (.ref (ad 2016)) (.ref (ad 2017)) (.ref (ad 2018)) (.ref (ad 2019)) (.ref (ad 2020)) (.ref (ad 2021)) (.ref (ad 2022)) (nI 0) h_mo) ⟨(callB_of 0 hg (wd_goodG q_902) rfl rfl rfl (hg _ q_5) (hg _ q_899) (by decide +kernel) ⟨Nat.le_of_ble_eq_true rfl, Nat.le_of_ble_eq_true rfl⟩), hg _ q_900, hg _ q_901⟩ (mp_preV (C := R_M) (T := F_M) hI hK h_mo rfl []) rfl rfl hl.1 rfl (lv_room (Nat.le_of_ble_eq_true rfl)) d_L_law_471 ⟨by omega, by omega⟩) (fun r54 S51 H52 locs p_53 hI => ?_)
      obtain ⟨er54, eS55⟩ := p_53
      rw [eS55] at hI
      have er54 : r54 = nI 0 := er54
      subst er54
      refine lv_iload hx hb d_L_law_474 (lv_at hl 1 rfl) ?_
      refine lv_icmp_eq (tgt := 481) hx hb d_L_law_476 (by decide) (fun _ => ?_) (fun h9 => absurd (rfl) h9)
      refine lv_iload hx hb d_L_law_481 (lv_at hl 1 rfl) ?_
      refine lv_if_ne (tgt := 498) hx hb d_L_law_483 (by decide) (fun h9 => absurd h9 (by decide)) (fun _ => ?_)
      refine lv_aload_n hx hb d_L_law_486 rfl (lv_at hl 3 rfl) ?_
      refine lv_iconst (v := nI 0) hx hb d_L_law_487 (by decide) ?_
      refine mp_lald hx hb hK.va hI 4 h_oa rfl (vp_in_nI (by decide) (by decide)) d_L_law_488 ?_
      refine lv_topl (fun v56 ev56 => ?_)
      obtain rfl : v56 = (nI ((lf k9).1 + 16 * (lf k9).2.1 + 256 * (lf k9).2.2)).toInt64 := ev56.trans (hf1)
      refine lv_iload hx hb d_L_law_489 (lv_at hl 0 rfl) ?_
      refine lv_i2l (v := (r50).toInt64) hx hb d_L_law_491 rfl ?_
      refine W.lcmp hx hb d_L_law_492 ?_
      refine lv_if_eq (tgt := 498) hx hb d_L_law_493 (by decide) (fun _ => ?_) (fun h9 => absurd (lg_same (congrArg Int32.toInt64 (show nI ((lf k9).1 + 16 * (lf k9).2.1 + 256 * (lf k9).2.2) = r50 by rw [er50]; rw [hk2]; exact congrArg nI (left_eq hk3)))) h9)
      refine lv_goto (tgt := 822) hx hb d_L_law_498 (by decide) ?_
      refine W.widen (k := cells + 189) (n := slots + 11130) (by omega) (by omega) ?_
      exact kx S47 _ _ ls ⟨(pa), (lo), (fa0), (ma), (hd), (eo), (me), (ad), (cf), (gv), (tk), (n), (fq), (1), (nI zc), (.ref Av.vo), (ff), (hq), (zq), (mq), (cq), (nI 0), (nI 1), (ak), (nI s9), (nI zc), (PO), (LF), (DG), (LE), (ZM), (OF), (FV), (f1), h_o, h_pa, h_fa0, h_oa, h_mo, h_mp, h_le, h_dg, h_lt, h_ze, h_oq, h_fv, hP, hL, hM, hWk, (Or.inr ⟨rfl, hroM, Av, Tv, rfl, hVg, hroB⟩), hgv, htk, hnt, hR, hI9, hIn, hF9⟩ hI (lv_sub hl [2, 3, 4, 5, 6] rfl)
set_option maxHeartbeats 8000000 in
set_option maxRecDepth 100000 in
/-- at -/
theorem lk_at {p : Program} {l : Launch} {e : Env} {s : State} {m : MethodId} {below : List Frame} {meth : Method} {c : Code} {Q : State → Prop} {D : mp_G} {g : Nat → ClassId} {A : Nat → Prop} {b L i : Nat} {xs : Nat → Int32} {cells slots : Nat} {S : mp_M} {H : Heap} {locs : List Loc} {ls : Array Slot} (hx : p.tables.exec = Jvm.exec) (hb : c.code = b_L_law) (hml : c.maxLocals = 7) (hts : ∀ w ∈ lw_tbl, w.before #[Value.ref b] s = true) (hg : ∀ w ∈ gw, w.before #[Value.ref b] s = true) (hown : s.vm.findClass R_L = some m.cls) (hK : mp_K D classes (tys g) s) (hX : va_X b L xs D.2.1 D.2.1.heap) (hL9 : L ≤ 3585) (hi : i + 6 < L) (hc : cells + 189 ≤ room_1.cells) (hs9 : slots + 11130 ≤ room_1.slots) (hl9 : l.stackTraces = false) {nl oa mo o : Nat} (hnl : nl ≤ 3) (hn1 : 1 ≤ nl) (hV : lawI g nl o mo oa S) (hI : mp_I D classes A s.heap S H locs) (hl : lv_has ls 7 [(4, .int (nI i)), (3, .ref oa), (2, .ref mo), (1, .ref o), (0, .ref b)]) (kx : ∀ (S : mp_M) (H : Heap) (locs : List Loc) (ls : Array Slot), lawI g nl o mo oa S → mp_I D classes A s.heap S H locs → lv_has ls 7 [(4, .int (nI i)), (3, .ref oa), (2, .ref mo), (1, .ref o), (0, .ref b)] → W p l e room_1 s m #[Value.ref b] below meth c H locs (cells + 189) (slots + 11130) Q (F0 m 822 ls [])) : W p l e room_1 s m #[Value.ref b] below meth c H locs (cells) (slots) Q (F0 m 501 ls []) := by
  have hc : cells + 189 ≤ 164015 := hc
  have hs9 : slots + 11130 ≤ 8604026 := hs9
  obtain ⟨pa, lo, fa0, ma, hd, eo, me, ad, cf, gv, tk, n, fq, an, av, sv, ff, hq, zq, mq, cq, th, kn, ak, s0, z0, PO, LF, DG, LE, ZM, OF, FV, of, h_o, h_pa, h_fa0, h_oa, h_mo, h_mp, h_le, h_dg, h_lt, h_ze, h_oq, h_fv, hP, hL, hM, hWk, hA, hgv, htk, hnt, hR, hI9, hIn, hF9⟩ := hV
  rcases an_kn hA with ⟨hkn, hun⟩ | ⟨hkn, han, hroM, Av, Tv, hsve, hVg, hroB⟩
  · obtain ⟨so, hso⟩ := an_opt (an_sv hA)
    subst hso
    subst hkn
    refine lv_aload_n hx hb d_L_law_501 rfl (lv_at hl 3 rfl) ?_
    refine lv_aload_n hx hb d_L_law_502 rfl (lv_at hl 4 rfl) ?_
    refine lv_iload hx hb d_L_law_503 (lv_at hl 0 rfl) ?_
    refine lv_iconst (v := nI 1) hx hb d_L_law_505 (by decide) ?_
    refine lv_iadd hx hb d_L_law_506 ?_
    refine lv_topi (fun v1 ev1 => ?_)
    obtain rfl : v1 = nI (i + 1) := ev1.trans (nI_add _ _)
    refine mp_sld hx hb hX hK hI (vp_in_nI (show (i + 1) < L by omega) (by omega)) d_L_law_507 ?_
    refine lv_topi (fun v2 ev2 => ?_)
    obtain rfl : v2 = xs (i + 1) := ev2.trans (by rw [nI_clamp (by omega)])
    refine lv_aload_n hx hb d_L_law_508 rfl (lv_at hl 4 rfl) ?_
    refine lv_iload hx hb d_L_law_509 (lv_at hl 0 rfl) ?_
    refine lv_iconst (v := nI 2) hx hb d_L_law_511 (by decide) ?_
    refine lv_iadd hx hb d_L_law_512 ?_
    refine lv_topi (fun v3 ev3 => ?_)
    obtain rfl : v3 = nI (i + 2) := ev3.trans (nI_add _ _)
    refine mp_sld hx hb hX hK hI (vp_in_nI (show (i + 2) < L by omega) (by omega)) d_L_law_513 ?_
    refine lv_topi (fun v4 ev4 => ?_)
    obtain rfl : v4 = xs (i + 2) := ev4.trans (by rw [nI_clamp (by omega)])
    refine lv_aload_n hx hb d_L_law_514 rfl (lv_at hl 1 rfl) ?_
    refine mp_calli hI (lw_runS (As := [.ref o, .int (xs (i + 1)), .int (xs (i + 2)), .ref oa]) (rest := []) ⟨hx, hb, hml, hown, hg⟩ (c_L_atU l D g S _ o pa (.int (nI nl)) (.ref lo) (.ref fa0) (.int (nI gv)) (.int (nI tk)) (.int fq) an av so (xs (i + 1)) (xs (i + 2)) oa of h_o h_oa hl9 (hun.elim (fun q => Or.inl q) (fun q => Or.inr (Or.inl q)))) ⟨callBW_of 4 hg (hts _ q_756) rfl rfl (hg _ q_0) (hg _ q_754) (by decide +kernel) ⟨Nat.le_of_ble_eq_true rfl, Nat.le_of_ble_eq_true rfl⟩, hg _ q_755⟩ (mp_pre hI hK [.ref o, .int (xs (i + 1)), .int (xs (i + 2)), .ref oa]) rfl rfl hl.1 rfl (lv_room (Nat.le_of_ble_eq_true rfl)) d_L_law_515 ⟨by omega, by omega⟩) (fun r8 S5 H6 locs p_7 hI => ?_)
    obtain ⟨er8, eS9⟩ := p_7
    rw [eS9] at hI
    have er8 : r8 = nI 1 := er8
    subst er8
    refine lv_istore (lv' := [(5, .int (nI 1)), (4, .int (nI i)), (3, .ref oa), (2, .ref mo), (1, .ref o), (0, .ref b)]) hx hb d_L_law_518 hl (by decide) rfl (fun ls hl => ?_)
    refine lv_aload_n hx hb d_L_law_520 rfl (lv_at hl 3 rfl) ?_
    refine lv_aload_n hx hb d_L_law_521 rfl (lv_at hl 5 rfl) ?_
    refine lv_iload hx hb d_L_law_522 (lv_at hl 1 rfl) ?_
    refine lv_iconst (v := nI 1) hx hb d_L_law_524 (by decide) ?_
    refine lv_iadd hx hb d_L_law_525 ?_
    refine lv_topi (fun v10 ev10 => ?_)
    obtain rfl : v10 = nI (i + 1) := ev10.trans (nI_add _ _)
    refine mp_sld hx hb hX hK hI (vp_in_nI (show (i + 1) < L by omega) (by omega)) d_L_law_526 ?_
    refine lv_topi (fun v11 ev11 => ?_)
    obtain rfl : v11 = xs (i + 1) := ev11.trans (by rw [nI_clamp (by omega)])
    refine lv_aload_n hx hb d_L_law_527 rfl (lv_at hl 5 rfl) ?_
    refine lv_iload hx hb d_L_law_528 (lv_at hl 1 rfl) ?_
    refine lv_iconst (v := nI 2) hx hb d_L_law_530 (by decide) ?_
    refine lv_iadd hx hb d_L_law_531 ?_
    refine lv_topi (fun v12 ev12 => ?_)
    obtain rfl : v12 = nI (i + 2) := ev12.trans (nI_add _ _)
    refine mp_sld hx hb hX hK hI (vp_in_nI (show (i + 2) < L by omega) (by omega)) d_L_law_532 ?_
    refine lv_topi (fun v13 ev13 => ?_)
    obtain rfl : v13 = xs (i + 2) := ev13.trans (by rw [nI_clamp (by omega)])
    refine mp_calli hI (va_runV (As := [.int (xs (i + 1)), .int (xs (i + 2))]) (rest := []) ⟨hx, hb, hml, hown, hg⟩ (c_M_atU l D g S _ mo (.int (nI nl)) (.int (nI gv)) (.int (nI tk)) (.ref (ad 2001)) (.int (nI n)) (.ref (ad 2002)) (.ref (ad 2003)) (.ref (ad 2004)) (.ref (ad 2005)) (.ref (ad 2006)) (.ref (ad 2007)) (.int ak) (.int s0) (.ref (ad 2008)) (.ref (ad 2009)) (.ref (ad 2010)) (.ref (ad 2011)) (.ref (ad 2012)) (.ref (ad 2013)) (.int z0) (.ref (ad 2014)) (.ref (ad 2015)) (.ref (ad 2016)) (.ref (ad 2017)) (.ref (ad 2018)) (.ref (ad 2019)) (.ref (ad 2020)) (.ref (ad 2021)) (.ref (ad 2022)) th (xs (i + 1)) (xs (i + 2)) h_mo) ⟨(callB_of 2 hg (wd_goodG q_1078) rfl rfl rfl (hg _ q_5) (hg _ q_1075) (by decide +kernel) ⟨Nat.le_of_ble_eq_true rfl, Nat.le_of_ble_eq_true rfl⟩), hg _ q_1076, hg _ q_1077⟩ (mp_preV (C := R_M) (T := F_M) hI hK h_mo rfl [.int (xs (i + 1)), .int (xs (i + 2))]) rfl rfl hl.1 rfl (lv_room (Nat.le_of_ble_eq_true rfl)) d_L_law_533 ⟨by omega, by omega⟩) (fun r17 S14 H15 locs p_16 hI => ?_)
    obtain ⟨q_mo, fr⟩ := p_16
    have h_o : S14 o = some (0, .inr (0, [.int (nI nl), .ref pa, .ref lo, .ref fa0, .int (nI gv), .int (nI tk), .int fq, .int an, .int av, (va_rf so)])) := (fr o (mp_in h_o) (mp_ne h_o h_mo (by omega))).trans h_o
    have h_pa : S14 pa = some (1, .inl ((g 2), 40, .inr (.inr (.inr (.inr (rfs eo 40)))))) := (fr pa (mp_in h_pa) (mp_ne h_pa h_mo (by omega))).trans h_pa
    have h_fa0 : S14 fa0 = some (3, .inl ((g 0), 3, .inl ff)) := (fr fa0 (mp_in h_fa0) (mp_ne h_fa0 h_mo (by omega))).trans h_fa0
    have h_oa : S14 oa = some (9, .inl ((g 4), 1, .inr (.inl of))) := (fr oa (mp_in h_oa) (mp_ne h_oa h_mo (by omega))).trans h_oa
    have h_mp : S14 (ad 2001) = some (2001, .inl ((g 0), 40000, .inl (fun j => nI (PO j).val))) := (fr (ad 2001) (mp_in h_mp) (mp_ne h_mp h_mo (by omega))).trans h_mp
    have h_le : S14 (ad 2008) = some (2008, .inl ((g 0), 17, .inl (fun j => nI (LF j)))) := (fr (ad 2008) (mp_in h_le) (mp_ne h_le h_mo (by omega))).trans h_le
    have h_dg : S14 (ad 2010) = some (2010, .inl ((g 0), 3, .inl (fun j => nI (DG j)))) := (fr (ad 2010) (mp_in h_dg) (mp_ne h_dg h_mo (by omega))).trans h_dg
    have h_lt : S14 (ad 2011) = some (2011, .inl ((g 0), 51, .inl (fun j => nI (LE j).val))) := (fr (ad 2011) (mp_in h_lt) (mp_ne h_lt h_mo (by omega))).trans h_lt
    have h_ze : S14 (ad 2014) = some (2014, .inl ((g 0), 51, .inl (fun j => nI (ZM j).val))) := (fr (ad 2014) (mp_in h_ze) (mp_ne h_ze h_mo (by omega))).trans h_ze
    have h_oq : S14 (ad 2015) = some (2015, .inl ((g 0), 17, .inl (fun j => nI (OF j)))) := (fr (ad 2015) (mp_in h_oq) (mp_ne h_oq h_mo (by omega))).trans h_oq
    have h_fv : S14 (ad 2016) = some (2016, .inl ((g 5), 3, .inl FV)) := (fr (ad 2016) (mp_in h_fv) (mp_ne h_fv h_mo (by omega))).trans h_fv
    have hP := gPs_kept hP (S1 := S14) (fun b t9 e9 hb9 h1 h2 => by have h8 : S14 b = some (t9, e9) := (fr b (mp_in hb9) (mp_ne hb9 h_mo (by omega))).trans hb9; rw [h8, hb9])
    have hL := gLs_kept hL (S1 := S14) (fun b t9 e9 hb9 h1 h2 => by have h8 : S14 b = some (t9, e9) := (fr b (mp_in hb9) (mp_ne hb9 h_mo (by omega))).trans hb9; rw [h8, hb9])
    have hM := gMs_kept hM (S1 := S14) (fun b t9 e9 hb9 h1 h2 => by have h8 : S14 b = some (t9, e9) := (fr b (mp_in hb9) (mp_ne hb9 h_mo (by omega))).trans hb9; rw [h8, hb9])
    have hWk := gWs_kept hWk (S1 := S14) (fun b t9 e9 hb9 h1 h2 => by have h8 : S14 b = some (t9, e9) := (fr b (mp_in hb9) (mp_ne hb9 h_mo (by omega))).trans hb9; rw [h8, hb9])
    have hA := anP_kept hA (S1 := S14) (fun b t9 e9 hb9 h1 h2 => by have h8 : S14 b = some (t9, e9) := (fr b (mp_in hb9) (mp_ne hb9 h_mo (by omega))).trans hb9; rw [h8, hb9])
    have h_mo := q_mo
    refine lv_istore (lv' := [(6, .int r17), (5, .int (nI 1)), (4, .int (nI i)), (3, .ref oa), (2, .ref mo), (1, .ref o), (0, .ref b)]) hx hb d_L_law_536 hl (by decide) rfl (fun ls hl => ?_)
    refine lv_aload_n hx hb d_L_law_538 rfl (lv_at hl 4 rfl) ?_
    refine mp_calli hI (va_runV (As := []) (rest := []) ⟨hx, hb, hml, hown, hg⟩ (c_M_thrown l D g S14 _ mo (.int (nI nl)) (.int (nI gv)) (.int (nI tk)) (.ref (ad 2001)) (.int (nI n)) (.ref (ad 2002)) (.ref (ad 2003)) (.ref (ad 2004)) (.ref (ad 2005)) (.ref (ad 2006)) (.ref (ad 2007)) (.int (nI 0)) (.int ak) (.int s0) (.ref (ad 2008)) (.ref (ad 2009)) (.ref (ad 2010)) (.ref (ad 2011)) (.ref (ad 2012)) (.ref (ad 2013)) (.int z0) (.ref (ad 2014)) (.ref (ad 2015)) (.ref (ad 2016)) (.ref (ad 2017)) (.ref (ad 2018)) (.ref (ad 2019)) (.ref (ad 2020)) (.ref (ad 2021)) (.ref (ad 2022)) (nI 1) h_mo) ⟨(callB_of 0 hg (wd_goodG q_902) rfl rfl rfl (hg _ q_5) (hg _ q_899) (by decide +kernel) ⟨Nat.le_of_ble_eq_true rfl, Nat.le_of_ble_eq_true rfl⟩), hg _ q_900, hg _ q_901⟩ (mp_preV (C := R_M) (T := F_M) hI hK h_mo rfl []) rfl rfl hl.1 rfl (lv_room (Nat.le_of_ble_eq_true rfl)) d_L_law_539 ⟨by omega, by omega⟩) (fun r21 S18 H19 locs p_20 hI => ?_)
    obtain ⟨er21, eS22⟩ := p_20
    rw [eS22] at hI
    have er21 : r21 = nI 1 := er21
    subst er21
    refine lv_iload hx hb d_L_law_542 (lv_at hl 1 rfl) ?_
    refine lv_icmp_eq (tgt := 549) hx hb d_L_law_544 (by decide) (fun _ => ?_) (fun h9 => absurd (rfl) h9)
    refine lv_iload hx hb d_L_law_549 (lv_at hl 1 rfl) ?_
    refine lv_if_ne (tgt := 566) hx hb d_L_law_551 (by decide) (fun _ => ?_) (fun h9 => absurd h9 (by decide))
    refine lv_goto (tgt := 822) hx hb d_L_law_566 (by decide) ?_
    refine W.widen (k := cells + 189) (n := slots + 11130) (by omega) (by omega) ?_
    exact kx S14 _ _ ls ⟨(pa), (lo), (fa0), (ma), (hd), (eo), (me), (ad), (cf), (gv), (tk), (n), (fq), (an), (av), ((va_rf so)), (ff), (hq), (zq), (mq), (cq), (nI 1), (nI 0), (ak), (s0), (z0), (PO), (LF), (DG), (LE), (ZM), (OF), (FV), (of), h_o, h_pa, h_fa0, h_oa, h_mo, h_mp, h_le, h_dg, h_lt, h_ze, h_oq, h_fv, hP, hL, hM, hWk, hA, hgv, htk, hnt, hR, hI9, hIn, hF9⟩ hI (lv_sub hl [2, 3, 4, 5, 6] rfl)
  · obtain ⟨mkq, mnq, mcapq, mzq, mkfq, mnfq, hfq, l_lo, l_ma, l_hd, l_Y, l_mc, l_B⟩ := id hL
    subst hkn
    subst han
    subst hsve
    obtain ⟨s9, zc, lf, hs, hzc, hav, hs0, hz0, hs1, hz1, kw1, kw2, kw3, kw4⟩ := ro_kw l_B.1 hIn hnl hn1 (lsB_e9 l_B) hroB hroM
    subst hav
    subst hs0
    subst hz0
    obtain ⟨v_vo, v_d9, v_ra, v_ka, v_qo, v_ky, v_pr, v_lw, v_ll, v_mu, v_fa, v_nx, v_re, v_so1, v_rq1, v_rp1, v_so2, v_rq2, v_rp2, v_zo, v_fs, v_lz, v_rr, v_rc, v_za, v_mu9, v_po, v_pn, v_pp, v_on, v_na, v_ot, v_ta, vP, vMU, vR1, vR2, vE, vLo, vRR, vZ, vW, vhone, vtPT, vtMU, vtFa, vtNx, vtRe, vtρ1, vtρ2, vtcn, vtct, vtCF, vtCL, vhFL⟩ := id hVg
    rw [hz1] at v_vo
    rw [hs1] at v_qo
    rcases i32_b (xs (i + 1)) (show zc < 2 ^ 31 by omega) with hx9 | ⟨z9, hz9, hxz⟩
    · refine lv_aload_n hx hb d_L_law_501 rfl (lv_at hl 3 rfl) ?_
      refine lv_aload_n hx hb d_L_law_502 rfl (lv_at hl 4 rfl) ?_
      refine lv_iload hx hb d_L_law_503 (lv_at hl 0 rfl) ?_
      refine lv_iconst (v := nI 1) hx hb d_L_law_505 (by decide) ?_
      refine lv_iadd hx hb d_L_law_506 ?_
      refine lv_topi (fun v23 ev23 => ?_)
      obtain rfl : v23 = nI (i + 1) := ev23.trans (nI_add _ _)
      refine mp_sld hx hb hX hK hI (vp_in_nI (show (i + 1) < L by omega) (by omega)) d_L_law_507 ?_
      refine lv_topi (fun v24 ev24 => ?_)
      obtain rfl : v24 = xs (i + 1) := ev24.trans (by rw [nI_clamp (by omega)])
      refine lv_aload_n hx hb d_L_law_508 rfl (lv_at hl 4 rfl) ?_
      refine lv_iload hx hb d_L_law_509 (lv_at hl 0 rfl) ?_
      refine lv_iconst (v := nI 2) hx hb d_L_law_511 (by decide) ?_
      refine lv_iadd hx hb d_L_law_512 ?_
      refine lv_topi (fun v25 ev25 => ?_)
      obtain rfl : v25 = nI (i + 2) := ev25.trans (nI_add _ _)
      refine mp_sld hx hb hX hK hI (vp_in_nI (show (i + 2) < L by omega) (by omega)) d_L_law_513 ?_
      refine lv_topi (fun v26 ev26 => ?_)
      obtain rfl : v26 = xs (i + 2) := ev26.trans (by rw [nI_clamp (by omega)])
      refine lv_aload_n hx hb d_L_law_514 rfl (lv_at hl 1 rfl) ?_
      refine mp_calli hI (lw_runS (As := [.ref o, .int (xs (i + 1)), .int (xs (i + 2)), .ref oa]) (rest := []) ⟨hx, hb, hml, hown, hg⟩ (c_L_atZ l D g S _ o pa Av.vo Av.qo Av.ky Av.lz Av.za Av.mu9 Av.po nl s9 zc (.ref lo) (.ref fa0) (.int (nI gv)) (.int (nI tk)) (.int fq) (.int (nI nl)) (.ref Av.d9) (.ref Av.zo) (.ref Av.rr) (.ref Av.rc) (.int (nI nl)) (.ref Av.pr) (.ref Av.lw) (.ref Av.ll) (.ref Av.mu) (.ref Av.fa) (.ref Av.nx) (.ref Av.re) (.ref Av.so1) (.ref Av.so2) eo Av.le Av.la Tv.kQ Tv.MQ Tv.dl Tv.CL Tv.ZZ oa of (xs (i + 1)) (xs (i + 2)) h_o h_pa v_vo v_qo v_ky v_lz v_za v_mu9 h_oa hl9 vLo vZ hnl hs hzc hx9) ⟨callBW_of 4 hg (hts _ q_756) rfl rfl (hg _ q_0) (hg _ q_754) (by decide +kernel) ⟨Nat.le_of_ble_eq_true rfl, Nat.le_of_ble_eq_true rfl⟩, hg _ q_755⟩ (mp_pre hI hK [.ref o, .int (xs (i + 1)), .int (xs (i + 2)), .ref oa]) rfl rfl hl.1 rfl (lv_room (Nat.le_of_ble_eq_true rfl)) d_L_law_515 ⟨by omega, by omega⟩) (fun r30 S27 H28 locs p_29 hI => ?_)
      obtain ⟨er30, eS31⟩ := p_29
      rw [eS31] at hI
      have er30 : r30 = nI 2 := er30
      subst er30
      refine lv_istore (lv' := [(5, .int (nI 2)), (4, .int (nI i)), (3, .ref oa), (2, .ref mo), (1, .ref o), (0, .ref b)]) hx hb d_L_law_518 hl (by decide) rfl (fun ls hl => ?_)
      refine lv_aload_n hx hb d_L_law_520 rfl (lv_at hl 3 rfl) ?_
      refine lv_aload_n hx hb d_L_law_521 rfl (lv_at hl 5 rfl) ?_
      refine lv_iload hx hb d_L_law_522 (lv_at hl 1 rfl) ?_
      refine lv_iconst (v := nI 1) hx hb d_L_law_524 (by decide) ?_
      refine lv_iadd hx hb d_L_law_525 ?_
      refine lv_topi (fun v32 ev32 => ?_)
      obtain rfl : v32 = nI (i + 1) := ev32.trans (nI_add _ _)
      refine mp_sld hx hb hX hK hI (vp_in_nI (show (i + 1) < L by omega) (by omega)) d_L_law_526 ?_
      refine lv_topi (fun v33 ev33 => ?_)
      obtain rfl : v33 = xs (i + 1) := ev33.trans (by rw [nI_clamp (by omega)])
      refine lv_aload_n hx hb d_L_law_527 rfl (lv_at hl 5 rfl) ?_
      refine lv_iload hx hb d_L_law_528 (lv_at hl 1 rfl) ?_
      refine lv_iconst (v := nI 2) hx hb d_L_law_530 (by decide) ?_
      refine lv_iadd hx hb d_L_law_531 ?_
      refine lv_topi (fun v34 ev34 => ?_)
      obtain rfl : v34 = nI (i + 2) := ev34.trans (nI_add _ _)
      refine mp_sld hx hb hX hK hI (vp_in_nI (show (i + 2) < L by omega) (by omega)) d_L_law_532 ?_
      refine lv_topi (fun v35 ev35 => ?_)
      obtain rfl : v35 = xs (i + 2) := ev35.trans (by rw [nI_clamp (by omega)])
      refine mp_calli hI (va_runV (As := [.int (xs (i + 1)), .int (xs (i + 2))]) (rest := []) ⟨hx, hb, hml, hown, hg⟩ (c_M_atZ l D g S _ mo (ad 2001) (ad 2008) (ad 2010) (ad 2011) (ad 2014) (ad 2015) nl s9 zc (.int (nI gv)) (.int (nI tk)) (.int (nI n)) (.ref (ad 2002)) (.ref (ad 2003)) (.ref (ad 2004)) (.ref (ad 2005)) (.ref (ad 2006)) (.ref (ad 2007)) (.int ak) (.ref (ad 2009)) (.ref (ad 2012)) (.ref (ad 2013)) (.ref (ad 2016)) (.ref (ad 2017)) (.ref (ad 2018)) (.ref (ad 2019)) (.ref (ad 2020)) (.ref (ad 2021)) (.ref (ad 2022)) PO LF DG LE ZM OF th (xs (i + 1)) (xs (i + 2)) h_mo h_mp h_le h_dg h_lt h_ze h_oq hnl hs hzc hx9) ⟨(callB_of 2 hg (wd_goodG q_1078) rfl rfl rfl (hg _ q_5) (hg _ q_1075) (by decide +kernel) ⟨Nat.le_of_ble_eq_true rfl, Nat.le_of_ble_eq_true rfl⟩), hg _ q_1076, hg _ q_1077⟩ (mp_preV (C := R_M) (T := F_M) hI hK h_mo rfl [.int (xs (i + 1)), .int (xs (i + 2))]) rfl rfl hl.1 rfl (lv_room (Nat.le_of_ble_eq_true rfl)) d_L_law_533 ⟨by omega, by omega⟩) (fun r39 S36 H37 locs p_38 hI => ?_)
      obtain ⟨_, q_mo, fr⟩ := p_38
      have h_o : S36 o = some (0, .inr (0, [.int (nI nl), .ref pa, .ref lo, .ref fa0, .int (nI gv), .int (nI tk), .int fq, .int 1, .int (nI zc), .ref Av.vo])) := fr o _ _ h_o (by omega)
      have h_pa : S36 pa = some (1, .inl ((g 2), 40, .inr (.inr (.inr (.inr (rfs eo 40)))))) := fr pa _ _ h_pa (by omega)
      have h_fa0 : S36 fa0 = some (3, .inl ((g 0), 3, .inl ff)) := fr fa0 _ _ h_fa0 (by omega)
      have h_oa : S36 oa = some (9, .inl ((g 4), 1, .inr (.inl of))) := fr oa _ _ h_oa (by omega)
      have h_mp : S36 (ad 2001) = some (2001, .inl ((g 0), 40000, .inl (fun j => nI (PO j).val))) := fr (ad 2001) _ _ h_mp (by omega)
      have h_le : S36 (ad 2008) = some (2008, .inl ((g 0), 17, .inl (fun j => nI (LF j)))) := fr (ad 2008) _ _ h_le (by omega)
      have h_dg : S36 (ad 2010) = some (2010, .inl ((g 0), 3, .inl (fun j => nI (DG j)))) := fr (ad 2010) _ _ h_dg (by omega)
      have h_lt : S36 (ad 2011) = some (2011, .inl ((g 0), 51, .inl (fun j => nI (LE j).val))) := fr (ad 2011) _ _ h_lt (by omega)
      have h_ze : S36 (ad 2014) = some (2014, .inl ((g 0), 51, .inl (fun j => nI (ZM j).val))) := fr (ad 2014) _ _ h_ze (by omega)
      have h_oq : S36 (ad 2015) = some (2015, .inl ((g 0), 17, .inl (fun j => nI (OF j)))) := fr (ad 2015) _ _ h_oq (by omega)
      have h_fv : S36 (ad 2016) = some (2016, .inl ((g 5), 3, .inl FV)) := fr (ad 2016) _ _ h_fv (by omega)
      have hP := gPs_kept hP (S1 := S36) (fun b t9 e9 hb9 h1 h2 => by have h8 : S36 b = some (t9, e9) := fr b _ _ hb9 (by omega); rw [h8, hb9])
      have hL := gLs_kept hL (S1 := S36) (fun b t9 e9 hb9 h1 h2 => by have h8 : S36 b = some (t9, e9) := fr b _ _ hb9 (by omega); rw [h8, hb9])
      have hM := gMs_kept hM (S1 := S36) (fun b t9 e9 hb9 h1 h2 => by have h8 : S36 b = some (t9, e9) := fr b _ _ hb9 (by omega); rw [h8, hb9])
      have hWk := gWs_kept hWk (S1 := S36) (fun b t9 e9 hb9 h1 h2 => by have h8 : S36 b = some (t9, e9) := fr b _ _ hb9 (by omega); rw [h8, hb9])
      have hVg := vG_kept hVg (S1 := S36) (fun b t9 e9 hb9 h1 h2 => by have h8 : S36 b = some (t9, e9) := fr b _ _ hb9 (by omega); rw [h8, hb9])
      have h_mo := q_mo
      refine lv_istore (lv' := [(6, .int r39), (5, .int (nI 2)), (4, .int (nI i)), (3, .ref oa), (2, .ref mo), (1, .ref o), (0, .ref b)]) hx hb d_L_law_536 hl (by decide) rfl (fun ls hl => ?_)
      refine lv_aload_n hx hb d_L_law_538 rfl (lv_at hl 4 rfl) ?_
      refine mp_calli hI (va_runV (As := []) (rest := []) ⟨hx, hb, hml, hown, hg⟩ (c_M_thrown l D g S36 _ mo (.int (nI nl)) (.int (nI gv)) (.int (nI tk)) (.ref (ad 2001)) (.int (nI n)) (.ref (ad 2002)) (.ref (ad 2003)) (.ref (ad 2004)) (.ref (ad 2005)) (.ref (ad 2006)) (.ref (ad 2007)) (.int (nI 1)) (.int ak) (.int (nI s9)) (.ref (ad 2008)) (.ref (ad 2009)) (.ref (ad 2010)) (.ref (ad 2011)) (.ref (ad 2012)) (.ref (ad 2013)) (.int (nI zc)) (.ref (ad 2014)) (.ref (ad 2015)) (.ref (ad 2016)) (.ref (ad 2017)) (.ref (ad 2018)) (.ref (ad 2019)) (.ref (ad 2020)) (.ref (ad 2021)) (.ref (ad 2022)) (nI 2) h_mo) ⟨(callB_of 0 hg (wd_goodG q_902) rfl rfl rfl (hg _ q_5) (hg _ q_899) (by decide +kernel) ⟨Nat.le_of_ble_eq_true rfl, Nat.le_of_ble_eq_true rfl⟩), hg _ q_900, hg _ q_901⟩ (mp_preV (C := R_M) (T := F_M) hI hK h_mo rfl []) rfl rfl hl.1 rfl (lv_room (Nat.le_of_ble_eq_true rfl)) d_L_law_539 ⟨by omega, by omega⟩) (fun r43 S40 H41 locs p_42 hI => ?_)
      obtain ⟨er43, eS44⟩ := p_42
      rw [eS44] at hI
      have er43 : r43 = nI 2 := er43
      subst er43
      refine lv_iload hx hb d_L_law_542 (lv_at hl 1 rfl) ?_
      refine lv_icmp_eq (tgt := 549) hx hb d_L_law_544 (by decide) (fun _ => ?_) (fun h9 => absurd (rfl) h9)
      refine lv_iload hx hb d_L_law_549 (lv_at hl 1 rfl) ?_
      refine lv_if_ne (tgt := 566) hx hb d_L_law_551 (by decide) (fun _ => ?_) (fun h9 => absurd h9 (by decide))
      refine lv_goto (tgt := 822) hx hb d_L_law_566 (by decide) ?_
      refine W.widen (k := cells + 189) (n := slots + 11130) (by omega) (by omega) ?_
      exact kx S36 _ _ ls ⟨(pa), (lo), (fa0), (ma), (hd), (eo), (me), (ad), (cf), (gv), (tk), (n), (fq), (1), (nI zc), (.ref Av.vo), (ff), (hq), (zq), (mq), (cq), (nI 2), (nI 1), (ak), (nI s9), (nI zc), (PO), (LF), (DG), (LE), (ZM), (OF), (FV), (of), h_o, h_pa, h_fa0, h_oa, h_mo, h_mp, h_le, h_dg, h_lt, h_ze, h_oq, h_fv, hP, hL, hM, hWk, (Or.inr ⟨rfl, hroM, Av, Tv, rfl, hVg, hroB⟩), hgv, htk, hnt, hR, hI9, hIn, hF9⟩ hI (lv_sub hl [2, 3, 4, 5, 6] rfl)
    · rcases i32_b (xs (i + 2)) (show nl < 2 ^ 31 by omega) with hx9 | ⟨k9, hk9, hxk⟩
      · refine lv_aload_n hx hb d_L_law_501 rfl (lv_at hl 3 rfl) ?_
        refine lv_aload_n hx hb d_L_law_502 rfl (lv_at hl 4 rfl) ?_
        refine lv_iload hx hb d_L_law_503 (lv_at hl 0 rfl) ?_
        refine lv_iconst (v := nI 1) hx hb d_L_law_505 (by decide) ?_
        refine lv_iadd hx hb d_L_law_506 ?_
        refine lv_topi (fun v45 ev45 => ?_)
        obtain rfl : v45 = nI (i + 1) := ev45.trans (nI_add _ _)
        refine mp_sld hx hb hX hK hI (vp_in_nI (show (i + 1) < L by omega) (by omega)) d_L_law_507 ?_
        refine lv_topi (fun v46 ev46 => ?_)
        obtain rfl : v46 = xs (i + 1) := ev46.trans (by rw [nI_clamp (by omega)])
        refine lv_topi (fun v47 ev47 => ?_)
        obtain rfl : v47 = nI z9 := ev47.trans (hxz)
        refine lv_aload_n hx hb d_L_law_508 rfl (lv_at hl 4 rfl) ?_
        refine lv_iload hx hb d_L_law_509 (lv_at hl 0 rfl) ?_
        refine lv_iconst (v := nI 2) hx hb d_L_law_511 (by decide) ?_
        refine lv_iadd hx hb d_L_law_512 ?_
        refine lv_topi (fun v48 ev48 => ?_)
        obtain rfl : v48 = nI (i + 2) := ev48.trans (nI_add _ _)
        refine mp_sld hx hb hX hK hI (vp_in_nI (show (i + 2) < L by omega) (by omega)) d_L_law_513 ?_
        refine lv_topi (fun v49 ev49 => ?_)
        obtain rfl : v49 = xs (i + 2) := ev49.trans (by rw [nI_clamp (by omega)])
        refine lv_aload_n hx hb d_L_law_514 rfl (lv_at hl 1 rfl) ?_
        refine mp_calli hI (lw_runS (As := [.ref o, .int (nI z9), .int (xs (i + 2)), .ref oa]) (rest := []) ⟨hx, hb, hml, hown, hg⟩ (c_L_atL l D g S _ o pa Av.vo Av.qo Av.ky Av.lz Av.za Av.mu9 Av.po nl s9 zc (.ref lo) (.ref fa0) (.int (nI gv)) (.int (nI tk)) (.int fq) (.int (nI nl)) (.ref Av.d9) (.ref Av.zo) (.ref Av.rr) (.ref Av.rc) (.int (nI nl)) (.ref Av.pr) (.ref Av.lw) (.ref Av.ll) (.ref Av.mu) (.ref Av.fa) (.ref Av.nx) (.ref Av.re) (.ref Av.so1) (.ref Av.so2) eo Av.le Av.la Tv.kQ Tv.MQ Tv.dl Tv.CL Tv.ZZ oa of z9 (xs (i + 2)) h_o h_pa v_vo v_qo v_ky v_lz v_za v_mu9 h_oa hl9 vLo vZ hnl hs hzc hz9 hx9) ⟨callBW_of 4 hg (hts _ q_756) rfl rfl (hg _ q_0) (hg _ q_754) (by decide +kernel) ⟨Nat.le_of_ble_eq_true rfl, Nat.le_of_ble_eq_true rfl⟩, hg _ q_755⟩ (mp_pre hI hK [.ref o, .int (nI z9), .int (xs (i + 2)), .ref oa]) rfl rfl hl.1 rfl (lv_room (Nat.le_of_ble_eq_true rfl)) d_L_law_515 ⟨by omega, by omega⟩) (fun r53 S50 H51 locs p_52 hI => ?_)
        obtain ⟨er53, eS54⟩ := p_52
        rw [eS54] at hI
        have er53 : r53 = nI 3 := er53
        subst er53
        refine lv_istore (lv' := [(5, .int (nI 3)), (4, .int (nI i)), (3, .ref oa), (2, .ref mo), (1, .ref o), (0, .ref b)]) hx hb d_L_law_518 hl (by decide) rfl (fun ls hl => ?_)
        refine lv_aload_n hx hb d_L_law_520 rfl (lv_at hl 3 rfl) ?_
        refine lv_aload_n hx hb d_L_law_521 rfl (lv_at hl 5 rfl) ?_
        refine lv_iload hx hb d_L_law_522 (lv_at hl 1 rfl) ?_
        refine lv_iconst (v := nI 1) hx hb d_L_law_524 (by decide) ?_
        refine lv_iadd hx hb d_L_law_525 ?_
        refine lv_topi (fun v55 ev55 => ?_)
        obtain rfl : v55 = nI (i + 1) := ev55.trans (nI_add _ _)
        refine mp_sld hx hb hX hK hI (vp_in_nI (show (i + 1) < L by omega) (by omega)) d_L_law_526 ?_
        refine lv_topi (fun v56 ev56 => ?_)
        obtain rfl : v56 = xs (i + 1) := ev56.trans (by rw [nI_clamp (by omega)])
        refine lv_topi (fun v57 ev57 => ?_)
        obtain rfl : v57 = nI z9 := ev57.trans (hxz)
        refine lv_aload_n hx hb d_L_law_527 rfl (lv_at hl 5 rfl) ?_
        refine lv_iload hx hb d_L_law_528 (lv_at hl 1 rfl) ?_
        refine lv_iconst (v := nI 2) hx hb d_L_law_530 (by decide) ?_
        refine lv_iadd hx hb d_L_law_531 ?_
        refine lv_topi (fun v58 ev58 => ?_)
        obtain rfl : v58 = nI (i + 2) := ev58.trans (nI_add _ _)
        refine mp_sld hx hb hX hK hI (vp_in_nI (show (i + 2) < L by omega) (by omega)) d_L_law_532 ?_
        refine lv_topi (fun v59 ev59 => ?_)
        obtain rfl : v59 = xs (i + 2) := ev59.trans (by rw [nI_clamp (by omega)])
        refine mp_calli hI (va_runV (As := [.int (nI z9), .int (xs (i + 2))]) (rest := []) ⟨hx, hb, hml, hown, hg⟩ (c_M_atL l D g S _ mo (ad 2001) (ad 2008) (ad 2010) (ad 2011) (ad 2014) (ad 2015) nl s9 zc (.int (nI gv)) (.int (nI tk)) (.int (nI n)) (.ref (ad 2002)) (.ref (ad 2003)) (.ref (ad 2004)) (.ref (ad 2005)) (.ref (ad 2006)) (.ref (ad 2007)) (.int ak) (.ref (ad 2009)) (.ref (ad 2012)) (.ref (ad 2013)) (.ref (ad 2016)) (.ref (ad 2017)) (.ref (ad 2018)) (.ref (ad 2019)) (.ref (ad 2020)) (.ref (ad 2021)) (.ref (ad 2022)) PO LF DG LE ZM OF th z9 (xs (i + 2)) h_mo h_mp h_le h_dg h_lt h_ze h_oq hnl hs hzc hz9 hx9) ⟨(callB_of 2 hg (wd_goodG q_1078) rfl rfl rfl (hg _ q_5) (hg _ q_1075) (by decide +kernel) ⟨Nat.le_of_ble_eq_true rfl, Nat.le_of_ble_eq_true rfl⟩), hg _ q_1076, hg _ q_1077⟩ (mp_preV (C := R_M) (T := F_M) hI hK h_mo rfl [.int (nI z9), .int (xs (i + 2))]) rfl rfl hl.1 rfl (lv_room (Nat.le_of_ble_eq_true rfl)) d_L_law_533 ⟨by omega, by omega⟩) (fun r63 S60 H61 locs p_62 hI => ?_)
        obtain ⟨_, q_mo, fr⟩ := p_62
        have h_o : S60 o = some (0, .inr (0, [.int (nI nl), .ref pa, .ref lo, .ref fa0, .int (nI gv), .int (nI tk), .int fq, .int 1, .int (nI zc), .ref Av.vo])) := fr o _ _ h_o (by omega)
        have h_pa : S60 pa = some (1, .inl ((g 2), 40, .inr (.inr (.inr (.inr (rfs eo 40)))))) := fr pa _ _ h_pa (by omega)
        have h_fa0 : S60 fa0 = some (3, .inl ((g 0), 3, .inl ff)) := fr fa0 _ _ h_fa0 (by omega)
        have h_oa : S60 oa = some (9, .inl ((g 4), 1, .inr (.inl of))) := fr oa _ _ h_oa (by omega)
        have h_mp : S60 (ad 2001) = some (2001, .inl ((g 0), 40000, .inl (fun j => nI (PO j).val))) := fr (ad 2001) _ _ h_mp (by omega)
        have h_le : S60 (ad 2008) = some (2008, .inl ((g 0), 17, .inl (fun j => nI (LF j)))) := fr (ad 2008) _ _ h_le (by omega)
        have h_dg : S60 (ad 2010) = some (2010, .inl ((g 0), 3, .inl (fun j => nI (DG j)))) := fr (ad 2010) _ _ h_dg (by omega)
        have h_lt : S60 (ad 2011) = some (2011, .inl ((g 0), 51, .inl (fun j => nI (LE j).val))) := fr (ad 2011) _ _ h_lt (by omega)
        have h_ze : S60 (ad 2014) = some (2014, .inl ((g 0), 51, .inl (fun j => nI (ZM j).val))) := fr (ad 2014) _ _ h_ze (by omega)
        have h_oq : S60 (ad 2015) = some (2015, .inl ((g 0), 17, .inl (fun j => nI (OF j)))) := fr (ad 2015) _ _ h_oq (by omega)
        have h_fv : S60 (ad 2016) = some (2016, .inl ((g 5), 3, .inl FV)) := fr (ad 2016) _ _ h_fv (by omega)
        have hP := gPs_kept hP (S1 := S60) (fun b t9 e9 hb9 h1 h2 => by have h8 : S60 b = some (t9, e9) := fr b _ _ hb9 (by omega); rw [h8, hb9])
        have hL := gLs_kept hL (S1 := S60) (fun b t9 e9 hb9 h1 h2 => by have h8 : S60 b = some (t9, e9) := fr b _ _ hb9 (by omega); rw [h8, hb9])
        have hM := gMs_kept hM (S1 := S60) (fun b t9 e9 hb9 h1 h2 => by have h8 : S60 b = some (t9, e9) := fr b _ _ hb9 (by omega); rw [h8, hb9])
        have hWk := gWs_kept hWk (S1 := S60) (fun b t9 e9 hb9 h1 h2 => by have h8 : S60 b = some (t9, e9) := fr b _ _ hb9 (by omega); rw [h8, hb9])
        have hVg := vG_kept hVg (S1 := S60) (fun b t9 e9 hb9 h1 h2 => by have h8 : S60 b = some (t9, e9) := fr b _ _ hb9 (by omega); rw [h8, hb9])
        have h_mo := q_mo
        refine lv_istore (lv' := [(6, .int r63), (5, .int (nI 3)), (4, .int (nI i)), (3, .ref oa), (2, .ref mo), (1, .ref o), (0, .ref b)]) hx hb d_L_law_536 hl (by decide) rfl (fun ls hl => ?_)
        refine lv_aload_n hx hb d_L_law_538 rfl (lv_at hl 4 rfl) ?_
        refine mp_calli hI (va_runV (As := []) (rest := []) ⟨hx, hb, hml, hown, hg⟩ (c_M_thrown l D g S60 _ mo (.int (nI nl)) (.int (nI gv)) (.int (nI tk)) (.ref (ad 2001)) (.int (nI n)) (.ref (ad 2002)) (.ref (ad 2003)) (.ref (ad 2004)) (.ref (ad 2005)) (.ref (ad 2006)) (.ref (ad 2007)) (.int (nI 1)) (.int ak) (.int (nI s9)) (.ref (ad 2008)) (.ref (ad 2009)) (.ref (ad 2010)) (.ref (ad 2011)) (.ref (ad 2012)) (.ref (ad 2013)) (.int (nI zc)) (.ref (ad 2014)) (.ref (ad 2015)) (.ref (ad 2016)) (.ref (ad 2017)) (.ref (ad 2018)) (.ref (ad 2019)) (.ref (ad 2020)) (.ref (ad 2021)) (.ref (ad 2022)) (nI 3) h_mo) ⟨(callB_of 0 hg (wd_goodG q_902) rfl rfl rfl (hg _ q_5) (hg _ q_899) (by decide +kernel) ⟨Nat.le_of_ble_eq_true rfl, Nat.le_of_ble_eq_true rfl⟩), hg _ q_900, hg _ q_901⟩ (mp_preV (C := R_M) (T := F_M) hI hK h_mo rfl []) rfl rfl hl.1 rfl (lv_room (Nat.le_of_ble_eq_true rfl)) d_L_law_539 ⟨by omega, by omega⟩) (fun r67 S64 H65 locs p_66 hI => ?_)
        obtain ⟨er67, eS68⟩ := p_66
        rw [eS68] at hI
        have er67 : r67 = nI 3 := er67
        subst er67
        refine lv_iload hx hb d_L_law_542 (lv_at hl 1 rfl) ?_
        refine lv_icmp_eq (tgt := 549) hx hb d_L_law_544 (by decide) (fun _ => ?_) (fun h9 => absurd (rfl) h9)
        refine lv_iload hx hb d_L_law_549 (lv_at hl 1 rfl) ?_
        refine lv_if_ne (tgt := 566) hx hb d_L_law_551 (by decide) (fun _ => ?_) (fun h9 => absurd h9 (by decide))
        refine lv_goto (tgt := 822) hx hb d_L_law_566 (by decide) ?_
        refine W.widen (k := cells + 189) (n := slots + 11130) (by omega) (by omega) ?_
        exact kx S60 _ _ ls ⟨(pa), (lo), (fa0), (ma), (hd), (eo), (me), (ad), (cf), (gv), (tk), (n), (fq), (1), (nI zc), (.ref Av.vo), (ff), (hq), (zq), (mq), (cq), (nI 3), (nI 1), (ak), (nI s9), (nI zc), (PO), (LF), (DG), (LE), (ZM), (OF), (FV), (of), h_o, h_pa, h_fa0, h_oa, h_mo, h_mp, h_le, h_dg, h_lt, h_ze, h_oq, h_fv, hP, hL, hM, hWk, (Or.inr ⟨rfl, hroM, Av, Tv, rfl, hVg, hroB⟩), hgv, htk, hnt, hR, hI9, hIn, hF9⟩ hI (lv_sub hl [2, 3, 4, 5, 6] rfl)
      · refine lv_aload_n hx hb d_L_law_501 rfl (lv_at hl 3 rfl) ?_
        refine lv_aload_n hx hb d_L_law_502 rfl (lv_at hl 4 rfl) ?_
        refine lv_iload hx hb d_L_law_503 (lv_at hl 0 rfl) ?_
        refine lv_iconst (v := nI 1) hx hb d_L_law_505 (by decide) ?_
        refine lv_iadd hx hb d_L_law_506 ?_
        refine lv_topi (fun v69 ev69 => ?_)
        obtain rfl : v69 = nI (i + 1) := ev69.trans (nI_add _ _)
        refine mp_sld hx hb hX hK hI (vp_in_nI (show (i + 1) < L by omega) (by omega)) d_L_law_507 ?_
        refine lv_topi (fun v70 ev70 => ?_)
        obtain rfl : v70 = xs (i + 1) := ev70.trans (by rw [nI_clamp (by omega)])
        refine lv_topi (fun v71 ev71 => ?_)
        obtain rfl : v71 = nI z9 := ev71.trans (hxz)
        refine lv_aload_n hx hb d_L_law_508 rfl (lv_at hl 4 rfl) ?_
        refine lv_iload hx hb d_L_law_509 (lv_at hl 0 rfl) ?_
        refine lv_iconst (v := nI 2) hx hb d_L_law_511 (by decide) ?_
        refine lv_iadd hx hb d_L_law_512 ?_
        refine lv_topi (fun v72 ev72 => ?_)
        obtain rfl : v72 = nI (i + 2) := ev72.trans (nI_add _ _)
        refine mp_sld hx hb hX hK hI (vp_in_nI (show (i + 2) < L by omega) (by omega)) d_L_law_513 ?_
        refine lv_topi (fun v73 ev73 => ?_)
        obtain rfl : v73 = xs (i + 2) := ev73.trans (by rw [nI_clamp (by omega)])
        refine lv_topi (fun v74 ev74 => ?_)
        obtain rfl : v74 = nI k9 := ev74.trans (hxk)
        refine lv_aload_n hx hb d_L_law_514 rfl (lv_at hl 1 rfl) ?_
        refine mp_calli hI (lw_runS (As := [.ref o, .int (nI z9), .int (nI k9), .ref oa]) (rest := []) ⟨hx, hb, hml, hown, hg⟩ (c_L_atK l D g S _ o pa Av.vo Av.qo Av.ky Av.lz Av.za Av.mu9 Av.po nl s9 zc (.ref lo) (.ref fa0) (.int (nI gv)) (.int (nI tk)) (.int fq) (.int (nI nl)) (.ref Av.d9) (.ref Av.zo) (.ref Av.rr) (.ref Av.rc) (.int (nI nl)) (.ref Av.pr) (.ref Av.lw) (.ref Av.ll) (.ref Av.mu) (.ref Av.fa) (.ref Av.nx) (.ref Av.re) (.ref Av.so1) (.ref Av.so2) eo Av.le Av.la Tv.kQ Tv.MQ Tv.dl Tv.CL Tv.ZZ oa of z9 k9 h_o h_pa v_vo v_qo v_ky v_lz v_za v_mu9 h_oa vLo vZ hnl hs hzc hz9 hk9) ⟨callBW_of 4 hg (hts _ q_756) rfl rfl (hg _ q_0) (hg _ q_754) (by decide +kernel) ⟨Nat.le_of_ble_eq_true rfl, Nat.le_of_ble_eq_true rfl⟩, hg _ q_755⟩ (mp_pre hI hK [.ref o, .int (nI z9), .int (nI k9), .ref oa]) rfl rfl hl.1 rfl (lv_room (Nat.le_of_ble_eq_true rfl)) d_L_law_515 ⟨by omega, by omega⟩) (fun r78 S75 H76 locs p_77 hI => ?_)
        obtain ⟨er78, ⟨f1, q_oa, hf1⟩, fr⟩ := p_77
        subst er78
        have h_o : S75 o = some (0, .inr (0, [.int (nI nl), .ref pa, .ref lo, .ref fa0, .int (nI gv), .int (nI tk), .int fq, .int 1, .int (nI zc), .ref Av.vo])) := fr o _ _ h_o (by omega)
        have h_pa : S75 pa = some (1, .inl ((g 2), 40, .inr (.inr (.inr (.inr (rfs eo 40)))))) := fr pa _ _ h_pa (by omega)
        have h_fa0 : S75 fa0 = some (3, .inl ((g 0), 3, .inl ff)) := fr fa0 _ _ h_fa0 (by omega)
        have h_mo : S75 mo = some (2000, .inr (10, [.int (nI nl), .int (nI gv), .int (nI tk), .int th, .ref (ad 2001), .int (nI n), .ref (ad 2002), .ref (ad 2003), .ref (ad 2004), .ref (ad 2005), .ref (ad 2006), .ref (ad 2007), .int (nI 1), .int ak, .int (nI s9), .ref (ad 2008), .ref (ad 2009), .ref (ad 2010), .ref (ad 2011), .ref (ad 2012), .ref (ad 2013), .int (nI zc), .ref (ad 2014), .ref (ad 2015), .ref (ad 2016), .ref (ad 2017), .ref (ad 2018), .ref (ad 2019), .ref (ad 2020), .ref (ad 2021), .ref (ad 2022)])) := fr mo _ _ h_mo (by omega)
        have h_mp : S75 (ad 2001) = some (2001, .inl ((g 0), 40000, .inl (fun j => nI (PO j).val))) := fr (ad 2001) _ _ h_mp (by omega)
        have h_le : S75 (ad 2008) = some (2008, .inl ((g 0), 17, .inl (fun j => nI (LF j)))) := fr (ad 2008) _ _ h_le (by omega)
        have h_dg : S75 (ad 2010) = some (2010, .inl ((g 0), 3, .inl (fun j => nI (DG j)))) := fr (ad 2010) _ _ h_dg (by omega)
        have h_lt : S75 (ad 2011) = some (2011, .inl ((g 0), 51, .inl (fun j => nI (LE j).val))) := fr (ad 2011) _ _ h_lt (by omega)
        have h_ze : S75 (ad 2014) = some (2014, .inl ((g 0), 51, .inl (fun j => nI (ZM j).val))) := fr (ad 2014) _ _ h_ze (by omega)
        have h_oq : S75 (ad 2015) = some (2015, .inl ((g 0), 17, .inl (fun j => nI (OF j)))) := fr (ad 2015) _ _ h_oq (by omega)
        have h_fv : S75 (ad 2016) = some (2016, .inl ((g 5), 3, .inl FV)) := fr (ad 2016) _ _ h_fv (by omega)
        have hP := gPs_kept hP (S1 := S75) (fun b t9 e9 hb9 h1 h2 => by have h8 : S75 b = some (t9, e9) := fr b _ _ hb9 (by omega); rw [h8, hb9])
        have hL := gLs_kept hL (S1 := S75) (fun b t9 e9 hb9 h1 h2 => by have h8 : S75 b = some (t9, e9) := fr b _ _ hb9 (by omega); rw [h8, hb9])
        have hM := gMs_kept hM (S1 := S75) (fun b t9 e9 hb9 h1 h2 => by have h8 : S75 b = some (t9, e9) := fr b _ _ hb9 (by omega); rw [h8, hb9])
        have hWk := gWs_kept hWk (S1 := S75) (fun b t9 e9 hb9 h1 h2 => by have h8 : S75 b = some (t9, e9) := fr b _ _ hb9 (by omega); rw [h8, hb9])
        have hVg := vG_kept hVg (S1 := S75) (fun b t9 e9 hb9 h1 h2 => by have h8 : S75 b = some (t9, e9) := fr b _ _ hb9 (by omega); rw [h8, hb9])
        have h_oa := q_oa
        refine lv_istore (lv' := [(5, .int (nI 0)), (4, .int (nI i)), (3, .ref oa), (2, .ref mo), (1, .ref o), (0, .ref b)]) hx hb d_L_law_518 hl (by decide) rfl (fun ls hl => ?_)
        refine lv_aload_n hx hb d_L_law_520 rfl (lv_at hl 3 rfl) ?_
        refine lv_aload_n hx hb d_L_law_521 rfl (lv_at hl 5 rfl) ?_
        refine lv_iload hx hb d_L_law_522 (lv_at hl 1 rfl) ?_
        refine lv_iconst (v := nI 1) hx hb d_L_law_524 (by decide) ?_
        refine lv_iadd hx hb d_L_law_525 ?_
        refine lv_topi (fun v79 ev79 => ?_)
        obtain rfl : v79 = nI (i + 1) := ev79.trans (nI_add _ _)
        refine mp_sld hx hb hX hK hI (vp_in_nI (show (i + 1) < L by omega) (by omega)) d_L_law_526 ?_
        refine lv_topi (fun v80 ev80 => ?_)
        obtain rfl : v80 = xs (i + 1) := ev80.trans (by rw [nI_clamp (by omega)])
        refine lv_topi (fun v81 ev81 => ?_)
        obtain rfl : v81 = nI z9 := ev81.trans (hxz)
        refine lv_aload_n hx hb d_L_law_527 rfl (lv_at hl 5 rfl) ?_
        refine lv_iload hx hb d_L_law_528 (lv_at hl 1 rfl) ?_
        refine lv_iconst (v := nI 2) hx hb d_L_law_530 (by decide) ?_
        refine lv_iadd hx hb d_L_law_531 ?_
        refine lv_topi (fun v82 ev82 => ?_)
        obtain rfl : v82 = nI (i + 2) := ev82.trans (nI_add _ _)
        refine mp_sld hx hb hX hK hI (vp_in_nI (show (i + 2) < L by omega) (by omega)) d_L_law_532 ?_
        refine lv_topi (fun v83 ev83 => ?_)
        obtain rfl : v83 = xs (i + 2) := ev83.trans (by rw [nI_clamp (by omega)])
        refine lv_topi (fun v84 ev84 => ?_)
        obtain rfl : v84 = nI k9 := ev84.trans (hxk)
        refine mp_calli hI (va_runV (As := [.int (nI z9), .int (nI k9)]) (rest := []) ⟨hx, hb, hml, hown, hg⟩ (c_M_atK l D g S75 _ mo (ad 2001) (ad 2008) (ad 2010) (ad 2011) (ad 2014) (ad 2015) nl s9 zc (.int (nI gv)) (.int (nI tk)) (.int (nI n)) (.ref (ad 2002)) (.ref (ad 2003)) (.ref (ad 2004)) (.ref (ad 2005)) (.ref (ad 2006)) (.ref (ad 2007)) (.int ak) (.ref (ad 2009)) (.ref (ad 2012)) (.ref (ad 2013)) (.ref (ad 2016)) (.ref (ad 2017)) (.ref (ad 2018)) (.ref (ad 2019)) (.ref (ad 2020)) (.ref (ad 2021)) (.ref (ad 2022)) PO LF DG LE ZM OF th z9 k9 h_mo h_mp h_le h_dg h_lt h_ze h_oq hnl hs hzc hz9 hk9) ⟨(callB_of 2 hg (wd_goodG q_1078) rfl rfl rfl (hg _ q_5) (hg _ q_1075) (by decide +kernel) ⟨Nat.le_of_ble_eq_true rfl, Nat.le_of_ble_eq_true rfl⟩), hg _ q_1076, hg _ q_1077⟩ (mp_preV (C := R_M) (T := F_M) hI hK h_mo rfl [.int (nI z9), .int (nI k9)]) rfl rfl hl.1 rfl (lv_room (Nat.le_of_ble_eq_true rfl)) d_L_law_533 ⟨by omega, by omega⟩) (fun r88 S85 H86 locs p_87 hI => ?_)
        obtain ⟨er88, q_mo, fr⟩ := p_87
        have h_o : S85 o = some (0, .inr (0, [.int (nI nl), .ref pa, .ref lo, .ref fa0, .int (nI gv), .int (nI tk), .int fq, .int 1, .int (nI zc), .ref Av.vo])) := fr o _ _ h_o (by omega)
        have h_pa : S85 pa = some (1, .inl ((g 2), 40, .inr (.inr (.inr (.inr (rfs eo 40)))))) := fr pa _ _ h_pa (by omega)
        have h_fa0 : S85 fa0 = some (3, .inl ((g 0), 3, .inl ff)) := fr fa0 _ _ h_fa0 (by omega)
        have h_oa : S85 oa = some (9, .inl ((g 4), 1, .inr (.inl f1))) := fr oa _ _ h_oa (by omega)
        have h_mp : S85 (ad 2001) = some (2001, .inl ((g 0), 40000, .inl (fun j => nI (PO j).val))) := fr (ad 2001) _ _ h_mp (by omega)
        have h_le : S85 (ad 2008) = some (2008, .inl ((g 0), 17, .inl (fun j => nI (LF j)))) := fr (ad 2008) _ _ h_le (by omega)
        have h_dg : S85 (ad 2010) = some (2010, .inl ((g 0), 3, .inl (fun j => nI (DG j)))) := fr (ad 2010) _ _ h_dg (by omega)
        have h_lt : S85 (ad 2011) = some (2011, .inl ((g 0), 51, .inl (fun j => nI (LE j).val))) := fr (ad 2011) _ _ h_lt (by omega)
        have h_ze : S85 (ad 2014) = some (2014, .inl ((g 0), 51, .inl (fun j => nI (ZM j).val))) := fr (ad 2014) _ _ h_ze (by omega)
        have h_oq : S85 (ad 2015) = some (2015, .inl ((g 0), 17, .inl (fun j => nI (OF j)))) := fr (ad 2015) _ _ h_oq (by omega)
        have h_fv : S85 (ad 2016) = some (2016, .inl ((g 5), 3, .inl FV)) := fr (ad 2016) _ _ h_fv (by omega)
        have hP := gPs_kept hP (S1 := S85) (fun b t9 e9 hb9 h1 h2 => by have h8 : S85 b = some (t9, e9) := fr b _ _ hb9 (by omega); rw [h8, hb9])
        have hL := gLs_kept hL (S1 := S85) (fun b t9 e9 hb9 h1 h2 => by have h8 : S85 b = some (t9, e9) := fr b _ _ hb9 (by omega); rw [h8, hb9])
        have hM := gMs_kept hM (S1 := S85) (fun b t9 e9 hb9 h1 h2 => by have h8 : S85 b = some (t9, e9) := fr b _ _ hb9 (by omega); rw [h8, hb9])
        have hWk := gWs_kept hWk (S1 := S85) (fun b t9 e9 hb9 h1 h2 => by have h8 : S85 b = some (t9, e9) := fr b _ _ hb9 (by omega); rw [h8, hb9])
        have hVg := vG_kept hVg (S1 := S85) (fun b t9 e9 hb9 h1 h2 => by have h8 : S85 b = some (t9, e9) := fr b _ _ hb9 (by omega); rw [h8, hb9])
        have h_mo := q_mo
        refine lv_istore (lv' := [(6, .int r88), (5, .int (nI 0)), (4, .int (nI i)), (3, .ref oa), (2, .ref mo), (1, .ref o), (0, .ref b)]) hx hb d_L_law_536 hl (by decide) rfl (fun ls hl => ?_)
        refine lv_aload_n hx hb d_L_law_538 rfl (lv_at hl 4 rfl) ?_
        refine mp_calli hI (va_runV (As := []) (rest := []) ⟨hx, hb, hml, hown, hg⟩ (c_M_thrown l D g S85 _ mo (.int (nI nl)) (.int (nI gv)) (.int (nI tk)) (.ref (ad 2001)) (.int (nI n)) (.ref (ad 2002)) (.ref (ad 2003)) (.ref (ad 2004)) (.ref (ad 2005)) (.ref (ad 2006)) (.ref (ad 2007)) (.int (nI 1)) (.int ak) (.int (nI s9)) (.ref (ad 2008)) (.ref (ad 2009)) (.ref (ad 2010)) (.ref (ad 2011)) (.ref (ad 2012)) (.ref (ad 2013)) (.int (nI zc)) (.ref (ad 2014)) (.ref (ad 2015)) (.ref (ad 2016)) (.ref (ad 2017)) (.ref (ad 2018)) (.ref (ad 2019)) (.ref (ad 2020)) (.ref (ad 2021)) (.ref (ad 2022)) (nI 0) h_mo) ⟨(callB_of 0 hg (wd_goodG q_902) rfl rfl rfl (hg _ q_5) (hg _ q_899) (by decide +kernel) ⟨Nat.le_of_ble_eq_true rfl, Nat.le_of_ble_eq_true rfl⟩), hg _ q_900, hg _ q_901⟩ (mp_preV (C := R_M) (T := F_M) hI hK h_mo rfl []) rfl rfl hl.1 rfl (lv_room (Nat.le_of_ble_eq_true rfl)) d_L_law_539 ⟨by omega, by omega⟩) (fun r92 S89 H90 locs p_91 hI => ?_)
        obtain ⟨er92, eS93⟩ := p_91
        rw [eS93] at hI
        have er92 : r92 = nI 0 := er92
        subst er92
        refine lv_iload hx hb d_L_law_542 (lv_at hl 1 rfl) ?_
        refine lv_icmp_eq (tgt := 549) hx hb d_L_law_544 (by decide) (fun _ => ?_) (fun h9 => absurd (rfl) h9)
        refine lv_iload hx hb d_L_law_549 (lv_at hl 1 rfl) ?_
        refine lv_if_ne (tgt := 566) hx hb d_L_law_551 (by decide) (fun h9 => absurd h9 (by decide)) (fun _ => ?_)
        refine lv_aload_n hx hb d_L_law_554 rfl (lv_at hl 3 rfl) ?_
        refine lv_iconst (v := nI 0) hx hb d_L_law_555 (by decide) ?_
        refine mp_lald hx hb hK.va hI 4 h_oa rfl (vp_in_nI (by decide) (by decide)) d_L_law_556 ?_
        refine lv_topl (fun v94 ev94 => ?_)
        obtain rfl : v94 = (nI (Tv.ZZ z9 k9).val).toInt64 := ev94.trans (hf1)
        refine lv_iload hx hb d_L_law_557 (lv_at hl 0 rfl) ?_
        refine lv_i2l (v := (r88).toInt64) hx hb d_L_law_559 rfl ?_
        refine W.lcmp hx hb d_L_law_560 ?_
        refine lv_if_eq (tgt := 566) hx hb d_L_law_561 (by decide) (fun _ => ?_) (fun h9 => absurd (lg_same (congrArg Int32.toInt64 (show nI (Tv.ZZ z9 k9).val = r88 by rw [er88]; rw [kw3 z9 hz9 k9 (by omega)]))) h9)
        refine lv_goto (tgt := 822) hx hb d_L_law_566 (by decide) ?_
        refine W.widen (k := cells + 189) (n := slots + 11130) (by omega) (by omega) ?_
        exact kx S85 _ _ ls ⟨(pa), (lo), (fa0), (ma), (hd), (eo), (me), (ad), (cf), (gv), (tk), (n), (fq), (1), (nI zc), (.ref Av.vo), (ff), (hq), (zq), (mq), (cq), (nI 0), (nI 1), (ak), (nI s9), (nI zc), (PO), (LF), (DG), (LE), (ZM), (OF), (FV), (f1), h_o, h_pa, h_fa0, h_oa, h_mo, h_mp, h_le, h_dg, h_lt, h_ze, h_oq, h_fv, hP, hL, hM, hWk, (Or.inr ⟨rfl, hroM, Av, Tv, rfl, hVg, hroB⟩), hgv, htk, hnt, hR, hI9, hIn, hF9⟩ hI (lv_sub hl [2, 3, 4, 5, 6] rfl)
set_option maxHeartbeats 8000000 in
set_option maxRecDepth 100000 in
/-- multiplicity -/
theorem lk_multiplicity {p : Program} {l : Launch} {e : Env} {s : State} {m : MethodId} {below : List Frame} {meth : Method} {c : Code} {Q : State → Prop} {D : mp_G} {g : Nat → ClassId} {A : Nat → Prop} {b L i : Nat} {xs : Nat → Int32} {cells slots : Nat} {S : mp_M} {H : Heap} {locs : List Loc} {ls : Array Slot} (hx : p.tables.exec = Jvm.exec) (hb : c.code = b_L_law) (hml : c.maxLocals = 7) (hts : ∀ w ∈ lw_tbl, w.before #[Value.ref b] s = true) (hg : ∀ w ∈ gw, w.before #[Value.ref b] s = true) (hown : s.vm.findClass R_L = some m.cls) (hK : mp_K D classes (tys g) s) (hX : va_X b L xs D.2.1 D.2.1.heap) (hL9 : L ≤ 3585) (hi : i + 6 < L) (hc : cells + 189 ≤ room_1.cells) (hs9 : slots + 11130 ≤ room_1.slots) (hl9 : l.stackTraces = false) {nl oa mo o : Nat} (hnl : nl ≤ 3) (hn1 : 1 ≤ nl) (hV : lawI g nl o mo oa S) (hI : mp_I D classes A s.heap S H locs) (hl : lv_has ls 7 [(4, .int (nI i)), (3, .ref oa), (2, .ref mo), (1, .ref o), (0, .ref b)]) (kx : ∀ (S : mp_M) (H : Heap) (locs : List Loc) (ls : Array Slot), lawI g nl o mo oa S → mp_I D classes A s.heap S H locs → lv_has ls 7 [(4, .int (nI i)), (3, .ref oa), (2, .ref mo), (1, .ref o), (0, .ref b)] → W p l e room_1 s m #[Value.ref b] below meth c H locs (cells + 189) (slots + 11130) Q (F0 m 822 ls [])) : W p l e room_1 s m #[Value.ref b] below meth c H locs (cells) (slots) Q (F0 m 569 ls []) := by
  have hc : cells + 189 ≤ 164015 := hc
  have hs9 : slots + 11130 ≤ 8604026 := hs9
  obtain ⟨pa, lo, fa0, ma, hd, eo, me, ad, cf, gv, tk, n, fq, an, av, sv, ff, hq, zq, mq, cq, th, kn, ak, s0, z0, PO, LF, DG, LE, ZM, OF, FV, of, h_o, h_pa, h_fa0, h_oa, h_mo, h_mp, h_le, h_dg, h_lt, h_ze, h_oq, h_fv, hP, hL, hM, hWk, hA, hgv, htk, hnt, hR, hI9, hIn, hF9⟩ := hV
  rcases an_kn hA with ⟨hkn, hun⟩ | ⟨hkn, han, hroM, Av, Tv, hsve, hVg, hroB⟩
  · obtain ⟨so, hso⟩ := an_opt (an_sv hA)
    subst hso
    subst hkn
    refine lv_aload_n hx hb d_L_law_569 rfl (lv_at hl 3 rfl) ?_
    refine lv_aload_n hx hb d_L_law_570 rfl (lv_at hl 4 rfl) ?_
    refine lv_iload hx hb d_L_law_571 (lv_at hl 0 rfl) ?_
    refine lv_iconst (v := nI 1) hx hb d_L_law_573 (by decide) ?_
    refine lv_iadd hx hb d_L_law_574 ?_
    refine lv_topi (fun v1 ev1 => ?_)
    obtain rfl : v1 = nI (i + 1) := ev1.trans (nI_add _ _)
    refine mp_sld hx hb hX hK hI (vp_in_nI (show (i + 1) < L by omega) (by omega)) d_L_law_575 ?_
    refine lv_topi (fun v2 ev2 => ?_)
    obtain rfl : v2 = xs (i + 1) := ev2.trans (by rw [nI_clamp (by omega)])
    refine lv_aload_n hx hb d_L_law_576 rfl (lv_at hl 1 rfl) ?_
    refine mp_calli hI (lw_runS (As := [.ref o, .int (xs (i + 1)), .ref oa]) (rest := []) ⟨hx, hb, hml, hown, hg⟩ (c_L_multiplicityU l D g S _ o pa (.int (nI nl)) (.ref lo) (.ref fa0) (.int (nI gv)) (.int (nI tk)) (.int fq) an av so (xs (i + 1)) oa of h_o h_oa hl9 (hun.elim (fun q => Or.inl q) (fun q => Or.inr (Or.inl q)))) ⟨callBW_of 3 hg (hts _ q_772) rfl rfl (hg _ q_0) (hg _ q_770) (by decide +kernel) ⟨Nat.le_of_ble_eq_true rfl, Nat.le_of_ble_eq_true rfl⟩, hg _ q_771⟩ (mp_pre hI hK [.ref o, .int (xs (i + 1)), .ref oa]) rfl rfl hl.1 rfl (lv_room (Nat.le_of_ble_eq_true rfl)) d_L_law_577 ⟨by omega, by omega⟩) (fun r6 S3 H4 locs p_5 hI => ?_)
    obtain ⟨er6, eS7⟩ := p_5
    rw [eS7] at hI
    have er6 : r6 = nI 1 := er6
    subst er6
    refine lv_istore (lv' := [(5, .int (nI 1)), (4, .int (nI i)), (3, .ref oa), (2, .ref mo), (1, .ref o), (0, .ref b)]) hx hb d_L_law_580 hl (by decide) rfl (fun ls hl => ?_)
    refine lv_aload_n hx hb d_L_law_582 rfl (lv_at hl 3 rfl) ?_
    refine lv_aload_n hx hb d_L_law_583 rfl (lv_at hl 5 rfl) ?_
    refine lv_iload hx hb d_L_law_584 (lv_at hl 1 rfl) ?_
    refine lv_iconst (v := nI 1) hx hb d_L_law_586 (by decide) ?_
    refine lv_iadd hx hb d_L_law_587 ?_
    refine lv_topi (fun v8 ev8 => ?_)
    obtain rfl : v8 = nI (i + 1) := ev8.trans (nI_add _ _)
    refine mp_sld hx hb hX hK hI (vp_in_nI (show (i + 1) < L by omega) (by omega)) d_L_law_588 ?_
    refine lv_topi (fun v9 ev9 => ?_)
    obtain rfl : v9 = xs (i + 1) := ev9.trans (by rw [nI_clamp (by omega)])
    refine mp_calli hI (va_runV (As := [.int (xs (i + 1))]) (rest := []) ⟨hx, hb, hml, hown, hg⟩ (c_M_multiplicityU l D g S _ mo (.int (nI nl)) (.int (nI gv)) (.int (nI tk)) (.ref (ad 2001)) (.int (nI n)) (.ref (ad 2002)) (.ref (ad 2003)) (.ref (ad 2004)) (.ref (ad 2005)) (.ref (ad 2006)) (.ref (ad 2007)) (.int ak) (.int s0) (.ref (ad 2008)) (.ref (ad 2009)) (.ref (ad 2010)) (.ref (ad 2011)) (.ref (ad 2012)) (.ref (ad 2013)) (.int z0) (.ref (ad 2014)) (.ref (ad 2015)) (.ref (ad 2016)) (.ref (ad 2017)) (.ref (ad 2018)) (.ref (ad 2019)) (.ref (ad 2020)) (.ref (ad 2021)) (.ref (ad 2022)) th (xs (i + 1)) h_mo) ⟨(callB_of 1 hg (wd_goodG q_1090) rfl rfl rfl (hg _ q_5) (hg _ q_1087) (by decide +kernel) ⟨Nat.le_of_ble_eq_true rfl, Nat.le_of_ble_eq_true rfl⟩), hg _ q_1088, hg _ q_1089⟩ (mp_preV (C := R_M) (T := F_M) hI hK h_mo rfl [.int (xs (i + 1))]) rfl rfl hl.1 rfl (lv_room (Nat.le_of_ble_eq_true rfl)) d_L_law_589 ⟨by omega, by omega⟩) (fun r13 S10 H11 locs p_12 hI => ?_)
    obtain ⟨q_mo, fr⟩ := p_12
    have h_o : S10 o = some (0, .inr (0, [.int (nI nl), .ref pa, .ref lo, .ref fa0, .int (nI gv), .int (nI tk), .int fq, .int an, .int av, (va_rf so)])) := (fr o (mp_in h_o) (mp_ne h_o h_mo (by omega))).trans h_o
    have h_pa : S10 pa = some (1, .inl ((g 2), 40, .inr (.inr (.inr (.inr (rfs eo 40)))))) := (fr pa (mp_in h_pa) (mp_ne h_pa h_mo (by omega))).trans h_pa
    have h_fa0 : S10 fa0 = some (3, .inl ((g 0), 3, .inl ff)) := (fr fa0 (mp_in h_fa0) (mp_ne h_fa0 h_mo (by omega))).trans h_fa0
    have h_oa : S10 oa = some (9, .inl ((g 4), 1, .inr (.inl of))) := (fr oa (mp_in h_oa) (mp_ne h_oa h_mo (by omega))).trans h_oa
    have h_mp : S10 (ad 2001) = some (2001, .inl ((g 0), 40000, .inl (fun j => nI (PO j).val))) := (fr (ad 2001) (mp_in h_mp) (mp_ne h_mp h_mo (by omega))).trans h_mp
    have h_le : S10 (ad 2008) = some (2008, .inl ((g 0), 17, .inl (fun j => nI (LF j)))) := (fr (ad 2008) (mp_in h_le) (mp_ne h_le h_mo (by omega))).trans h_le
    have h_dg : S10 (ad 2010) = some (2010, .inl ((g 0), 3, .inl (fun j => nI (DG j)))) := (fr (ad 2010) (mp_in h_dg) (mp_ne h_dg h_mo (by omega))).trans h_dg
    have h_lt : S10 (ad 2011) = some (2011, .inl ((g 0), 51, .inl (fun j => nI (LE j).val))) := (fr (ad 2011) (mp_in h_lt) (mp_ne h_lt h_mo (by omega))).trans h_lt
    have h_ze : S10 (ad 2014) = some (2014, .inl ((g 0), 51, .inl (fun j => nI (ZM j).val))) := (fr (ad 2014) (mp_in h_ze) (mp_ne h_ze h_mo (by omega))).trans h_ze
    have h_oq : S10 (ad 2015) = some (2015, .inl ((g 0), 17, .inl (fun j => nI (OF j)))) := (fr (ad 2015) (mp_in h_oq) (mp_ne h_oq h_mo (by omega))).trans h_oq
    have h_fv : S10 (ad 2016) = some (2016, .inl ((g 5), 3, .inl FV)) := (fr (ad 2016) (mp_in h_fv) (mp_ne h_fv h_mo (by omega))).trans h_fv
    have hP := gPs_kept hP (S1 := S10) (fun b t9 e9 hb9 h1 h2 => by have h8 : S10 b = some (t9, e9) := (fr b (mp_in hb9) (mp_ne hb9 h_mo (by omega))).trans hb9; rw [h8, hb9])
    have hL := gLs_kept hL (S1 := S10) (fun b t9 e9 hb9 h1 h2 => by have h8 : S10 b = some (t9, e9) := (fr b (mp_in hb9) (mp_ne hb9 h_mo (by omega))).trans hb9; rw [h8, hb9])
    have hM := gMs_kept hM (S1 := S10) (fun b t9 e9 hb9 h1 h2 => by have h8 : S10 b = some (t9, e9) := (fr b (mp_in hb9) (mp_ne hb9 h_mo (by omega))).trans hb9; rw [h8, hb9])
    have hWk := gWs_kept hWk (S1 := S10) (fun b t9 e9 hb9 h1 h2 => by have h8 : S10 b = some (t9, e9) := (fr b (mp_in hb9) (mp_ne hb9 h_mo (by omega))).trans hb9; rw [h8, hb9])
    have hA := anP_kept hA (S1 := S10) (fun b t9 e9 hb9 h1 h2 => by have h8 : S10 b = some (t9, e9) := (fr b (mp_in hb9) (mp_ne hb9 h_mo (by omega))).trans hb9; rw [h8, hb9])
    have h_mo := q_mo
    refine lv_istore (lv' := [(6, .int r13), (5, .int (nI 1)), (4, .int (nI i)), (3, .ref oa), (2, .ref mo), (1, .ref o), (0, .ref b)]) hx hb d_L_law_592 hl (by decide) rfl (fun ls hl => ?_)
    refine lv_aload_n hx hb d_L_law_594 rfl (lv_at hl 4 rfl) ?_
    refine mp_calli hI (va_runV (As := []) (rest := []) ⟨hx, hb, hml, hown, hg⟩ (c_M_thrown l D g S10 _ mo (.int (nI nl)) (.int (nI gv)) (.int (nI tk)) (.ref (ad 2001)) (.int (nI n)) (.ref (ad 2002)) (.ref (ad 2003)) (.ref (ad 2004)) (.ref (ad 2005)) (.ref (ad 2006)) (.ref (ad 2007)) (.int (nI 0)) (.int ak) (.int s0) (.ref (ad 2008)) (.ref (ad 2009)) (.ref (ad 2010)) (.ref (ad 2011)) (.ref (ad 2012)) (.ref (ad 2013)) (.int z0) (.ref (ad 2014)) (.ref (ad 2015)) (.ref (ad 2016)) (.ref (ad 2017)) (.ref (ad 2018)) (.ref (ad 2019)) (.ref (ad 2020)) (.ref (ad 2021)) (.ref (ad 2022)) (nI 1) h_mo) ⟨(callB_of 0 hg (wd_goodG q_902) rfl rfl rfl (hg _ q_5) (hg _ q_899) (by decide +kernel) ⟨Nat.le_of_ble_eq_true rfl, Nat.le_of_ble_eq_true rfl⟩), hg _ q_900, hg _ q_901⟩ (mp_preV (C := R_M) (T := F_M) hI hK h_mo rfl []) rfl rfl hl.1 rfl (lv_room (Nat.le_of_ble_eq_true rfl)) d_L_law_595 ⟨by omega, by omega⟩) (fun r17 S14 H15 locs p_16 hI => ?_)
    obtain ⟨er17, eS18⟩ := p_16
    rw [eS18] at hI
    have er17 : r17 = nI 1 := er17
    subst er17
    refine lv_iload hx hb d_L_law_598 (lv_at hl 1 rfl) ?_
    refine lv_icmp_eq (tgt := 605) hx hb d_L_law_600 (by decide) (fun _ => ?_) (fun h9 => absurd (rfl) h9)
    refine lv_iload hx hb d_L_law_605 (lv_at hl 1 rfl) ?_
    refine lv_if_ne (tgt := 622) hx hb d_L_law_607 (by decide) (fun _ => ?_) (fun h9 => absurd h9 (by decide))
    refine lv_goto (tgt := 822) hx hb d_L_law_622 (by decide) ?_
    refine W.widen (k := cells + 189) (n := slots + 11130) (by omega) (by omega) ?_
    exact kx S10 _ _ ls ⟨(pa), (lo), (fa0), (ma), (hd), (eo), (me), (ad), (cf), (gv), (tk), (n), (fq), (an), (av), ((va_rf so)), (ff), (hq), (zq), (mq), (cq), (nI 1), (nI 0), (ak), (s0), (z0), (PO), (LF), (DG), (LE), (ZM), (OF), (FV), (of), h_o, h_pa, h_fa0, h_oa, h_mo, h_mp, h_le, h_dg, h_lt, h_ze, h_oq, h_fv, hP, hL, hM, hWk, hA, hgv, htk, hnt, hR, hI9, hIn, hF9⟩ hI (lv_sub hl [2, 3, 4, 5, 6] rfl)
  · obtain ⟨mkq, mnq, mcapq, mzq, mkfq, mnfq, hfq, l_lo, l_ma, l_hd, l_Y, l_mc, l_B⟩ := id hL
    subst hkn
    subst han
    subst hsve
    obtain ⟨s9, zc, lf, hs, hzc, hav, hs0, hz0, hs1, hz1, kw1, kw2, kw3, kw4⟩ := ro_kw l_B.1 hIn hnl hn1 (lsB_e9 l_B) hroB hroM
    subst hav
    subst hs0
    subst hz0
    obtain ⟨v_vo, v_d9, v_ra, v_ka, v_qo, v_ky, v_pr, v_lw, v_ll, v_mu, v_fa, v_nx, v_re, v_so1, v_rq1, v_rp1, v_so2, v_rq2, v_rp2, v_zo, v_fs, v_lz, v_rr, v_rc, v_za, v_mu9, v_po, v_pn, v_pp, v_on, v_na, v_ot, v_ta, vP, vMU, vR1, vR2, vE, vLo, vRR, vZ, vW, vhone, vtPT, vtMU, vtFa, vtNx, vtRe, vtρ1, vtρ2, vtcn, vtct, vtCF, vtCL, vhFL⟩ := id hVg
    rw [hz1] at v_vo
    rw [hs1] at v_qo
    rcases i32_b (xs (i + 1)) (show zc < 2 ^ 31 by omega) with hx9 | ⟨z9, hz9, hxz⟩
    · refine lv_aload_n hx hb d_L_law_569 rfl (lv_at hl 3 rfl) ?_
      refine lv_aload_n hx hb d_L_law_570 rfl (lv_at hl 4 rfl) ?_
      refine lv_iload hx hb d_L_law_571 (lv_at hl 0 rfl) ?_
      refine lv_iconst (v := nI 1) hx hb d_L_law_573 (by decide) ?_
      refine lv_iadd hx hb d_L_law_574 ?_
      refine lv_topi (fun v19 ev19 => ?_)
      obtain rfl : v19 = nI (i + 1) := ev19.trans (nI_add _ _)
      refine mp_sld hx hb hX hK hI (vp_in_nI (show (i + 1) < L by omega) (by omega)) d_L_law_575 ?_
      refine lv_topi (fun v20 ev20 => ?_)
      obtain rfl : v20 = xs (i + 1) := ev20.trans (by rw [nI_clamp (by omega)])
      refine lv_aload_n hx hb d_L_law_576 rfl (lv_at hl 1 rfl) ?_
      refine mp_calli hI (lw_runS (As := [.ref o, .int (xs (i + 1)), .ref oa]) (rest := []) ⟨hx, hb, hml, hown, hg⟩ (c_L_mulZ l D g S _ o pa Av.vo Av.qo Av.ky Av.lz Av.za Av.mu9 Av.po nl s9 zc (.ref lo) (.ref fa0) (.int (nI gv)) (.int (nI tk)) (.int fq) (.int (nI nl)) (.ref Av.d9) (.ref Av.zo) (.ref Av.rr) (.ref Av.rc) (.int (nI nl)) (.ref Av.pr) (.ref Av.lw) (.ref Av.ll) (.ref Av.mu) (.ref Av.fa) (.ref Av.nx) (.ref Av.re) (.ref Av.so1) (.ref Av.so2) eo Av.le Av.la Tv.kQ Tv.MQ Tv.dl Tv.CL Tv.ZZ oa of (xs (i + 1)) h_o h_pa v_vo v_qo v_ky v_lz v_za v_mu9 h_oa hl9 vLo vZ hnl hs hzc hx9) ⟨callBW_of 3 hg (hts _ q_772) rfl rfl (hg _ q_0) (hg _ q_770) (by decide +kernel) ⟨Nat.le_of_ble_eq_true rfl, Nat.le_of_ble_eq_true rfl⟩, hg _ q_771⟩ (mp_pre hI hK [.ref o, .int (xs (i + 1)), .ref oa]) rfl rfl hl.1 rfl (lv_room (Nat.le_of_ble_eq_true rfl)) d_L_law_577 ⟨by omega, by omega⟩) (fun r24 S21 H22 locs p_23 hI => ?_)
      obtain ⟨er24, eS25⟩ := p_23
      rw [eS25] at hI
      have er24 : r24 = nI 2 := er24
      subst er24
      refine lv_istore (lv' := [(5, .int (nI 2)), (4, .int (nI i)), (3, .ref oa), (2, .ref mo), (1, .ref o), (0, .ref b)]) hx hb d_L_law_580 hl (by decide) rfl (fun ls hl => ?_)
      refine lv_aload_n hx hb d_L_law_582 rfl (lv_at hl 3 rfl) ?_
      refine lv_aload_n hx hb d_L_law_583 rfl (lv_at hl 5 rfl) ?_
      refine lv_iload hx hb d_L_law_584 (lv_at hl 1 rfl) ?_
      refine lv_iconst (v := nI 1) hx hb d_L_law_586 (by decide) ?_
      refine lv_iadd hx hb d_L_law_587 ?_
      refine lv_topi (fun v26 ev26 => ?_)
      obtain rfl : v26 = nI (i + 1) := ev26.trans (nI_add _ _)
      refine mp_sld hx hb hX hK hI (vp_in_nI (show (i + 1) < L by omega) (by omega)) d_L_law_588 ?_
      refine lv_topi (fun v27 ev27 => ?_)
      obtain rfl : v27 = xs (i + 1) := ev27.trans (by rw [nI_clamp (by omega)])
      refine mp_calli hI (va_runV (As := [.int (xs (i + 1))]) (rest := []) ⟨hx, hb, hml, hown, hg⟩ (c_M_mulZ l D g S _ mo (ad 2001) (ad 2008) (ad 2010) (ad 2011) (ad 2014) (ad 2015) nl s9 zc (.int (nI gv)) (.int (nI tk)) (.int (nI n)) (.ref (ad 2002)) (.ref (ad 2003)) (.ref (ad 2004)) (.ref (ad 2005)) (.ref (ad 2006)) (.ref (ad 2007)) (.int ak) (.ref (ad 2009)) (.ref (ad 2012)) (.ref (ad 2013)) (.ref (ad 2016)) (.ref (ad 2017)) (.ref (ad 2018)) (.ref (ad 2019)) (.ref (ad 2020)) (.ref (ad 2021)) (.ref (ad 2022)) PO LF DG LE ZM OF th (xs (i + 1)) h_mo h_mp h_le h_dg h_lt h_ze h_oq hnl hs hzc hx9) ⟨(callB_of 1 hg (wd_goodG q_1090) rfl rfl rfl (hg _ q_5) (hg _ q_1087) (by decide +kernel) ⟨Nat.le_of_ble_eq_true rfl, Nat.le_of_ble_eq_true rfl⟩), hg _ q_1088, hg _ q_1089⟩ (mp_preV (C := R_M) (T := F_M) hI hK h_mo rfl [.int (xs (i + 1))]) rfl rfl hl.1 rfl (lv_room (Nat.le_of_ble_eq_true rfl)) d_L_law_589 ⟨by omega, by omega⟩) (fun r31 S28 H29 locs p_30 hI => ?_)
      obtain ⟨_, q_mo, fr⟩ := p_30
      have h_o : S28 o = some (0, .inr (0, [.int (nI nl), .ref pa, .ref lo, .ref fa0, .int (nI gv), .int (nI tk), .int fq, .int 1, .int (nI zc), .ref Av.vo])) := fr o _ _ h_o (by omega)
      have h_pa : S28 pa = some (1, .inl ((g 2), 40, .inr (.inr (.inr (.inr (rfs eo 40)))))) := fr pa _ _ h_pa (by omega)
      have h_fa0 : S28 fa0 = some (3, .inl ((g 0), 3, .inl ff)) := fr fa0 _ _ h_fa0 (by omega)
      have h_oa : S28 oa = some (9, .inl ((g 4), 1, .inr (.inl of))) := fr oa _ _ h_oa (by omega)
      have h_mp : S28 (ad 2001) = some (2001, .inl ((g 0), 40000, .inl (fun j => nI (PO j).val))) := fr (ad 2001) _ _ h_mp (by omega)
      have h_le : S28 (ad 2008) = some (2008, .inl ((g 0), 17, .inl (fun j => nI (LF j)))) := fr (ad 2008) _ _ h_le (by omega)
      have h_dg : S28 (ad 2010) = some (2010, .inl ((g 0), 3, .inl (fun j => nI (DG j)))) := fr (ad 2010) _ _ h_dg (by omega)
      have h_lt : S28 (ad 2011) = some (2011, .inl ((g 0), 51, .inl (fun j => nI (LE j).val))) := fr (ad 2011) _ _ h_lt (by omega)
      have h_ze : S28 (ad 2014) = some (2014, .inl ((g 0), 51, .inl (fun j => nI (ZM j).val))) := fr (ad 2014) _ _ h_ze (by omega)
      have h_oq : S28 (ad 2015) = some (2015, .inl ((g 0), 17, .inl (fun j => nI (OF j)))) := fr (ad 2015) _ _ h_oq (by omega)
      have h_fv : S28 (ad 2016) = some (2016, .inl ((g 5), 3, .inl FV)) := fr (ad 2016) _ _ h_fv (by omega)
      have hP := gPs_kept hP (S1 := S28) (fun b t9 e9 hb9 h1 h2 => by have h8 : S28 b = some (t9, e9) := fr b _ _ hb9 (by omega); rw [h8, hb9])
      have hL := gLs_kept hL (S1 := S28) (fun b t9 e9 hb9 h1 h2 => by have h8 : S28 b = some (t9, e9) := fr b _ _ hb9 (by omega); rw [h8, hb9])
      have hM := gMs_kept hM (S1 := S28) (fun b t9 e9 hb9 h1 h2 => by have h8 : S28 b = some (t9, e9) := fr b _ _ hb9 (by omega); rw [h8, hb9])
      have hWk := gWs_kept hWk (S1 := S28) (fun b t9 e9 hb9 h1 h2 => by have h8 : S28 b = some (t9, e9) := fr b _ _ hb9 (by omega); rw [h8, hb9])
      have hVg := vG_kept hVg (S1 := S28) (fun b t9 e9 hb9 h1 h2 => by have h8 : S28 b = some (t9, e9) := fr b _ _ hb9 (by omega); rw [h8, hb9])
      have h_mo := q_mo
      refine lv_istore (lv' := [(6, .int r31), (5, .int (nI 2)), (4, .int (nI i)), (3, .ref oa), (2, .ref mo), (1, .ref o), (0, .ref b)]) hx hb d_L_law_592 hl (by decide) rfl (fun ls hl => ?_)
      refine lv_aload_n hx hb d_L_law_594 rfl (lv_at hl 4 rfl) ?_
      refine mp_calli hI (va_runV (As := []) (rest := []) ⟨hx, hb, hml, hown, hg⟩ (c_M_thrown l D g S28 _ mo (.int (nI nl)) (.int (nI gv)) (.int (nI tk)) (.ref (ad 2001)) (.int (nI n)) (.ref (ad 2002)) (.ref (ad 2003)) (.ref (ad 2004)) (.ref (ad 2005)) (.ref (ad 2006)) (.ref (ad 2007)) (.int (nI 1)) (.int ak) (.int (nI s9)) (.ref (ad 2008)) (.ref (ad 2009)) (.ref (ad 2010)) (.ref (ad 2011)) (.ref (ad 2012)) (.ref (ad 2013)) (.int (nI zc)) (.ref (ad 2014)) (.ref (ad 2015)) (.ref (ad 2016)) (.ref (ad 2017)) (.ref (ad 2018)) (.ref (ad 2019)) (.ref (ad 2020)) (.ref (ad 2021)) (.ref (ad 2022)) (nI 2) h_mo) ⟨(callB_of 0 hg (wd_goodG q_902) rfl rfl rfl (hg _ q_5) (hg _ q_899) (by decide +kernel) ⟨Nat.le_of_ble_eq_true rfl, Nat.le_of_ble_eq_true rfl⟩), hg _ q_900, hg _ q_901⟩ (mp_preV (C := R_M) (T := F_M) hI hK h_mo rfl []) rfl rfl hl.1 rfl (lv_room (Nat.le_of_ble_eq_true rfl)) d_L_law_595 ⟨by omega, by omega⟩) (fun r35 S32 H33 locs p_34 hI => ?_)
      obtain ⟨er35, eS36⟩ := p_34
      rw [eS36] at hI
      have er35 : r35 = nI 2 := er35
      subst er35
      refine lv_iload hx hb d_L_law_598 (lv_at hl 1 rfl) ?_
      refine lv_icmp_eq (tgt := 605) hx hb d_L_law_600 (by decide) (fun _ => ?_) (fun h9 => absurd (rfl) h9)
      refine lv_iload hx hb d_L_law_605 (lv_at hl 1 rfl) ?_
      refine lv_if_ne (tgt := 622) hx hb d_L_law_607 (by decide) (fun _ => ?_) (fun h9 => absurd h9 (by decide))
      refine lv_goto (tgt := 822) hx hb d_L_law_622 (by decide) ?_
      refine W.widen (k := cells + 189) (n := slots + 11130) (by omega) (by omega) ?_
      exact kx S28 _ _ ls ⟨(pa), (lo), (fa0), (ma), (hd), (eo), (me), (ad), (cf), (gv), (tk), (n), (fq), (1), (nI zc), (.ref Av.vo), (ff), (hq), (zq), (mq), (cq), (nI 2), (nI 1), (ak), (nI s9), (nI zc), (PO), (LF), (DG), (LE), (ZM), (OF), (FV), (of), h_o, h_pa, h_fa0, h_oa, h_mo, h_mp, h_le, h_dg, h_lt, h_ze, h_oq, h_fv, hP, hL, hM, hWk, (Or.inr ⟨rfl, hroM, Av, Tv, rfl, hVg, hroB⟩), hgv, htk, hnt, hR, hI9, hIn, hF9⟩ hI (lv_sub hl [2, 3, 4, 5, 6] rfl)
    · refine lv_aload_n hx hb d_L_law_569 rfl (lv_at hl 3 rfl) ?_
      refine lv_aload_n hx hb d_L_law_570 rfl (lv_at hl 4 rfl) ?_
      refine lv_iload hx hb d_L_law_571 (lv_at hl 0 rfl) ?_
      refine lv_iconst (v := nI 1) hx hb d_L_law_573 (by decide) ?_
      refine lv_iadd hx hb d_L_law_574 ?_
      refine lv_topi (fun v37 ev37 => ?_)
      obtain rfl : v37 = nI (i + 1) := ev37.trans (nI_add _ _)
      refine mp_sld hx hb hX hK hI (vp_in_nI (show (i + 1) < L by omega) (by omega)) d_L_law_575 ?_
      refine lv_topi (fun v38 ev38 => ?_)
      obtain rfl : v38 = xs (i + 1) := ev38.trans (by rw [nI_clamp (by omega)])
      refine lv_topi (fun v39 ev39 => ?_)
      obtain rfl : v39 = nI z9 := ev39.trans (hxz)
      refine lv_aload_n hx hb d_L_law_576 rfl (lv_at hl 1 rfl) ?_
      refine mp_calli hI (lw_runS (As := [.ref o, .int (nI z9), .ref oa]) (rest := []) ⟨hx, hb, hml, hown, hg⟩ (c_L_mulK l D g S _ o pa Av.vo Av.qo Av.ky Av.lz Av.za Av.mu9 Av.po nl s9 zc (.ref lo) (.ref fa0) (.int (nI gv)) (.int (nI tk)) (.int fq) (.int (nI nl)) (.ref Av.d9) (.ref Av.zo) (.ref Av.rr) (.ref Av.rc) (.int (nI nl)) (.ref Av.pr) (.ref Av.lw) (.ref Av.ll) (.ref Av.mu) (.ref Av.fa) (.ref Av.nx) (.ref Av.re) (.ref Av.so1) (.ref Av.so2) eo Av.le Av.la Tv.kQ Tv.MQ Tv.dl Tv.CL Tv.ZZ oa of z9 h_o h_pa v_vo v_qo v_ky v_lz v_za v_mu9 h_oa vLo vZ hnl hs hzc hz9) ⟨callBW_of 3 hg (hts _ q_772) rfl rfl (hg _ q_0) (hg _ q_770) (by decide +kernel) ⟨Nat.le_of_ble_eq_true rfl, Nat.le_of_ble_eq_true rfl⟩, hg _ q_771⟩ (mp_pre hI hK [.ref o, .int (nI z9), .ref oa]) rfl rfl hl.1 rfl (lv_room (Nat.le_of_ble_eq_true rfl)) d_L_law_577 ⟨by omega, by omega⟩) (fun r43 S40 H41 locs p_42 hI => ?_)
      obtain ⟨er43, ⟨f1, q_oa, hf1⟩, fr⟩ := p_42
      subst er43
      have h_o : S40 o = some (0, .inr (0, [.int (nI nl), .ref pa, .ref lo, .ref fa0, .int (nI gv), .int (nI tk), .int fq, .int 1, .int (nI zc), .ref Av.vo])) := fr o _ _ h_o (by omega)
      have h_pa : S40 pa = some (1, .inl ((g 2), 40, .inr (.inr (.inr (.inr (rfs eo 40)))))) := fr pa _ _ h_pa (by omega)
      have h_fa0 : S40 fa0 = some (3, .inl ((g 0), 3, .inl ff)) := fr fa0 _ _ h_fa0 (by omega)
      have h_mo : S40 mo = some (2000, .inr (10, [.int (nI nl), .int (nI gv), .int (nI tk), .int th, .ref (ad 2001), .int (nI n), .ref (ad 2002), .ref (ad 2003), .ref (ad 2004), .ref (ad 2005), .ref (ad 2006), .ref (ad 2007), .int (nI 1), .int ak, .int (nI s9), .ref (ad 2008), .ref (ad 2009), .ref (ad 2010), .ref (ad 2011), .ref (ad 2012), .ref (ad 2013), .int (nI zc), .ref (ad 2014), .ref (ad 2015), .ref (ad 2016), .ref (ad 2017), .ref (ad 2018), .ref (ad 2019), .ref (ad 2020), .ref (ad 2021), .ref (ad 2022)])) := fr mo _ _ h_mo (by omega)
      have h_mp : S40 (ad 2001) = some (2001, .inl ((g 0), 40000, .inl (fun j => nI (PO j).val))) := fr (ad 2001) _ _ h_mp (by omega)
      have h_le : S40 (ad 2008) = some (2008, .inl ((g 0), 17, .inl (fun j => nI (LF j)))) := fr (ad 2008) _ _ h_le (by omega)
      have h_dg : S40 (ad 2010) = some (2010, .inl ((g 0), 3, .inl (fun j => nI (DG j)))) := fr (ad 2010) _ _ h_dg (by omega)
      have h_lt : S40 (ad 2011) = some (2011, .inl ((g 0), 51, .inl (fun j => nI (LE j).val))) := fr (ad 2011) _ _ h_lt (by omega)
      have h_ze : S40 (ad 2014) = some (2014, .inl ((g 0), 51, .inl (fun j => nI (ZM j).val))) := fr (ad 2014) _ _ h_ze (by omega)
      have h_oq : S40 (ad 2015) = some (2015, .inl ((g 0), 17, .inl (fun j => nI (OF j)))) := fr (ad 2015) _ _ h_oq (by omega)
      have h_fv : S40 (ad 2016) = some (2016, .inl ((g 5), 3, .inl FV)) := fr (ad 2016) _ _ h_fv (by omega)
      have hP := gPs_kept hP (S1 := S40) (fun b t9 e9 hb9 h1 h2 => by have h8 : S40 b = some (t9, e9) := fr b _ _ hb9 (by omega); rw [h8, hb9])
      have hL := gLs_kept hL (S1 := S40) (fun b t9 e9 hb9 h1 h2 => by have h8 : S40 b = some (t9, e9) := fr b _ _ hb9 (by omega); rw [h8, hb9])
      have hM := gMs_kept hM (S1 := S40) (fun b t9 e9 hb9 h1 h2 => by have h8 : S40 b = some (t9, e9) := fr b _ _ hb9 (by omega); rw [h8, hb9])
      have hWk := gWs_kept hWk (S1 := S40) (fun b t9 e9 hb9 h1 h2 => by have h8 : S40 b = some (t9, e9) := fr b _ _ hb9 (by omega); rw [h8, hb9])
      have hVg := vG_kept hVg (S1 := S40) (fun b t9 e9 hb9 h1 h2 => by have h8 : S40 b = some (t9, e9) := fr b _ _ hb9 (by omega); rw [h8, hb9])
      have h_oa := q_oa
      refine lv_istore (lv' := [(5, .int (nI 0)), (4, .int (nI i)), (3, .ref oa), (2, .ref mo), (1, .ref o), (0, .ref b)]) hx hb d_L_law_580 hl (by decide) rfl (fun ls hl => ?_)
      refine lv_aload_n hx hb d_L_law_582 rfl (lv_at hl 3 rfl) ?_
      refine lv_aload_n hx hb d_L_law_583 rfl (lv_at hl 5 rfl) ?_
      refine lv_iload hx hb d_L_law_584 (lv_at hl 1 rfl) ?_
      refine lv_iconst (v := nI 1) hx hb d_L_law_586 (by decide) ?_
      refine lv_iadd hx hb d_L_law_587 ?_
      refine lv_topi (fun v44 ev44 => ?_)
      obtain rfl : v44 = nI (i + 1) := ev44.trans (nI_add _ _)
      refine mp_sld hx hb hX hK hI (vp_in_nI (show (i + 1) < L by omega) (by omega)) d_L_law_588 ?_
      refine lv_topi (fun v45 ev45 => ?_)
      obtain rfl : v45 = xs (i + 1) := ev45.trans (by rw [nI_clamp (by omega)])
      refine lv_topi (fun v46 ev46 => ?_)
      obtain rfl : v46 = nI z9 := ev46.trans (hxz)
      refine mp_calli hI (va_runV (As := [.int (nI z9)]) (rest := []) ⟨hx, hb, hml, hown, hg⟩ (c_M_mulK l D g S40 _ mo (ad 2001) (ad 2008) (ad 2010) (ad 2011) (ad 2014) (ad 2015) nl s9 zc (.int (nI gv)) (.int (nI tk)) (.int (nI n)) (.ref (ad 2002)) (.ref (ad 2003)) (.ref (ad 2004)) (.ref (ad 2005)) (.ref (ad 2006)) (.ref (ad 2007)) (.int ak) (.ref (ad 2009)) (.ref (ad 2012)) (.ref (ad 2013)) (.ref (ad 2016)) (.ref (ad 2017)) (.ref (ad 2018)) (.ref (ad 2019)) (.ref (ad 2020)) (.ref (ad 2021)) (.ref (ad 2022)) PO LF DG LE ZM OF th z9 h_mo h_mp h_le h_dg h_lt h_ze h_oq hnl hs hzc hz9) ⟨(callB_of 1 hg (wd_goodG q_1090) rfl rfl rfl (hg _ q_5) (hg _ q_1087) (by decide +kernel) ⟨Nat.le_of_ble_eq_true rfl, Nat.le_of_ble_eq_true rfl⟩), hg _ q_1088, hg _ q_1089⟩ (mp_preV (C := R_M) (T := F_M) hI hK h_mo rfl [.int (nI z9)]) rfl rfl hl.1 rfl (lv_room (Nat.le_of_ble_eq_true rfl)) d_L_law_589 ⟨by omega, by omega⟩) (fun r50 S47 H48 locs p_49 hI => ?_)
      obtain ⟨er50, q_mo, fr⟩ := p_49
      have h_o : S47 o = some (0, .inr (0, [.int (nI nl), .ref pa, .ref lo, .ref fa0, .int (nI gv), .int (nI tk), .int fq, .int 1, .int (nI zc), .ref Av.vo])) := fr o _ _ h_o (by omega)
      have h_pa : S47 pa = some (1, .inl ((g 2), 40, .inr (.inr (.inr (.inr (rfs eo 40)))))) := fr pa _ _ h_pa (by omega)
      have h_fa0 : S47 fa0 = some (3, .inl ((g 0), 3, .inl ff)) := fr fa0 _ _ h_fa0 (by omega)
      have h_oa : S47 oa = some (9, .inl ((g 4), 1, .inr (.inl f1))) := fr oa _ _ h_oa (by omega)
      have h_mp : S47 (ad 2001) = some (2001, .inl ((g 0), 40000, .inl (fun j => nI (PO j).val))) := fr (ad 2001) _ _ h_mp (by omega)
      have h_le : S47 (ad 2008) = some (2008, .inl ((g 0), 17, .inl (fun j => nI (LF j)))) := fr (ad 2008) _ _ h_le (by omega)
      have h_dg : S47 (ad 2010) = some (2010, .inl ((g 0), 3, .inl (fun j => nI (DG j)))) := fr (ad 2010) _ _ h_dg (by omega)
      have h_lt : S47 (ad 2011) = some (2011, .inl ((g 0), 51, .inl (fun j => nI (LE j).val))) := fr (ad 2011) _ _ h_lt (by omega)
      have h_ze : S47 (ad 2014) = some (2014, .inl ((g 0), 51, .inl (fun j => nI (ZM j).val))) := fr (ad 2014) _ _ h_ze (by omega)
      have h_oq : S47 (ad 2015) = some (2015, .inl ((g 0), 17, .inl (fun j => nI (OF j)))) := fr (ad 2015) _ _ h_oq (by omega)
      have h_fv : S47 (ad 2016) = some (2016, .inl ((g 5), 3, .inl FV)) := fr (ad 2016) _ _ h_fv (by omega)
      have hP := gPs_kept hP (S1 := S47) (fun b t9 e9 hb9 h1 h2 => by have h8 : S47 b = some (t9, e9) := fr b _ _ hb9 (by omega); rw [h8, hb9])
      have hL := gLs_kept hL (S1 := S47) (fun b t9 e9 hb9 h1 h2 => by have h8 : S47 b = some (t9, e9) := fr b _ _ hb9 (by omega); rw [h8, hb9])
      have hM := gMs_kept hM (S1 := S47) (fun b t9 e9 hb9 h1 h2 => by have h8 : S47 b = some (t9, e9) := fr b _ _ hb9 (by omega); rw [h8, hb9])
      have hWk := gWs_kept hWk (S1 := S47) (fun b t9 e9 hb9 h1 h2 => by have h8 : S47 b = some (t9, e9) := fr b _ _ hb9 (by omega); rw [h8, hb9])
      have hVg := vG_kept hVg (S1 := S47) (fun b t9 e9 hb9 h1 h2 => by have h8 : S47 b = some (t9, e9) := fr b _ _ hb9 (by omega); rw [h8, hb9])
      have h_mo := q_mo
      refine lv_istore (lv' := [(6, .int r50), (5, .int (nI 0)), (4, .int (nI i)), (3, .ref oa), (2, .ref mo), (1, .ref o), (0, .ref b)]) hx hb d_L_law_592 hl (by decide) rfl (fun ls hl => ?_)
      refine lv_aload_n hx hb d_L_law_594 rfl (lv_at hl 4 rfl) ?_
      refine mp_calli hI (va_runV (As := []) (rest := []) ⟨hx, hb, hml, hown, hg⟩ (c_M_thrown l D g S47 _ mo (.int (nI nl)) (.int (nI gv)) (.int (nI tk)) (.ref (ad 2001)) (.int (nI n)) (.ref (ad 2002)) (.ref (ad 2003)) (.ref (ad 2004)) (.ref (ad 2005)) (.ref (ad 2006)) (.ref (ad 2007)) (.int (nI 1)) (.int ak) (.int (nI s9)) (.ref (ad 2008)) (.ref (ad 2009)) (.ref (ad 2010)) (.ref (ad 2011)) (.ref (ad 2012)) (.ref (ad 2013)) (.int (nI zc)) (.ref (ad 2014)) (.ref (ad 2015)) (.ref (ad 2016)) (.ref (ad 2017)) (.ref (ad 2018)) (.ref (ad 2019)) (.ref (ad 2020)) (.ref (ad 2021)) (.ref (ad 2022)) (nI 0) h_mo) ⟨(callB_of 0 hg (wd_goodG q_902) rfl rfl rfl (hg _ q_5) (hg _ q_899) (by decide +kernel) ⟨Nat.le_of_ble_eq_true rfl, Nat.le_of_ble_eq_true rfl⟩), hg _ q_900, hg _ q_901⟩ (mp_preV (C := R_M) (T := F_M) hI hK h_mo rfl []) rfl rfl hl.1 rfl (lv_room (Nat.le_of_ble_eq_true rfl)) d_L_law_595 ⟨by omega, by omega⟩) (fun r54 S51 H52 locs p_53 hI => ?_)
      obtain ⟨er54, eS55⟩ := p_53
      rw [eS55] at hI
      have er54 : r54 = nI 0 := er54
      subst er54
      refine lv_iload hx hb d_L_law_598 (lv_at hl 1 rfl) ?_
      refine lv_icmp_eq (tgt := 605) hx hb d_L_law_600 (by decide) (fun _ => ?_) (fun h9 => absurd (rfl) h9)
      refine lv_iload hx hb d_L_law_605 (lv_at hl 1 rfl) ?_
      refine lv_if_ne (tgt := 622) hx hb d_L_law_607 (by decide) (fun h9 => absurd h9 (by decide)) (fun _ => ?_)
      refine lv_aload_n hx hb d_L_law_610 rfl (lv_at hl 3 rfl) ?_
      refine lv_iconst (v := nI 0) hx hb d_L_law_611 (by decide) ?_
      refine mp_lald hx hb hK.va hI 4 h_oa rfl (vp_in_nI (by decide) (by decide)) d_L_law_612 ?_
      refine lv_topl (fun v56 ev56 => ?_)
      obtain rfl : v56 = (nI (Tv.MQ z9)).toInt64 := ev56.trans (hf1)
      refine lv_iload hx hb d_L_law_613 (lv_at hl 0 rfl) ?_
      refine lv_i2l (v := (r50).toInt64) hx hb d_L_law_615 rfl ?_
      refine W.lcmp hx hb d_L_law_616 ?_
      refine lv_if_eq (tgt := 622) hx hb d_L_law_617 (by decide) (fun _ => ?_) (fun h9 => absurd (lg_same (congrArg Int32.toInt64 (show nI (Tv.MQ z9) = r50 by rw [er50]; rw [kw4 z9 hz9]))) h9)
      refine lv_goto (tgt := 822) hx hb d_L_law_622 (by decide) ?_
      refine W.widen (k := cells + 189) (n := slots + 11130) (by omega) (by omega) ?_
      exact kx S47 _ _ ls ⟨(pa), (lo), (fa0), (ma), (hd), (eo), (me), (ad), (cf), (gv), (tk), (n), (fq), (1), (nI zc), (.ref Av.vo), (ff), (hq), (zq), (mq), (cq), (nI 0), (nI 1), (ak), (nI s9), (nI zc), (PO), (LF), (DG), (LE), (ZM), (OF), (FV), (f1), h_o, h_pa, h_fa0, h_oa, h_mo, h_mp, h_le, h_dg, h_lt, h_ze, h_oq, h_fv, hP, hL, hM, hWk, (Or.inr ⟨rfl, hroM, Av, Tv, rfl, hVg, hroB⟩), hgv, htk, hnt, hR, hI9, hIn, hF9⟩ hI (lv_sub hl [2, 3, 4, 5, 6] rfl)
set_option maxHeartbeats 8000000 in
set_option maxRecDepth 100000 in
/-- minimal -/
theorem lk_minimal {p : Program} {l : Launch} {e : Env} {s : State} {m : MethodId} {below : List Frame} {meth : Method} {c : Code} {Q : State → Prop} {D : mp_G} {g : Nat → ClassId} {A : Nat → Prop} {b L i : Nat} {xs : Nat → Int32} {cells slots : Nat} {S : mp_M} {H : Heap} {locs : List Loc} {ls : Array Slot} (hx : p.tables.exec = Jvm.exec) (hb : c.code = b_L_law) (hml : c.maxLocals = 7) (hts : ∀ w ∈ lw_tbl, w.before #[Value.ref b] s = true) (hg : ∀ w ∈ gw, w.before #[Value.ref b] s = true) (hown : s.vm.findClass R_L = some m.cls) (hK : mp_K D classes (tys g) s) (hX : va_X b L xs D.2.1 D.2.1.heap) (hL9 : L ≤ 3585) (hi : i + 6 < L) (hc : cells + 189 ≤ room_1.cells) (hs9 : slots + 11130 ≤ room_1.slots) (hl9 : l.stackTraces = false) {nl oa mo o : Nat} (hnl : nl ≤ 3) (hn1 : 1 ≤ nl) (hV : lawI g nl o mo oa S) (hI : mp_I D classes A s.heap S H locs) (hl : lv_has ls 7 [(4, .int (nI i)), (3, .ref oa), (2, .ref mo), (1, .ref o), (0, .ref b)]) (kx : ∀ (S : mp_M) (H : Heap) (locs : List Loc) (ls : Array Slot), lawI g nl o mo oa S → mp_I D classes A s.heap S H locs → lv_has ls 7 [(4, .int (nI i)), (3, .ref oa), (2, .ref mo), (1, .ref o), (0, .ref b)] → W p l e room_1 s m #[Value.ref b] below meth c H locs (cells + 189) (slots + 11130) Q (F0 m 822 ls [])) : W p l e room_1 s m #[Value.ref b] below meth c H locs (cells) (slots) Q (F0 m 625 ls []) := by
  have hc : cells + 189 ≤ 164015 := hc
  have hs9 : slots + 11130 ≤ 8604026 := hs9
  obtain ⟨pa, lo, fa0, ma, hd, eo, me, ad, cf, gv, tk, n, fq, an, av, sv, ff, hq, zq, mq, cq, th, kn, ak, s0, z0, PO, LF, DG, LE, ZM, OF, FV, of, h_o, h_pa, h_fa0, h_oa, h_mo, h_mp, h_le, h_dg, h_lt, h_ze, h_oq, h_fv, hP, hL, hM, hWk, hA, hgv, htk, hnt, hR, hI9, hIn, hF9⟩ := hV
  rcases an_kn hA with ⟨hkn, hun⟩ | ⟨hkn, han, hroM, Av, Tv, hsve, hVg, hroB⟩
  · obtain ⟨so, hso⟩ := an_opt (an_sv hA)
    subst hso
    subst hkn
    refine lv_aload_n hx hb d_L_law_625 rfl (lv_at hl 3 rfl) ?_
    refine lv_aload_n hx hb d_L_law_626 rfl (lv_at hl 4 rfl) ?_
    refine lv_iload hx hb d_L_law_627 (lv_at hl 0 rfl) ?_
    refine lv_iconst (v := nI 1) hx hb d_L_law_629 (by decide) ?_
    refine lv_iadd hx hb d_L_law_630 ?_
    refine lv_topi (fun v1 ev1 => ?_)
    obtain rfl : v1 = nI (i + 1) := ev1.trans (nI_add _ _)
    refine mp_sld hx hb hX hK hI (vp_in_nI (show (i + 1) < L by omega) (by omega)) d_L_law_631 ?_
    refine lv_topi (fun v2 ev2 => ?_)
    obtain rfl : v2 = xs (i + 1) := ev2.trans (by rw [nI_clamp (by omega)])
    refine lv_aload_n hx hb d_L_law_632 rfl (lv_at hl 4 rfl) ?_
    refine lv_iload hx hb d_L_law_633 (lv_at hl 0 rfl) ?_
    refine lv_iconst (v := nI 2) hx hb d_L_law_635 (by decide) ?_
    refine lv_iadd hx hb d_L_law_636 ?_
    refine lv_topi (fun v3 ev3 => ?_)
    obtain rfl : v3 = nI (i + 2) := ev3.trans (nI_add _ _)
    refine mp_sld hx hb hX hK hI (vp_in_nI (show (i + 2) < L by omega) (by omega)) d_L_law_637 ?_
    refine lv_topi (fun v4 ev4 => ?_)
    obtain rfl : v4 = xs (i + 2) := ev4.trans (by rw [nI_clamp (by omega)])
    refine lv_aload_n hx hb d_L_law_638 rfl (lv_at hl 1 rfl) ?_
    refine mp_calli hI (lw_runS (As := [.ref o, .int (xs (i + 1)), .int (xs (i + 2)), .ref oa]) (rest := []) ⟨hx, hb, hml, hown, hg⟩ (c_L_minimalU l D g S _ o pa (.int (nI nl)) (.ref lo) (.ref fa0) (.int (nI gv)) (.int (nI tk)) (.int fq) an av so (xs (i + 1)) (xs (i + 2)) oa of h_o h_oa hl9 (hun.elim (fun q => Or.inl q) (fun q => Or.inr (Or.inl q)))) ⟨callBW_of 4 hg (hts _ q_779) rfl rfl (hg _ q_0) (hg _ q_777) (by decide +kernel) ⟨Nat.le_of_ble_eq_true rfl, Nat.le_of_ble_eq_true rfl⟩, hg _ q_778⟩ (mp_pre hI hK [.ref o, .int (xs (i + 1)), .int (xs (i + 2)), .ref oa]) rfl rfl hl.1 rfl (lv_room (Nat.le_of_ble_eq_true rfl)) d_L_law_639 ⟨by omega, by omega⟩) (fun r8 S5 H6 locs p_7 hI => ?_)
    obtain ⟨er8, eS9⟩ := p_7
    rw [eS9] at hI
    have er8 : r8 = nI 1 := er8
    subst er8
    refine lv_istore (lv' := [(5, .int (nI 1)), (4, .int (nI i)), (3, .ref oa), (2, .ref mo), (1, .ref o), (0, .ref b)]) hx hb d_L_law_642 hl (by decide) rfl (fun ls hl => ?_)
    refine lv_aload_n hx hb d_L_law_644 rfl (lv_at hl 3 rfl) ?_
    refine lv_aload_n hx hb d_L_law_645 rfl (lv_at hl 5 rfl) ?_
    refine lv_iload hx hb d_L_law_646 (lv_at hl 1 rfl) ?_
    refine lv_iconst (v := nI 1) hx hb d_L_law_648 (by decide) ?_
    refine lv_iadd hx hb d_L_law_649 ?_
    refine lv_topi (fun v10 ev10 => ?_)
    obtain rfl : v10 = nI (i + 1) := ev10.trans (nI_add _ _)
    refine mp_sld hx hb hX hK hI (vp_in_nI (show (i + 1) < L by omega) (by omega)) d_L_law_650 ?_
    refine lv_topi (fun v11 ev11 => ?_)
    obtain rfl : v11 = xs (i + 1) := ev11.trans (by rw [nI_clamp (by omega)])
    refine lv_aload_n hx hb d_L_law_651 rfl (lv_at hl 5 rfl) ?_
    refine lv_iload hx hb d_L_law_652 (lv_at hl 1 rfl) ?_
    refine lv_iconst (v := nI 2) hx hb d_L_law_654 (by decide) ?_
    refine lv_iadd hx hb d_L_law_655 ?_
    refine lv_topi (fun v12 ev12 => ?_)
    obtain rfl : v12 = nI (i + 2) := ev12.trans (nI_add _ _)
    refine mp_sld hx hb hX hK hI (vp_in_nI (show (i + 2) < L by omega) (by omega)) d_L_law_656 ?_
    refine lv_topi (fun v13 ev13 => ?_)
    obtain rfl : v13 = xs (i + 2) := ev13.trans (by rw [nI_clamp (by omega)])
    refine mp_calli hI (va_runV (As := [.int (xs (i + 1)), .int (xs (i + 2))]) (rest := []) ⟨hx, hb, hml, hown, hg⟩ (c_M_minimalU l D g S _ mo (.int (nI nl)) (.int (nI gv)) (.int (nI tk)) (.ref (ad 2001)) (.int (nI n)) (.ref (ad 2002)) (.ref (ad 2003)) (.ref (ad 2004)) (.ref (ad 2005)) (.ref (ad 2006)) (.ref (ad 2007)) (.int ak) (.int s0) (.ref (ad 2008)) (.ref (ad 2009)) (.ref (ad 2010)) (.ref (ad 2011)) (.ref (ad 2012)) (.ref (ad 2013)) (.int z0) (.ref (ad 2014)) (.ref (ad 2015)) (.ref (ad 2016)) (.ref (ad 2017)) (.ref (ad 2018)) (.ref (ad 2019)) (.ref (ad 2020)) (.ref (ad 2021)) (.ref (ad 2022)) th (xs (i + 1)) (xs (i + 2)) h_mo) ⟨(callB_of 2 hg (wd_goodG q_1094) rfl rfl rfl (hg _ q_5) (hg _ q_1091) (by decide +kernel) ⟨Nat.le_of_ble_eq_true rfl, Nat.le_of_ble_eq_true rfl⟩), hg _ q_1092, hg _ q_1093⟩ (mp_preV (C := R_M) (T := F_M) hI hK h_mo rfl [.int (xs (i + 1)), .int (xs (i + 2))]) rfl rfl hl.1 rfl (lv_room (Nat.le_of_ble_eq_true rfl)) d_L_law_657 ⟨by omega, by omega⟩) (fun r17 S14 H15 locs p_16 hI => ?_)
    obtain ⟨q_mo, fr⟩ := p_16
    have h_o : S14 o = some (0, .inr (0, [.int (nI nl), .ref pa, .ref lo, .ref fa0, .int (nI gv), .int (nI tk), .int fq, .int an, .int av, (va_rf so)])) := (fr o (mp_in h_o) (mp_ne h_o h_mo (by omega))).trans h_o
    have h_pa : S14 pa = some (1, .inl ((g 2), 40, .inr (.inr (.inr (.inr (rfs eo 40)))))) := (fr pa (mp_in h_pa) (mp_ne h_pa h_mo (by omega))).trans h_pa
    have h_fa0 : S14 fa0 = some (3, .inl ((g 0), 3, .inl ff)) := (fr fa0 (mp_in h_fa0) (mp_ne h_fa0 h_mo (by omega))).trans h_fa0
    have h_oa : S14 oa = some (9, .inl ((g 4), 1, .inr (.inl of))) := (fr oa (mp_in h_oa) (mp_ne h_oa h_mo (by omega))).trans h_oa
    have h_mp : S14 (ad 2001) = some (2001, .inl ((g 0), 40000, .inl (fun j => nI (PO j).val))) := (fr (ad 2001) (mp_in h_mp) (mp_ne h_mp h_mo (by omega))).trans h_mp
    have h_le : S14 (ad 2008) = some (2008, .inl ((g 0), 17, .inl (fun j => nI (LF j)))) := (fr (ad 2008) (mp_in h_le) (mp_ne h_le h_mo (by omega))).trans h_le
    have h_dg : S14 (ad 2010) = some (2010, .inl ((g 0), 3, .inl (fun j => nI (DG j)))) := (fr (ad 2010) (mp_in h_dg) (mp_ne h_dg h_mo (by omega))).trans h_dg
    have h_lt : S14 (ad 2011) = some (2011, .inl ((g 0), 51, .inl (fun j => nI (LE j).val))) := (fr (ad 2011) (mp_in h_lt) (mp_ne h_lt h_mo (by omega))).trans h_lt
    have h_ze : S14 (ad 2014) = some (2014, .inl ((g 0), 51, .inl (fun j => nI (ZM j).val))) := (fr (ad 2014) (mp_in h_ze) (mp_ne h_ze h_mo (by omega))).trans h_ze
    have h_oq : S14 (ad 2015) = some (2015, .inl ((g 0), 17, .inl (fun j => nI (OF j)))) := (fr (ad 2015) (mp_in h_oq) (mp_ne h_oq h_mo (by omega))).trans h_oq
    have h_fv : S14 (ad 2016) = some (2016, .inl ((g 5), 3, .inl FV)) := (fr (ad 2016) (mp_in h_fv) (mp_ne h_fv h_mo (by omega))).trans h_fv
    have hP := gPs_kept hP (S1 := S14) (fun b t9 e9 hb9 h1 h2 => by have h8 : S14 b = some (t9, e9) := (fr b (mp_in hb9) (mp_ne hb9 h_mo (by omega))).trans hb9; rw [h8, hb9])
    have hL := gLs_kept hL (S1 := S14) (fun b t9 e9 hb9 h1 h2 => by have h8 : S14 b = some (t9, e9) := (fr b (mp_in hb9) (mp_ne hb9 h_mo (by omega))).trans hb9; rw [h8, hb9])
    have hM := gMs_kept hM (S1 := S14) (fun b t9 e9 hb9 h1 h2 => by have h8 : S14 b = some (t9, e9) := (fr b (mp_in hb9) (mp_ne hb9 h_mo (by omega))).trans hb9; rw [h8, hb9])
    have hWk := gWs_kept hWk (S1 := S14) (fun b t9 e9 hb9 h1 h2 => by have h8 : S14 b = some (t9, e9) := (fr b (mp_in hb9) (mp_ne hb9 h_mo (by omega))).trans hb9; rw [h8, hb9])
    have hA := anP_kept hA (S1 := S14) (fun b t9 e9 hb9 h1 h2 => by have h8 : S14 b = some (t9, e9) := (fr b (mp_in hb9) (mp_ne hb9 h_mo (by omega))).trans hb9; rw [h8, hb9])
    have h_mo := q_mo
    refine lv_istore (lv' := [(6, .int r17), (5, .int (nI 1)), (4, .int (nI i)), (3, .ref oa), (2, .ref mo), (1, .ref o), (0, .ref b)]) hx hb d_L_law_660 hl (by decide) rfl (fun ls hl => ?_)
    refine lv_aload_n hx hb d_L_law_662 rfl (lv_at hl 4 rfl) ?_
    refine mp_calli hI (va_runV (As := []) (rest := []) ⟨hx, hb, hml, hown, hg⟩ (c_M_thrown l D g S14 _ mo (.int (nI nl)) (.int (nI gv)) (.int (nI tk)) (.ref (ad 2001)) (.int (nI n)) (.ref (ad 2002)) (.ref (ad 2003)) (.ref (ad 2004)) (.ref (ad 2005)) (.ref (ad 2006)) (.ref (ad 2007)) (.int (nI 0)) (.int ak) (.int s0) (.ref (ad 2008)) (.ref (ad 2009)) (.ref (ad 2010)) (.ref (ad 2011)) (.ref (ad 2012)) (.ref (ad 2013)) (.int z0) (.ref (ad 2014)) (.ref (ad 2015)) (.ref (ad 2016)) (.ref (ad 2017)) (.ref (ad 2018)) (.ref (ad 2019)) (.ref (ad 2020)) (.ref (ad 2021)) (.ref (ad 2022)) (nI 1) h_mo) ⟨(callB_of 0 hg (wd_goodG q_902) rfl rfl rfl (hg _ q_5) (hg _ q_899) (by decide +kernel) ⟨Nat.le_of_ble_eq_true rfl, Nat.le_of_ble_eq_true rfl⟩), hg _ q_900, hg _ q_901⟩ (mp_preV (C := R_M) (T := F_M) hI hK h_mo rfl []) rfl rfl hl.1 rfl (lv_room (Nat.le_of_ble_eq_true rfl)) d_L_law_663 ⟨by omega, by omega⟩) (fun r21 S18 H19 locs p_20 hI => ?_)
    obtain ⟨er21, eS22⟩ := p_20
    rw [eS22] at hI
    have er21 : r21 = nI 1 := er21
    subst er21
    refine lv_iload hx hb d_L_law_666 (lv_at hl 1 rfl) ?_
    refine lv_icmp_eq (tgt := 673) hx hb d_L_law_668 (by decide) (fun _ => ?_) (fun h9 => absurd (rfl) h9)
    refine lv_iload hx hb d_L_law_673 (lv_at hl 1 rfl) ?_
    refine lv_if_ne (tgt := 690) hx hb d_L_law_675 (by decide) (fun _ => ?_) (fun h9 => absurd h9 (by decide))
    refine lv_goto (tgt := 822) hx hb d_L_law_690 (by decide) ?_
    refine W.widen (k := cells + 189) (n := slots + 11130) (by omega) (by omega) ?_
    exact kx S14 _ _ ls ⟨(pa), (lo), (fa0), (ma), (hd), (eo), (me), (ad), (cf), (gv), (tk), (n), (fq), (an), (av), ((va_rf so)), (ff), (hq), (zq), (mq), (cq), (nI 1), (nI 0), (ak), (s0), (z0), (PO), (LF), (DG), (LE), (ZM), (OF), (FV), (of), h_o, h_pa, h_fa0, h_oa, h_mo, h_mp, h_le, h_dg, h_lt, h_ze, h_oq, h_fv, hP, hL, hM, hWk, hA, hgv, htk, hnt, hR, hI9, hIn, hF9⟩ hI (lv_sub hl [2, 3, 4, 5, 6] rfl)
  · obtain ⟨mkq, mnq, mcapq, mzq, mkfq, mnfq, hfq, l_lo, l_ma, l_hd, l_Y, l_mc, l_B⟩ := id hL
    subst hkn
    subst han
    subst hsve
    obtain ⟨s9, zc, lf, hs, hzc, hav, hs0, hz0, hs1, hz1, kw1, kw2, kw3, kw4⟩ := ro_kw l_B.1 hIn hnl hn1 (lsB_e9 l_B) hroB hroM
    subst hav
    subst hs0
    subst hz0
    obtain ⟨v_vo, v_d9, v_ra, v_ka, v_qo, v_ky, v_pr, v_lw, v_ll, v_mu, v_fa, v_nx, v_re, v_so1, v_rq1, v_rp1, v_so2, v_rq2, v_rp2, v_zo, v_fs, v_lz, v_rr, v_rc, v_za, v_mu9, v_po, v_pn, v_pp, v_on, v_na, v_ot, v_ta, vP, vMU, vR1, vR2, vE, vLo, vRR, vZ, vW, vhone, vtPT, vtMU, vtFa, vtNx, vtRe, vtρ1, vtρ2, vtcn, vtct, vtCF, vtCL, vhFL⟩ := id hVg
    rw [hz1] at v_vo
    rw [hs1] at v_qo
    rcases i32_b (xs (i + 1)) (show nl < 2 ^ 31 by omega) with hx9 | ⟨k9, hk9, hxk⟩
    · refine lv_aload_n hx hb d_L_law_625 rfl (lv_at hl 3 rfl) ?_
      refine lv_aload_n hx hb d_L_law_626 rfl (lv_at hl 4 rfl) ?_
      refine lv_iload hx hb d_L_law_627 (lv_at hl 0 rfl) ?_
      refine lv_iconst (v := nI 1) hx hb d_L_law_629 (by decide) ?_
      refine lv_iadd hx hb d_L_law_630 ?_
      refine lv_topi (fun v23 ev23 => ?_)
      obtain rfl : v23 = nI (i + 1) := ev23.trans (nI_add _ _)
      refine mp_sld hx hb hX hK hI (vp_in_nI (show (i + 1) < L by omega) (by omega)) d_L_law_631 ?_
      refine lv_topi (fun v24 ev24 => ?_)
      obtain rfl : v24 = xs (i + 1) := ev24.trans (by rw [nI_clamp (by omega)])
      refine lv_aload_n hx hb d_L_law_632 rfl (lv_at hl 4 rfl) ?_
      refine lv_iload hx hb d_L_law_633 (lv_at hl 0 rfl) ?_
      refine lv_iconst (v := nI 2) hx hb d_L_law_635 (by decide) ?_
      refine lv_iadd hx hb d_L_law_636 ?_
      refine lv_topi (fun v25 ev25 => ?_)
      obtain rfl : v25 = nI (i + 2) := ev25.trans (nI_add _ _)
      refine mp_sld hx hb hX hK hI (vp_in_nI (show (i + 2) < L by omega) (by omega)) d_L_law_637 ?_
      refine lv_topi (fun v26 ev26 => ?_)
      obtain rfl : v26 = xs (i + 2) := ev26.trans (by rw [nI_clamp (by omega)])
      refine lv_aload_n hx hb d_L_law_638 rfl (lv_at hl 1 rfl) ?_
      refine mp_calli hI (lw_runS (As := [.ref o, .int (xs (i + 1)), .int (xs (i + 2)), .ref oa]) (rest := []) ⟨hx, hb, hml, hown, hg⟩ (c_L_minL l D g S _ o pa Av.vo Av.qo Av.ky Av.lz Av.za Av.mu9 Av.po nl s9 zc (.ref lo) (.ref fa0) (.int (nI gv)) (.int (nI tk)) (.int fq) (.int (nI nl)) (.ref Av.d9) (.ref Av.zo) (.ref Av.rr) (.ref Av.rc) (.int (nI nl)) (.ref Av.pr) (.ref Av.lw) (.ref Av.ll) (.ref Av.mu) (.ref Av.fa) (.ref Av.nx) (.ref Av.re) (.ref Av.so1) (.ref Av.so2) eo Av.le Av.la Tv.kQ Tv.MQ Tv.dl Tv.CL Tv.ZZ oa of (xs (i + 1)) (xs (i + 2)) h_o h_pa v_vo v_qo v_ky v_lz v_za v_mu9 h_oa hl9 vLo vZ hnl hs hzc hx9) ⟨callBW_of 4 hg (hts _ q_779) rfl rfl (hg _ q_0) (hg _ q_777) (by decide +kernel) ⟨Nat.le_of_ble_eq_true rfl, Nat.le_of_ble_eq_true rfl⟩, hg _ q_778⟩ (mp_pre hI hK [.ref o, .int (xs (i + 1)), .int (xs (i + 2)), .ref oa]) rfl rfl hl.1 rfl (lv_room (Nat.le_of_ble_eq_true rfl)) d_L_law_639 ⟨by omega, by omega⟩) (fun r30 S27 H28 locs p_29 hI => ?_)
      obtain ⟨er30, eS31⟩ := p_29
      rw [eS31] at hI
      have er30 : r30 = nI 2 := er30
      subst er30
      refine lv_istore (lv' := [(5, .int (nI 2)), (4, .int (nI i)), (3, .ref oa), (2, .ref mo), (1, .ref o), (0, .ref b)]) hx hb d_L_law_642 hl (by decide) rfl (fun ls hl => ?_)
      refine lv_aload_n hx hb d_L_law_644 rfl (lv_at hl 3 rfl) ?_
      refine lv_aload_n hx hb d_L_law_645 rfl (lv_at hl 5 rfl) ?_
      refine lv_iload hx hb d_L_law_646 (lv_at hl 1 rfl) ?_
      refine lv_iconst (v := nI 1) hx hb d_L_law_648 (by decide) ?_
      refine lv_iadd hx hb d_L_law_649 ?_
      refine lv_topi (fun v32 ev32 => ?_)
      obtain rfl : v32 = nI (i + 1) := ev32.trans (nI_add _ _)
      refine mp_sld hx hb hX hK hI (vp_in_nI (show (i + 1) < L by omega) (by omega)) d_L_law_650 ?_
      refine lv_topi (fun v33 ev33 => ?_)
      obtain rfl : v33 = xs (i + 1) := ev33.trans (by rw [nI_clamp (by omega)])
      refine lv_aload_n hx hb d_L_law_651 rfl (lv_at hl 5 rfl) ?_
      refine lv_iload hx hb d_L_law_652 (lv_at hl 1 rfl) ?_
      refine lv_iconst (v := nI 2) hx hb d_L_law_654 (by decide) ?_
      refine lv_iadd hx hb d_L_law_655 ?_
      refine lv_topi (fun v34 ev34 => ?_)
      obtain rfl : v34 = nI (i + 2) := ev34.trans (nI_add _ _)
      refine mp_sld hx hb hX hK hI (vp_in_nI (show (i + 2) < L by omega) (by omega)) d_L_law_656 ?_
      refine lv_topi (fun v35 ev35 => ?_)
      obtain rfl : v35 = xs (i + 2) := ev35.trans (by rw [nI_clamp (by omega)])
      refine mp_calli hI (va_runV (As := [.int (xs (i + 1)), .int (xs (i + 2))]) (rest := []) ⟨hx, hb, hml, hown, hg⟩ (c_M_minL l D g S _ mo (ad 2001) (ad 2008) (ad 2010) (ad 2011) (ad 2014) (ad 2015) nl s9 zc (.int (nI gv)) (.int (nI tk)) (.int (nI n)) (.ref (ad 2002)) (.ref (ad 2003)) (.ref (ad 2004)) (.ref (ad 2005)) (.ref (ad 2006)) (.ref (ad 2007)) (.int ak) (.ref (ad 2009)) (.ref (ad 2012)) (.ref (ad 2013)) (.ref (ad 2016)) (.ref (ad 2017)) (.ref (ad 2018)) (.ref (ad 2019)) (.ref (ad 2020)) (.ref (ad 2021)) (.ref (ad 2022)) PO LF DG LE ZM OF th (xs (i + 1)) (xs (i + 2)) h_mo h_mp h_le h_dg h_lt h_ze h_oq hnl hs hzc hx9) ⟨(callB_of 2 hg (wd_goodG q_1094) rfl rfl rfl (hg _ q_5) (hg _ q_1091) (by decide +kernel) ⟨Nat.le_of_ble_eq_true rfl, Nat.le_of_ble_eq_true rfl⟩), hg _ q_1092, hg _ q_1093⟩ (mp_preV (C := R_M) (T := F_M) hI hK h_mo rfl [.int (xs (i + 1)), .int (xs (i + 2))]) rfl rfl hl.1 rfl (lv_room (Nat.le_of_ble_eq_true rfl)) d_L_law_657 ⟨by omega, by omega⟩) (fun r39 S36 H37 locs p_38 hI => ?_)
      obtain ⟨_, q_mo, fr⟩ := p_38
      have h_o : S36 o = some (0, .inr (0, [.int (nI nl), .ref pa, .ref lo, .ref fa0, .int (nI gv), .int (nI tk), .int fq, .int 1, .int (nI zc), .ref Av.vo])) := fr o _ _ h_o (by omega)
      have h_pa : S36 pa = some (1, .inl ((g 2), 40, .inr (.inr (.inr (.inr (rfs eo 40)))))) := fr pa _ _ h_pa (by omega)
      have h_fa0 : S36 fa0 = some (3, .inl ((g 0), 3, .inl ff)) := fr fa0 _ _ h_fa0 (by omega)
      have h_oa : S36 oa = some (9, .inl ((g 4), 1, .inr (.inl of))) := fr oa _ _ h_oa (by omega)
      have h_mp : S36 (ad 2001) = some (2001, .inl ((g 0), 40000, .inl (fun j => nI (PO j).val))) := fr (ad 2001) _ _ h_mp (by omega)
      have h_le : S36 (ad 2008) = some (2008, .inl ((g 0), 17, .inl (fun j => nI (LF j)))) := fr (ad 2008) _ _ h_le (by omega)
      have h_dg : S36 (ad 2010) = some (2010, .inl ((g 0), 3, .inl (fun j => nI (DG j)))) := fr (ad 2010) _ _ h_dg (by omega)
      have h_lt : S36 (ad 2011) = some (2011, .inl ((g 0), 51, .inl (fun j => nI (LE j).val))) := fr (ad 2011) _ _ h_lt (by omega)
      have h_ze : S36 (ad 2014) = some (2014, .inl ((g 0), 51, .inl (fun j => nI (ZM j).val))) := fr (ad 2014) _ _ h_ze (by omega)
      have h_oq : S36 (ad 2015) = some (2015, .inl ((g 0), 17, .inl (fun j => nI (OF j)))) := fr (ad 2015) _ _ h_oq (by omega)
      have h_fv : S36 (ad 2016) = some (2016, .inl ((g 5), 3, .inl FV)) := fr (ad 2016) _ _ h_fv (by omega)
      have hP := gPs_kept hP (S1 := S36) (fun b t9 e9 hb9 h1 h2 => by have h8 : S36 b = some (t9, e9) := fr b _ _ hb9 (by omega); rw [h8, hb9])
      have hL := gLs_kept hL (S1 := S36) (fun b t9 e9 hb9 h1 h2 => by have h8 : S36 b = some (t9, e9) := fr b _ _ hb9 (by omega); rw [h8, hb9])
      have hM := gMs_kept hM (S1 := S36) (fun b t9 e9 hb9 h1 h2 => by have h8 : S36 b = some (t9, e9) := fr b _ _ hb9 (by omega); rw [h8, hb9])
      have hWk := gWs_kept hWk (S1 := S36) (fun b t9 e9 hb9 h1 h2 => by have h8 : S36 b = some (t9, e9) := fr b _ _ hb9 (by omega); rw [h8, hb9])
      have hVg := vG_kept hVg (S1 := S36) (fun b t9 e9 hb9 h1 h2 => by have h8 : S36 b = some (t9, e9) := fr b _ _ hb9 (by omega); rw [h8, hb9])
      have h_mo := q_mo
      refine lv_istore (lv' := [(6, .int r39), (5, .int (nI 2)), (4, .int (nI i)), (3, .ref oa), (2, .ref mo), (1, .ref o), (0, .ref b)]) hx hb d_L_law_660 hl (by decide) rfl (fun ls hl => ?_)
      refine lv_aload_n hx hb d_L_law_662 rfl (lv_at hl 4 rfl) ?_
      refine mp_calli hI (va_runV (As := []) (rest := []) ⟨hx, hb, hml, hown, hg⟩ (c_M_thrown l D g S36 _ mo (.int (nI nl)) (.int (nI gv)) (.int (nI tk)) (.ref (ad 2001)) (.int (nI n)) (.ref (ad 2002)) (.ref (ad 2003)) (.ref (ad 2004)) (.ref (ad 2005)) (.ref (ad 2006)) (.ref (ad 2007)) (.int (nI 1)) (.int ak) (.int (nI s9)) (.ref (ad 2008)) (.ref (ad 2009)) (.ref (ad 2010)) (.ref (ad 2011)) (.ref (ad 2012)) (.ref (ad 2013)) (.int (nI zc)) (.ref (ad 2014)) (.ref (ad 2015)) (.ref (ad 2016)) (.ref (ad 2017)) (.ref (ad 2018)) (.ref (ad 2019)) (.ref (ad 2020)) (.ref (ad 2021)) (.ref (ad 2022)) (nI 2) h_mo) ⟨(callB_of 0 hg (wd_goodG q_902) rfl rfl rfl (hg _ q_5) (hg _ q_899) (by decide +kernel) ⟨Nat.le_of_ble_eq_true rfl, Nat.le_of_ble_eq_true rfl⟩), hg _ q_900, hg _ q_901⟩ (mp_preV (C := R_M) (T := F_M) hI hK h_mo rfl []) rfl rfl hl.1 rfl (lv_room (Nat.le_of_ble_eq_true rfl)) d_L_law_663 ⟨by omega, by omega⟩) (fun r43 S40 H41 locs p_42 hI => ?_)
      obtain ⟨er43, eS44⟩ := p_42
      rw [eS44] at hI
      have er43 : r43 = nI 2 := er43
      subst er43
      refine lv_iload hx hb d_L_law_666 (lv_at hl 1 rfl) ?_
      refine lv_icmp_eq (tgt := 673) hx hb d_L_law_668 (by decide) (fun _ => ?_) (fun h9 => absurd (rfl) h9)
      refine lv_iload hx hb d_L_law_673 (lv_at hl 1 rfl) ?_
      refine lv_if_ne (tgt := 690) hx hb d_L_law_675 (by decide) (fun _ => ?_) (fun h9 => absurd h9 (by decide))
      refine lv_goto (tgt := 822) hx hb d_L_law_690 (by decide) ?_
      refine W.widen (k := cells + 189) (n := slots + 11130) (by omega) (by omega) ?_
      exact kx S36 _ _ ls ⟨(pa), (lo), (fa0), (ma), (hd), (eo), (me), (ad), (cf), (gv), (tk), (n), (fq), (1), (nI zc), (.ref Av.vo), (ff), (hq), (zq), (mq), (cq), (nI 2), (nI 1), (ak), (nI s9), (nI zc), (PO), (LF), (DG), (LE), (ZM), (OF), (FV), (of), h_o, h_pa, h_fa0, h_oa, h_mo, h_mp, h_le, h_dg, h_lt, h_ze, h_oq, h_fv, hP, hL, hM, hWk, (Or.inr ⟨rfl, hroM, Av, Tv, rfl, hVg, hroB⟩), hgv, htk, hnt, hR, hI9, hIn, hF9⟩ hI (lv_sub hl [2, 3, 4, 5, 6] rfl)
    · obtain ⟨hD1, hD2, hD3⟩ := kw2 k9 hk9
      rcases i32_c (xs (i + 2)) (show DG k9 < 2 ^ 31 by omega) with hx9 | ⟨e8, he8, hxe⟩
      · refine lv_aload_n hx hb d_L_law_625 rfl (lv_at hl 3 rfl) ?_
        refine lv_aload_n hx hb d_L_law_626 rfl (lv_at hl 4 rfl) ?_
        refine lv_iload hx hb d_L_law_627 (lv_at hl 0 rfl) ?_
        refine lv_iconst (v := nI 1) hx hb d_L_law_629 (by decide) ?_
        refine lv_iadd hx hb d_L_law_630 ?_
        refine lv_topi (fun v45 ev45 => ?_)
        obtain rfl : v45 = nI (i + 1) := ev45.trans (nI_add _ _)
        refine mp_sld hx hb hX hK hI (vp_in_nI (show (i + 1) < L by omega) (by omega)) d_L_law_631 ?_
        refine lv_topi (fun v46 ev46 => ?_)
        obtain rfl : v46 = xs (i + 1) := ev46.trans (by rw [nI_clamp (by omega)])
        refine lv_topi (fun v47 ev47 => ?_)
        obtain rfl : v47 = nI k9 := ev47.trans (hxk)
        refine lv_aload_n hx hb d_L_law_632 rfl (lv_at hl 4 rfl) ?_
        refine lv_iload hx hb d_L_law_633 (lv_at hl 0 rfl) ?_
        refine lv_iconst (v := nI 2) hx hb d_L_law_635 (by decide) ?_
        refine lv_iadd hx hb d_L_law_636 ?_
        refine lv_topi (fun v48 ev48 => ?_)
        obtain rfl : v48 = nI (i + 2) := ev48.trans (nI_add _ _)
        refine mp_sld hx hb hX hK hI (vp_in_nI (show (i + 2) < L by omega) (by omega)) d_L_law_637 ?_
        refine lv_topi (fun v49 ev49 => ?_)
        obtain rfl : v49 = xs (i + 2) := ev49.trans (by rw [nI_clamp (by omega)])
        refine lv_aload_n hx hb d_L_law_638 rfl (lv_at hl 1 rfl) ?_
        refine mp_calli hI (lw_runS (As := [.ref o, .int (nI k9), .int (xs (i + 2)), .ref oa]) (rest := []) ⟨hx, hb, hml, hown, hg⟩ (c_L_minE l D g S _ o pa Av.vo Av.qo Av.ky Av.lz Av.za Av.mu9 Av.po nl s9 zc (.ref lo) (.ref fa0) (.int (nI gv)) (.int (nI tk)) (.int fq) (.int (nI nl)) (.ref Av.d9) (.ref Av.zo) (.ref Av.rr) (.ref Av.rc) (.int (nI nl)) (.ref Av.pr) (.ref Av.lw) (.ref Av.ll) (.ref Av.mu) (.ref Av.fa) (.ref Av.nx) (.ref Av.re) (.ref Av.so1) (.ref Av.so2) eo Av.le Av.la Tv.kQ Tv.MQ Tv.dl Tv.CL Tv.ZZ oa of k9 (DG k9) (xs (i + 2)) h_o h_pa v_vo v_qo v_ky v_lz v_za v_mu9 h_oa vLo vZ hnl hs hzc hk9 hD2 hx9) ⟨callBW_of 4 hg (hts _ q_779) rfl rfl (hg _ q_0) (hg _ q_777) (by decide +kernel) ⟨Nat.le_of_ble_eq_true rfl, Nat.le_of_ble_eq_true rfl⟩, hg _ q_778⟩ (mp_pre hI hK [.ref o, .int (nI k9), .int (xs (i + 2)), .ref oa]) rfl rfl hl.1 rfl (lv_room (Nat.le_of_ble_eq_true rfl)) d_L_law_639 ⟨by omega, by omega⟩) (fun r53 S50 H51 locs p_52 hI => ?_)
        obtain ⟨er53, ⟨f1, q_oa, hf1⟩, fr⟩ := p_52
        subst er53
        have h_o : S50 o = some (0, .inr (0, [.int (nI nl), .ref pa, .ref lo, .ref fa0, .int (nI gv), .int (nI tk), .int fq, .int 1, .int (nI zc), .ref Av.vo])) := fr o _ _ h_o (by omega)
        have h_pa : S50 pa = some (1, .inl ((g 2), 40, .inr (.inr (.inr (.inr (rfs eo 40)))))) := fr pa _ _ h_pa (by omega)
        have h_fa0 : S50 fa0 = some (3, .inl ((g 0), 3, .inl ff)) := fr fa0 _ _ h_fa0 (by omega)
        have h_mo : S50 mo = some (2000, .inr (10, [.int (nI nl), .int (nI gv), .int (nI tk), .int th, .ref (ad 2001), .int (nI n), .ref (ad 2002), .ref (ad 2003), .ref (ad 2004), .ref (ad 2005), .ref (ad 2006), .ref (ad 2007), .int (nI 1), .int ak, .int (nI s9), .ref (ad 2008), .ref (ad 2009), .ref (ad 2010), .ref (ad 2011), .ref (ad 2012), .ref (ad 2013), .int (nI zc), .ref (ad 2014), .ref (ad 2015), .ref (ad 2016), .ref (ad 2017), .ref (ad 2018), .ref (ad 2019), .ref (ad 2020), .ref (ad 2021), .ref (ad 2022)])) := fr mo _ _ h_mo (by omega)
        have h_mp : S50 (ad 2001) = some (2001, .inl ((g 0), 40000, .inl (fun j => nI (PO j).val))) := fr (ad 2001) _ _ h_mp (by omega)
        have h_le : S50 (ad 2008) = some (2008, .inl ((g 0), 17, .inl (fun j => nI (LF j)))) := fr (ad 2008) _ _ h_le (by omega)
        have h_dg : S50 (ad 2010) = some (2010, .inl ((g 0), 3, .inl (fun j => nI (DG j)))) := fr (ad 2010) _ _ h_dg (by omega)
        have h_lt : S50 (ad 2011) = some (2011, .inl ((g 0), 51, .inl (fun j => nI (LE j).val))) := fr (ad 2011) _ _ h_lt (by omega)
        have h_ze : S50 (ad 2014) = some (2014, .inl ((g 0), 51, .inl (fun j => nI (ZM j).val))) := fr (ad 2014) _ _ h_ze (by omega)
        have h_oq : S50 (ad 2015) = some (2015, .inl ((g 0), 17, .inl (fun j => nI (OF j)))) := fr (ad 2015) _ _ h_oq (by omega)
        have h_fv : S50 (ad 2016) = some (2016, .inl ((g 5), 3, .inl FV)) := fr (ad 2016) _ _ h_fv (by omega)
        have hP := gPs_kept hP (S1 := S50) (fun b t9 e9 hb9 h1 h2 => by have h8 : S50 b = some (t9, e9) := fr b _ _ hb9 (by omega); rw [h8, hb9])
        have hL := gLs_kept hL (S1 := S50) (fun b t9 e9 hb9 h1 h2 => by have h8 : S50 b = some (t9, e9) := fr b _ _ hb9 (by omega); rw [h8, hb9])
        have hM := gMs_kept hM (S1 := S50) (fun b t9 e9 hb9 h1 h2 => by have h8 : S50 b = some (t9, e9) := fr b _ _ hb9 (by omega); rw [h8, hb9])
        have hWk := gWs_kept hWk (S1 := S50) (fun b t9 e9 hb9 h1 h2 => by have h8 : S50 b = some (t9, e9) := fr b _ _ hb9 (by omega); rw [h8, hb9])
        have hVg := vG_kept hVg (S1 := S50) (fun b t9 e9 hb9 h1 h2 => by have h8 : S50 b = some (t9, e9) := fr b _ _ hb9 (by omega); rw [h8, hb9])
        have h_oa := q_oa
        refine lv_istore (lv' := [(5, .int (nI 0)), (4, .int (nI i)), (3, .ref oa), (2, .ref mo), (1, .ref o), (0, .ref b)]) hx hb d_L_law_642 hl (by decide) rfl (fun ls hl => ?_)
        refine lv_aload_n hx hb d_L_law_644 rfl (lv_at hl 3 rfl) ?_
        refine lv_aload_n hx hb d_L_law_645 rfl (lv_at hl 5 rfl) ?_
        refine lv_iload hx hb d_L_law_646 (lv_at hl 1 rfl) ?_
        refine lv_iconst (v := nI 1) hx hb d_L_law_648 (by decide) ?_
        refine lv_iadd hx hb d_L_law_649 ?_
        refine lv_topi (fun v54 ev54 => ?_)
        obtain rfl : v54 = nI (i + 1) := ev54.trans (nI_add _ _)
        refine mp_sld hx hb hX hK hI (vp_in_nI (show (i + 1) < L by omega) (by omega)) d_L_law_650 ?_
        refine lv_topi (fun v55 ev55 => ?_)
        obtain rfl : v55 = xs (i + 1) := ev55.trans (by rw [nI_clamp (by omega)])
        refine lv_topi (fun v56 ev56 => ?_)
        obtain rfl : v56 = nI k9 := ev56.trans (hxk)
        refine lv_aload_n hx hb d_L_law_651 rfl (lv_at hl 5 rfl) ?_
        refine lv_iload hx hb d_L_law_652 (lv_at hl 1 rfl) ?_
        refine lv_iconst (v := nI 2) hx hb d_L_law_654 (by decide) ?_
        refine lv_iadd hx hb d_L_law_655 ?_
        refine lv_topi (fun v57 ev57 => ?_)
        obtain rfl : v57 = nI (i + 2) := ev57.trans (nI_add _ _)
        refine mp_sld hx hb hX hK hI (vp_in_nI (show (i + 2) < L by omega) (by omega)) d_L_law_656 ?_
        refine lv_topi (fun v58 ev58 => ?_)
        obtain rfl : v58 = xs (i + 2) := ev58.trans (by rw [nI_clamp (by omega)])
        refine mp_calli hI (va_runV (As := [.int (nI k9), .int (xs (i + 2))]) (rest := []) ⟨hx, hb, hml, hown, hg⟩ (c_M_minE l D g S50 _ mo (ad 2001) (ad 2008) (ad 2010) (ad 2011) (ad 2014) (ad 2015) nl s9 zc (.int (nI gv)) (.int (nI tk)) (.int (nI n)) (.ref (ad 2002)) (.ref (ad 2003)) (.ref (ad 2004)) (.ref (ad 2005)) (.ref (ad 2006)) (.ref (ad 2007)) (.int ak) (.ref (ad 2009)) (.ref (ad 2012)) (.ref (ad 2013)) (.ref (ad 2016)) (.ref (ad 2017)) (.ref (ad 2018)) (.ref (ad 2019)) (.ref (ad 2020)) (.ref (ad 2021)) (.ref (ad 2022)) PO LF DG LE ZM OF th k9 (xs (i + 2)) h_mo h_mp h_le h_dg h_lt h_ze h_oq hnl hs hzc hk9 hx9) ⟨(callB_of 2 hg (wd_goodG q_1094) rfl rfl rfl (hg _ q_5) (hg _ q_1091) (by decide +kernel) ⟨Nat.le_of_ble_eq_true rfl, Nat.le_of_ble_eq_true rfl⟩), hg _ q_1092, hg _ q_1093⟩ (mp_preV (C := R_M) (T := F_M) hI hK h_mo rfl [.int (nI k9), .int (xs (i + 2))]) rfl rfl hl.1 rfl (lv_room (Nat.le_of_ble_eq_true rfl)) d_L_law_657 ⟨by omega, by omega⟩) (fun r62 S59 H60 locs p_61 hI => ?_)
        obtain ⟨er62, q_mo, fr⟩ := p_61
        have h_o : S59 o = some (0, .inr (0, [.int (nI nl), .ref pa, .ref lo, .ref fa0, .int (nI gv), .int (nI tk), .int fq, .int 1, .int (nI zc), .ref Av.vo])) := fr o _ _ h_o (by omega)
        have h_pa : S59 pa = some (1, .inl ((g 2), 40, .inr (.inr (.inr (.inr (rfs eo 40)))))) := fr pa _ _ h_pa (by omega)
        have h_fa0 : S59 fa0 = some (3, .inl ((g 0), 3, .inl ff)) := fr fa0 _ _ h_fa0 (by omega)
        have h_oa : S59 oa = some (9, .inl ((g 4), 1, .inr (.inl f1))) := fr oa _ _ h_oa (by omega)
        have h_mp : S59 (ad 2001) = some (2001, .inl ((g 0), 40000, .inl (fun j => nI (PO j).val))) := fr (ad 2001) _ _ h_mp (by omega)
        have h_le : S59 (ad 2008) = some (2008, .inl ((g 0), 17, .inl (fun j => nI (LF j)))) := fr (ad 2008) _ _ h_le (by omega)
        have h_dg : S59 (ad 2010) = some (2010, .inl ((g 0), 3, .inl (fun j => nI (DG j)))) := fr (ad 2010) _ _ h_dg (by omega)
        have h_lt : S59 (ad 2011) = some (2011, .inl ((g 0), 51, .inl (fun j => nI (LE j).val))) := fr (ad 2011) _ _ h_lt (by omega)
        have h_ze : S59 (ad 2014) = some (2014, .inl ((g 0), 51, .inl (fun j => nI (ZM j).val))) := fr (ad 2014) _ _ h_ze (by omega)
        have h_oq : S59 (ad 2015) = some (2015, .inl ((g 0), 17, .inl (fun j => nI (OF j)))) := fr (ad 2015) _ _ h_oq (by omega)
        have h_fv : S59 (ad 2016) = some (2016, .inl ((g 5), 3, .inl FV)) := fr (ad 2016) _ _ h_fv (by omega)
        have hP := gPs_kept hP (S1 := S59) (fun b t9 e9 hb9 h1 h2 => by have h8 : S59 b = some (t9, e9) := fr b _ _ hb9 (by omega); rw [h8, hb9])
        have hL := gLs_kept hL (S1 := S59) (fun b t9 e9 hb9 h1 h2 => by have h8 : S59 b = some (t9, e9) := fr b _ _ hb9 (by omega); rw [h8, hb9])
        have hM := gMs_kept hM (S1 := S59) (fun b t9 e9 hb9 h1 h2 => by have h8 : S59 b = some (t9, e9) := fr b _ _ hb9 (by omega); rw [h8, hb9])
        have hWk := gWs_kept hWk (S1 := S59) (fun b t9 e9 hb9 h1 h2 => by have h8 : S59 b = some (t9, e9) := fr b _ _ hb9 (by omega); rw [h8, hb9])
        have hVg := vG_kept hVg (S1 := S59) (fun b t9 e9 hb9 h1 h2 => by have h8 : S59 b = some (t9, e9) := fr b _ _ hb9 (by omega); rw [h8, hb9])
        have h_mo := q_mo
        refine lv_istore (lv' := [(6, .int r62), (5, .int (nI 0)), (4, .int (nI i)), (3, .ref oa), (2, .ref mo), (1, .ref o), (0, .ref b)]) hx hb d_L_law_660 hl (by decide) rfl (fun ls hl => ?_)
        refine lv_aload_n hx hb d_L_law_662 rfl (lv_at hl 4 rfl) ?_
        refine mp_calli hI (va_runV (As := []) (rest := []) ⟨hx, hb, hml, hown, hg⟩ (c_M_thrown l D g S59 _ mo (.int (nI nl)) (.int (nI gv)) (.int (nI tk)) (.ref (ad 2001)) (.int (nI n)) (.ref (ad 2002)) (.ref (ad 2003)) (.ref (ad 2004)) (.ref (ad 2005)) (.ref (ad 2006)) (.ref (ad 2007)) (.int (nI 1)) (.int ak) (.int (nI s9)) (.ref (ad 2008)) (.ref (ad 2009)) (.ref (ad 2010)) (.ref (ad 2011)) (.ref (ad 2012)) (.ref (ad 2013)) (.int (nI zc)) (.ref (ad 2014)) (.ref (ad 2015)) (.ref (ad 2016)) (.ref (ad 2017)) (.ref (ad 2018)) (.ref (ad 2019)) (.ref (ad 2020)) (.ref (ad 2021)) (.ref (ad 2022)) (nI 0) h_mo) ⟨(callB_of 0 hg (wd_goodG q_902) rfl rfl rfl (hg _ q_5) (hg _ q_899) (by decide +kernel) ⟨Nat.le_of_ble_eq_true rfl, Nat.le_of_ble_eq_true rfl⟩), hg _ q_900, hg _ q_901⟩ (mp_preV (C := R_M) (T := F_M) hI hK h_mo rfl []) rfl rfl hl.1 rfl (lv_room (Nat.le_of_ble_eq_true rfl)) d_L_law_663 ⟨by omega, by omega⟩) (fun r66 S63 H64 locs p_65 hI => ?_)
        obtain ⟨er66, eS67⟩ := p_65
        rw [eS67] at hI
        have er66 : r66 = nI 0 := er66
        subst er66
        refine lv_iload hx hb d_L_law_666 (lv_at hl 1 rfl) ?_
        refine lv_icmp_eq (tgt := 673) hx hb d_L_law_668 (by decide) (fun _ => ?_) (fun h9 => absurd (rfl) h9)
        refine lv_iload hx hb d_L_law_673 (lv_at hl 1 rfl) ?_
        refine lv_if_ne (tgt := 690) hx hb d_L_law_675 (by decide) (fun h9 => absurd h9 (by decide)) (fun _ => ?_)
        refine lv_aload_n hx hb d_L_law_678 rfl (lv_at hl 3 rfl) ?_
        refine lv_iconst (v := nI 0) hx hb d_L_law_679 (by decide) ?_
        refine mp_lald hx hb hK.va hI 4 h_oa rfl (vp_in_nI (by decide) (by decide)) d_L_law_680 ?_
        refine lv_topl (fun v68 ev68 => ?_)
        obtain rfl : v68 = ((0 : Int32)).toInt64 := ev68.trans (hf1.trans (by decide))
        refine lv_iload hx hb d_L_law_681 (lv_at hl 0 rfl) ?_
        refine lv_i2l (v := (r62).toInt64) hx hb d_L_law_683 rfl ?_
        refine W.lcmp hx hb d_L_law_684 ?_
        refine lv_if_eq (tgt := 690) hx hb d_L_law_685 (by decide) (fun _ => ?_) (fun h9 => absurd (lg_same (congrArg Int32.toInt64 (show (0 : Int32) = r62 by rw [er62]))) h9)
        refine lv_goto (tgt := 822) hx hb d_L_law_690 (by decide) ?_
        refine W.widen (k := cells + 189) (n := slots + 11130) (by omega) (by omega) ?_
        exact kx S59 _ _ ls ⟨(pa), (lo), (fa0), (ma), (hd), (eo), (me), (ad), (cf), (gv), (tk), (n), (fq), (1), (nI zc), (.ref Av.vo), (ff), (hq), (zq), (mq), (cq), (nI 0), (nI 1), (ak), (nI s9), (nI zc), (PO), (LF), (DG), (LE), (ZM), (OF), (FV), (f1), h_o, h_pa, h_fa0, h_oa, h_mo, h_mp, h_le, h_dg, h_lt, h_ze, h_oq, h_fv, hP, hL, hM, hWk, (Or.inr ⟨rfl, hroM, Av, Tv, rfl, hVg, hroB⟩), hgv, htk, hnt, hR, hI9, hIn, hF9⟩ hI (lv_sub hl [2, 3, 4, 5, 6] rfl)
      · refine lv_aload_n hx hb d_L_law_625 rfl (lv_at hl 3 rfl) ?_
        refine lv_aload_n hx hb d_L_law_626 rfl (lv_at hl 4 rfl) ?_
        refine lv_iload hx hb d_L_law_627 (lv_at hl 0 rfl) ?_
        refine lv_iconst (v := nI 1) hx hb d_L_law_629 (by decide) ?_
        refine lv_iadd hx hb d_L_law_630 ?_
        refine lv_topi (fun v69 ev69 => ?_)
        obtain rfl : v69 = nI (i + 1) := ev69.trans (nI_add _ _)
        refine mp_sld hx hb hX hK hI (vp_in_nI (show (i + 1) < L by omega) (by omega)) d_L_law_631 ?_
        refine lv_topi (fun v70 ev70 => ?_)
        obtain rfl : v70 = xs (i + 1) := ev70.trans (by rw [nI_clamp (by omega)])
        refine lv_topi (fun v71 ev71 => ?_)
        obtain rfl : v71 = nI k9 := ev71.trans (hxk)
        refine lv_aload_n hx hb d_L_law_632 rfl (lv_at hl 4 rfl) ?_
        refine lv_iload hx hb d_L_law_633 (lv_at hl 0 rfl) ?_
        refine lv_iconst (v := nI 2) hx hb d_L_law_635 (by decide) ?_
        refine lv_iadd hx hb d_L_law_636 ?_
        refine lv_topi (fun v72 ev72 => ?_)
        obtain rfl : v72 = nI (i + 2) := ev72.trans (nI_add _ _)
        refine mp_sld hx hb hX hK hI (vp_in_nI (show (i + 2) < L by omega) (by omega)) d_L_law_637 ?_
        refine lv_topi (fun v73 ev73 => ?_)
        obtain rfl : v73 = xs (i + 2) := ev73.trans (by rw [nI_clamp (by omega)])
        refine lv_topi (fun v74 ev74 => ?_)
        obtain rfl : v74 = nI e8 := ev74.trans (hxe)
        refine lv_aload_n hx hb d_L_law_638 rfl (lv_at hl 1 rfl) ?_
        refine mp_calli hI (lw_runS (As := [.ref o, .int (nI k9), .int (nI e8), .ref oa]) (rest := []) ⟨hx, hb, hml, hown, hg⟩ (c_L_minK l D g S _ o pa Av.vo Av.qo Av.ky Av.lz Av.za Av.mu9 Av.po nl s9 zc (.ref lo) (.ref fa0) (.int (nI gv)) (.int (nI tk)) (.int fq) (.int (nI nl)) (.ref Av.d9) (.ref Av.zo) (.ref Av.rr) (.ref Av.rc) (.int (nI nl)) (.ref Av.pr) (.ref Av.lw) (.ref Av.ll) (.ref Av.mu) (.ref Av.fa) (.ref Av.nx) (.ref Av.re) (.ref Av.so1) (.ref Av.so2) eo Av.le Av.la Tv.kQ Tv.MQ Tv.dl Tv.CL Tv.ZZ oa of k9 (DG k9) e8 h_o h_pa v_vo v_qo v_ky v_lz v_za v_mu9 h_oa vLo vZ hnl hs hzc hk9 hD2 he8 hD1) ⟨callBW_of 4 hg (hts _ q_779) rfl rfl (hg _ q_0) (hg _ q_777) (by decide +kernel) ⟨Nat.le_of_ble_eq_true rfl, Nat.le_of_ble_eq_true rfl⟩, hg _ q_778⟩ (mp_pre hI hK [.ref o, .int (nI k9), .int (nI e8), .ref oa]) rfl rfl hl.1 rfl (lv_room (Nat.le_of_ble_eq_true rfl)) d_L_law_639 ⟨by omega, by omega⟩) (fun r78 S75 H76 locs p_77 hI => ?_)
        obtain ⟨er78, ⟨f1, q_oa, hf1⟩, fr⟩ := p_77
        subst er78
        have h_o : S75 o = some (0, .inr (0, [.int (nI nl), .ref pa, .ref lo, .ref fa0, .int (nI gv), .int (nI tk), .int fq, .int 1, .int (nI zc), .ref Av.vo])) := fr o _ _ h_o (by omega)
        have h_pa : S75 pa = some (1, .inl ((g 2), 40, .inr (.inr (.inr (.inr (rfs eo 40)))))) := fr pa _ _ h_pa (by omega)
        have h_fa0 : S75 fa0 = some (3, .inl ((g 0), 3, .inl ff)) := fr fa0 _ _ h_fa0 (by omega)
        have h_mo : S75 mo = some (2000, .inr (10, [.int (nI nl), .int (nI gv), .int (nI tk), .int th, .ref (ad 2001), .int (nI n), .ref (ad 2002), .ref (ad 2003), .ref (ad 2004), .ref (ad 2005), .ref (ad 2006), .ref (ad 2007), .int (nI 1), .int ak, .int (nI s9), .ref (ad 2008), .ref (ad 2009), .ref (ad 2010), .ref (ad 2011), .ref (ad 2012), .ref (ad 2013), .int (nI zc), .ref (ad 2014), .ref (ad 2015), .ref (ad 2016), .ref (ad 2017), .ref (ad 2018), .ref (ad 2019), .ref (ad 2020), .ref (ad 2021), .ref (ad 2022)])) := fr mo _ _ h_mo (by omega)
        have h_mp : S75 (ad 2001) = some (2001, .inl ((g 0), 40000, .inl (fun j => nI (PO j).val))) := fr (ad 2001) _ _ h_mp (by omega)
        have h_le : S75 (ad 2008) = some (2008, .inl ((g 0), 17, .inl (fun j => nI (LF j)))) := fr (ad 2008) _ _ h_le (by omega)
        have h_dg : S75 (ad 2010) = some (2010, .inl ((g 0), 3, .inl (fun j => nI (DG j)))) := fr (ad 2010) _ _ h_dg (by omega)
        have h_lt : S75 (ad 2011) = some (2011, .inl ((g 0), 51, .inl (fun j => nI (LE j).val))) := fr (ad 2011) _ _ h_lt (by omega)
        have h_ze : S75 (ad 2014) = some (2014, .inl ((g 0), 51, .inl (fun j => nI (ZM j).val))) := fr (ad 2014) _ _ h_ze (by omega)
        have h_oq : S75 (ad 2015) = some (2015, .inl ((g 0), 17, .inl (fun j => nI (OF j)))) := fr (ad 2015) _ _ h_oq (by omega)
        have h_fv : S75 (ad 2016) = some (2016, .inl ((g 5), 3, .inl FV)) := fr (ad 2016) _ _ h_fv (by omega)
        have hP := gPs_kept hP (S1 := S75) (fun b t9 e9 hb9 h1 h2 => by have h8 : S75 b = some (t9, e9) := fr b _ _ hb9 (by omega); rw [h8, hb9])
        have hL := gLs_kept hL (S1 := S75) (fun b t9 e9 hb9 h1 h2 => by have h8 : S75 b = some (t9, e9) := fr b _ _ hb9 (by omega); rw [h8, hb9])
        have hM := gMs_kept hM (S1 := S75) (fun b t9 e9 hb9 h1 h2 => by have h8 : S75 b = some (t9, e9) := fr b _ _ hb9 (by omega); rw [h8, hb9])
        have hWk := gWs_kept hWk (S1 := S75) (fun b t9 e9 hb9 h1 h2 => by have h8 : S75 b = some (t9, e9) := fr b _ _ hb9 (by omega); rw [h8, hb9])
        have hVg := vG_kept hVg (S1 := S75) (fun b t9 e9 hb9 h1 h2 => by have h8 : S75 b = some (t9, e9) := fr b _ _ hb9 (by omega); rw [h8, hb9])
        have h_oa := q_oa
        refine lv_istore (lv' := [(5, .int (nI 0)), (4, .int (nI i)), (3, .ref oa), (2, .ref mo), (1, .ref o), (0, .ref b)]) hx hb d_L_law_642 hl (by decide) rfl (fun ls hl => ?_)
        refine lv_aload_n hx hb d_L_law_644 rfl (lv_at hl 3 rfl) ?_
        refine lv_aload_n hx hb d_L_law_645 rfl (lv_at hl 5 rfl) ?_
        refine lv_iload hx hb d_L_law_646 (lv_at hl 1 rfl) ?_
        refine lv_iconst (v := nI 1) hx hb d_L_law_648 (by decide) ?_
        refine lv_iadd hx hb d_L_law_649 ?_
        refine lv_topi (fun v79 ev79 => ?_)
        obtain rfl : v79 = nI (i + 1) := ev79.trans (nI_add _ _)
        refine mp_sld hx hb hX hK hI (vp_in_nI (show (i + 1) < L by omega) (by omega)) d_L_law_650 ?_
        refine lv_topi (fun v80 ev80 => ?_)
        obtain rfl : v80 = xs (i + 1) := ev80.trans (by rw [nI_clamp (by omega)])
        refine lv_topi (fun v81 ev81 => ?_)
        obtain rfl : v81 = nI k9 := ev81.trans (hxk)
        refine lv_aload_n hx hb d_L_law_651 rfl (lv_at hl 5 rfl) ?_
        refine lv_iload hx hb d_L_law_652 (lv_at hl 1 rfl) ?_
        refine lv_iconst (v := nI 2) hx hb d_L_law_654 (by decide) ?_
        refine lv_iadd hx hb d_L_law_655 ?_
        refine lv_topi (fun v82 ev82 => ?_)
        obtain rfl : v82 = nI (i + 2) := ev82.trans (nI_add _ _)
        refine mp_sld hx hb hX hK hI (vp_in_nI (show (i + 2) < L by omega) (by omega)) d_L_law_656 ?_
        refine lv_topi (fun v83 ev83 => ?_)
        obtain rfl : v83 = xs (i + 2) := ev83.trans (by rw [nI_clamp (by omega)])
        refine lv_topi (fun v84 ev84 => ?_)
        obtain rfl : v84 = nI e8 := ev84.trans (hxe)
        refine mp_calli hI (va_runV (As := [.int (nI k9), .int (nI e8)]) (rest := []) ⟨hx, hb, hml, hown, hg⟩ (c_M_minK l D g S75 _ mo (ad 2001) (ad 2008) (ad 2010) (ad 2011) (ad 2014) (ad 2015) nl s9 zc (.int (nI gv)) (.int (nI tk)) (.int (nI n)) (.ref (ad 2002)) (.ref (ad 2003)) (.ref (ad 2004)) (.ref (ad 2005)) (.ref (ad 2006)) (.ref (ad 2007)) (.int ak) (.ref (ad 2009)) (.ref (ad 2012)) (.ref (ad 2013)) (.ref (ad 2016)) (.ref (ad 2017)) (.ref (ad 2018)) (.ref (ad 2019)) (.ref (ad 2020)) (.ref (ad 2021)) (.ref (ad 2022)) PO LF DG LE ZM OF th k9 e8 h_mo h_mp h_le h_dg h_lt h_ze h_oq hnl hs hzc hk9 he8 hD1) ⟨(callB_of 2 hg (wd_goodG q_1094) rfl rfl rfl (hg _ q_5) (hg _ q_1091) (by decide +kernel) ⟨Nat.le_of_ble_eq_true rfl, Nat.le_of_ble_eq_true rfl⟩), hg _ q_1092, hg _ q_1093⟩ (mp_preV (C := R_M) (T := F_M) hI hK h_mo rfl [.int (nI k9), .int (nI e8)]) rfl rfl hl.1 rfl (lv_room (Nat.le_of_ble_eq_true rfl)) d_L_law_657 ⟨by omega, by omega⟩) (fun r88 S85 H86 locs p_87 hI => ?_)
        obtain ⟨er88, q_mo, fr⟩ := p_87
        have h_o : S85 o = some (0, .inr (0, [.int (nI nl), .ref pa, .ref lo, .ref fa0, .int (nI gv), .int (nI tk), .int fq, .int 1, .int (nI zc), .ref Av.vo])) := fr o _ _ h_o (by omega)
        have h_pa : S85 pa = some (1, .inl ((g 2), 40, .inr (.inr (.inr (.inr (rfs eo 40)))))) := fr pa _ _ h_pa (by omega)
        have h_fa0 : S85 fa0 = some (3, .inl ((g 0), 3, .inl ff)) := fr fa0 _ _ h_fa0 (by omega)
        have h_oa : S85 oa = some (9, .inl ((g 4), 1, .inr (.inl f1))) := fr oa _ _ h_oa (by omega)
        have h_mp : S85 (ad 2001) = some (2001, .inl ((g 0), 40000, .inl (fun j => nI (PO j).val))) := fr (ad 2001) _ _ h_mp (by omega)
        have h_le : S85 (ad 2008) = some (2008, .inl ((g 0), 17, .inl (fun j => nI (LF j)))) := fr (ad 2008) _ _ h_le (by omega)
        have h_dg : S85 (ad 2010) = some (2010, .inl ((g 0), 3, .inl (fun j => nI (DG j)))) := fr (ad 2010) _ _ h_dg (by omega)
        have h_lt : S85 (ad 2011) = some (2011, .inl ((g 0), 51, .inl (fun j => nI (LE j).val))) := fr (ad 2011) _ _ h_lt (by omega)
        have h_ze : S85 (ad 2014) = some (2014, .inl ((g 0), 51, .inl (fun j => nI (ZM j).val))) := fr (ad 2014) _ _ h_ze (by omega)
        have h_oq : S85 (ad 2015) = some (2015, .inl ((g 0), 17, .inl (fun j => nI (OF j)))) := fr (ad 2015) _ _ h_oq (by omega)
        have h_fv : S85 (ad 2016) = some (2016, .inl ((g 5), 3, .inl FV)) := fr (ad 2016) _ _ h_fv (by omega)
        have hP := gPs_kept hP (S1 := S85) (fun b t9 e9 hb9 h1 h2 => by have h8 : S85 b = some (t9, e9) := fr b _ _ hb9 (by omega); rw [h8, hb9])
        have hL := gLs_kept hL (S1 := S85) (fun b t9 e9 hb9 h1 h2 => by have h8 : S85 b = some (t9, e9) := fr b _ _ hb9 (by omega); rw [h8, hb9])
        have hM := gMs_kept hM (S1 := S85) (fun b t9 e9 hb9 h1 h2 => by have h8 : S85 b = some (t9, e9) := fr b _ _ hb9 (by omega); rw [h8, hb9])
        have hWk := gWs_kept hWk (S1 := S85) (fun b t9 e9 hb9 h1 h2 => by have h8 : S85 b = some (t9, e9) := fr b _ _ hb9 (by omega); rw [h8, hb9])
        have hVg := vG_kept hVg (S1 := S85) (fun b t9 e9 hb9 h1 h2 => by have h8 : S85 b = some (t9, e9) := fr b _ _ hb9 (by omega); rw [h8, hb9])
        have h_mo := q_mo
        refine lv_istore (lv' := [(6, .int r88), (5, .int (nI 0)), (4, .int (nI i)), (3, .ref oa), (2, .ref mo), (1, .ref o), (0, .ref b)]) hx hb d_L_law_660 hl (by decide) rfl (fun ls hl => ?_)
        refine lv_aload_n hx hb d_L_law_662 rfl (lv_at hl 4 rfl) ?_
        refine mp_calli hI (va_runV (As := []) (rest := []) ⟨hx, hb, hml, hown, hg⟩ (c_M_thrown l D g S85 _ mo (.int (nI nl)) (.int (nI gv)) (.int (nI tk)) (.ref (ad 2001)) (.int (nI n)) (.ref (ad 2002)) (.ref (ad 2003)) (.ref (ad 2004)) (.ref (ad 2005)) (.ref (ad 2006)) (.ref (ad 2007)) (.int (nI 1)) (.int ak) (.int (nI s9)) (.ref (ad 2008)) (.ref (ad 2009)) (.ref (ad 2010)) (.ref (ad 2011)) (.ref (ad 2012)) (.ref (ad 2013)) (.int (nI zc)) (.ref (ad 2014)) (.ref (ad 2015)) (.ref (ad 2016)) (.ref (ad 2017)) (.ref (ad 2018)) (.ref (ad 2019)) (.ref (ad 2020)) (.ref (ad 2021)) (.ref (ad 2022)) (nI 0) h_mo) ⟨(callB_of 0 hg (wd_goodG q_902) rfl rfl rfl (hg _ q_5) (hg _ q_899) (by decide +kernel) ⟨Nat.le_of_ble_eq_true rfl, Nat.le_of_ble_eq_true rfl⟩), hg _ q_900, hg _ q_901⟩ (mp_preV (C := R_M) (T := F_M) hI hK h_mo rfl []) rfl rfl hl.1 rfl (lv_room (Nat.le_of_ble_eq_true rfl)) d_L_law_663 ⟨by omega, by omega⟩) (fun r92 S89 H90 locs p_91 hI => ?_)
        obtain ⟨er92, eS93⟩ := p_91
        rw [eS93] at hI
        have er92 : r92 = nI 0 := er92
        subst er92
        refine lv_iload hx hb d_L_law_666 (lv_at hl 1 rfl) ?_
        refine lv_icmp_eq (tgt := 673) hx hb d_L_law_668 (by decide) (fun _ => ?_) (fun h9 => absurd (rfl) h9)
        refine lv_iload hx hb d_L_law_673 (lv_at hl 1 rfl) ?_
        refine lv_if_ne (tgt := 690) hx hb d_L_law_675 (by decide) (fun h9 => absurd h9 (by decide)) (fun _ => ?_)
        refine lv_aload_n hx hb d_L_law_678 rfl (lv_at hl 3 rfl) ?_
        refine lv_iconst (v := nI 0) hx hb d_L_law_679 (by decide) ?_
        refine mp_lald hx hb hK.va hI 4 h_oa rfl (vp_in_nI (by decide) (by decide)) d_L_law_680 ?_
        refine lv_topl (fun v94 ev94 => ?_)
        obtain rfl : v94 = (nI (Tv.CL k9 e8).val).toInt64 := ev94.trans (hf1)
        refine lv_iload hx hb d_L_law_681 (lv_at hl 0 rfl) ?_
        refine lv_i2l (v := (r88).toInt64) hx hb d_L_law_683 rfl ?_
        refine W.lcmp hx hb d_L_law_684 ?_
        refine lv_if_eq (tgt := 690) hx hb d_L_law_685 (by decide) (fun _ => ?_) (fun h9 => absurd (lg_same (congrArg Int32.toInt64 (show nI (Tv.CL k9 e8).val = r88 by rw [er88]; rw [hD3 e8 he8]))) h9)
        refine lv_goto (tgt := 822) hx hb d_L_law_690 (by decide) ?_
        refine W.widen (k := cells + 189) (n := slots + 11130) (by omega) (by omega) ?_
        exact kx S85 _ _ ls ⟨(pa), (lo), (fa0), (ma), (hd), (eo), (me), (ad), (cf), (gv), (tk), (n), (fq), (1), (nI zc), (.ref Av.vo), (ff), (hq), (zq), (mq), (cq), (nI 0), (nI 1), (ak), (nI s9), (nI zc), (PO), (LF), (DG), (LE), (ZM), (OF), (FV), (f1), h_o, h_pa, h_fa0, h_oa, h_mo, h_mp, h_le, h_dg, h_lt, h_ze, h_oq, h_fv, hP, hL, hM, hWk, (Or.inr ⟨rfl, hroM, Av, Tv, rfl, hVg, hroB⟩), hgv, htk, hnt, hR, hI9, hIn, hF9⟩ hI (lv_sub hl [2, 3, 4, 5, 6] rfl)
set_option maxHeartbeats 8000000 in
set_option maxRecDepth 100000 in
/-- value -/
theorem lk_value {p : Program} {l : Launch} {e : Env} {s : State} {m : MethodId} {below : List Frame} {meth : Method} {c : Code} {Q : State → Prop} {D : mp_G} {g : Nat → ClassId} {A : Nat → Prop} {b L i : Nat} {xs : Nat → Int32} {cells slots : Nat} {S : mp_M} {H : Heap} {locs : List Loc} {ls : Array Slot} (hx : p.tables.exec = Jvm.exec) (hb : c.code = b_L_law) (hml : c.maxLocals = 7) (hts : ∀ w ∈ lw_tbl, w.before #[Value.ref b] s = true) (hg : ∀ w ∈ gw, w.before #[Value.ref b] s = true) (hown : s.vm.findClass R_L = some m.cls) (hK : mp_K D classes (tys g) s) (hX : va_X b L xs D.2.1 D.2.1.heap) (hL9 : L ≤ 3585) (hi : i + 6 < L) (hc : cells + 189 ≤ room_1.cells) (hs9 : slots + 11130 ≤ room_1.slots) (hl9 : l.stackTraces = false) {nl oa mo o : Nat} (hnl : nl ≤ 3) (hn1 : 1 ≤ nl) (hV : lawI g nl o mo oa S) (hI : mp_I D classes A s.heap S H locs) (hl : lv_has ls 7 [(4, .int (nI i)), (3, .ref oa), (2, .ref mo), (1, .ref o), (0, .ref b)]) (kx : ∀ (S : mp_M) (H : Heap) (locs : List Loc) (ls : Array Slot), lawI g nl o mo oa S → mp_I D classes A s.heap S H locs → lv_has ls 7 [(4, .int (nI i)), (3, .ref oa), (2, .ref mo), (1, .ref o), (0, .ref b)] → W p l e room_1 s m #[Value.ref b] below meth c H locs (cells + 189) (slots + 11130) Q (F0 m 822 ls [])) : W p l e room_1 s m #[Value.ref b] below meth c H locs (cells) (slots) Q (F0 m 693 ls []) := by
  have hc : cells + 189 ≤ 164015 := hc
  have hs9 : slots + 11130 ≤ 8604026 := hs9
  obtain ⟨pa, lo, fa0, ma, hd, eo, me, ad, cf, gv, tk, n, fq, an, av, sv, ff, hq, zq, mq, cq, th, kn, ak, s0, z0, PO, LF, DG, LE, ZM, OF, FV, of, h_o, h_pa, h_fa0, h_oa, h_mo, h_mp, h_le, h_dg, h_lt, h_ze, h_oq, h_fv, hP, hL, hM, hWk, hA, hgv, htk, hnt, hR, hI9, hIn, hF9⟩ := hV
  rcases an_kn hA with ⟨hkn, hun⟩ | ⟨hkn, han, hroM, Av, Tv, hsve, hVg, hroB⟩
  · obtain ⟨so, hso⟩ := an_opt (an_sv hA)
    subst hso
    subst hkn
    refine lv_aload_n hx hb d_L_law_693 rfl (lv_at hl 3 rfl) ?_
    refine lv_aload_n hx hb d_L_law_694 rfl (lv_at hl 4 rfl) ?_
    refine lv_iload hx hb d_L_law_695 (lv_at hl 0 rfl) ?_
    refine lv_iconst (v := nI 1) hx hb d_L_law_697 (by decide) ?_
    refine lv_iadd hx hb d_L_law_698 ?_
    refine lv_topi (fun v1 ev1 => ?_)
    obtain rfl : v1 = nI (i + 1) := ev1.trans (nI_add _ _)
    refine mp_sld hx hb hX hK hI (vp_in_nI (show (i + 1) < L by omega) (by omega)) d_L_law_699 ?_
    refine lv_topi (fun v2 ev2 => ?_)
    obtain rfl : v2 = xs (i + 1) := ev2.trans (by rw [nI_clamp (by omega)])
    refine lv_aload_n hx hb d_L_law_700 rfl (lv_at hl 4 rfl) ?_
    refine lv_iload hx hb d_L_law_701 (lv_at hl 0 rfl) ?_
    refine lv_iconst (v := nI 2) hx hb d_L_law_703 (by decide) ?_
    refine lv_iadd hx hb d_L_law_704 ?_
    refine lv_topi (fun v3 ev3 => ?_)
    obtain rfl : v3 = nI (i + 2) := ev3.trans (nI_add _ _)
    refine mp_sld hx hb hX hK hI (vp_in_nI (show (i + 2) < L by omega) (by omega)) d_L_law_705 ?_
    refine lv_topi (fun v4 ev4 => ?_)
    obtain rfl : v4 = xs (i + 2) := ev4.trans (by rw [nI_clamp (by omega)])
    refine lv_aload_n hx hb d_L_law_706 rfl (lv_at hl 1 rfl) ?_
    refine mp_calli hI (lw_runS (As := [.ref o, .int (xs (i + 1)), .int (xs (i + 2)), .ref oa]) (rest := []) ⟨hx, hb, hml, hown, hg⟩ (c_L_valueU l D g S _ o pa (.int (nI nl)) (.ref lo) (.ref fa0) (.int (nI gv)) (.int (nI tk)) (.int fq) an av so (xs (i + 1)) (xs (i + 2)) oa of h_o h_oa hl9 (hun.elim (fun q => Or.inl q) (fun q => Or.inr (Or.inl q)))) ⟨callBW_of 4 hg (hts _ q_790) rfl rfl (hg _ q_0) (hg _ q_788) (by decide +kernel) ⟨Nat.le_of_ble_eq_true rfl, Nat.le_of_ble_eq_true rfl⟩, hg _ q_789⟩ (mp_pre hI hK [.ref o, .int (xs (i + 1)), .int (xs (i + 2)), .ref oa]) rfl rfl hl.1 rfl (lv_room (Nat.le_of_ble_eq_true rfl)) d_L_law_707 ⟨by omega, by omega⟩) (fun r8 S5 H6 locs p_7 hI => ?_)
    obtain ⟨er8, eS9⟩ := p_7
    rw [eS9] at hI
    have er8 : r8 = nI 1 := er8
    subst er8
    refine lv_istore (lv' := [(5, .int (nI 1)), (4, .int (nI i)), (3, .ref oa), (2, .ref mo), (1, .ref o), (0, .ref b)]) hx hb d_L_law_710 hl (by decide) rfl (fun ls hl => ?_)
    refine lv_aload_n hx hb d_L_law_712 rfl (lv_at hl 3 rfl) ?_
    refine lv_aload_n hx hb d_L_law_713 rfl (lv_at hl 5 rfl) ?_
    refine lv_iload hx hb d_L_law_714 (lv_at hl 1 rfl) ?_
    refine lv_iconst (v := nI 1) hx hb d_L_law_716 (by decide) ?_
    refine lv_iadd hx hb d_L_law_717 ?_
    refine lv_topi (fun v10 ev10 => ?_)
    obtain rfl : v10 = nI (i + 1) := ev10.trans (nI_add _ _)
    refine mp_sld hx hb hX hK hI (vp_in_nI (show (i + 1) < L by omega) (by omega)) d_L_law_718 ?_
    refine lv_topi (fun v11 ev11 => ?_)
    obtain rfl : v11 = xs (i + 1) := ev11.trans (by rw [nI_clamp (by omega)])
    refine lv_aload_n hx hb d_L_law_719 rfl (lv_at hl 5 rfl) ?_
    refine lv_iload hx hb d_L_law_720 (lv_at hl 1 rfl) ?_
    refine lv_iconst (v := nI 2) hx hb d_L_law_722 (by decide) ?_
    refine lv_iadd hx hb d_L_law_723 ?_
    refine lv_topi (fun v12 ev12 => ?_)
    obtain rfl : v12 = nI (i + 2) := ev12.trans (nI_add _ _)
    refine mp_sld hx hb hX hK hI (vp_in_nI (show (i + 2) < L by omega) (by omega)) d_L_law_724 ?_
    refine lv_topi (fun v13 ev13 => ?_)
    obtain rfl : v13 = xs (i + 2) := ev13.trans (by rw [nI_clamp (by omega)])
    refine mp_calli hI (va_runV (As := [.int (xs (i + 1)), .int (xs (i + 2))]) (rest := []) ⟨hx, hb, hml, hown, hg⟩ (c_M_valueU l D g S _ mo (.int (nI nl)) (.int (nI gv)) (.int (nI tk)) (.ref (ad 2001)) (.int (nI n)) (.ref (ad 2002)) (.ref (ad 2003)) (.ref (ad 2004)) (.ref (ad 2005)) (.ref (ad 2006)) (.ref (ad 2007)) (.int ak) (.int s0) (.ref (ad 2008)) (.ref (ad 2009)) (.ref (ad 2010)) (.ref (ad 2011)) (.ref (ad 2012)) (.ref (ad 2013)) (.int z0) (.ref (ad 2014)) (.ref (ad 2015)) (.ref (ad 2016)) (.ref (ad 2017)) (.ref (ad 2018)) (.ref (ad 2019)) (.ref (ad 2020)) (.ref (ad 2021)) (.ref (ad 2022)) th (xs (i + 1)) (xs (i + 2)) h_mo) ⟨(callB_of 2 hg (wd_goodG q_1098) rfl rfl rfl (hg _ q_5) (hg _ q_1095) (by decide +kernel) ⟨Nat.le_of_ble_eq_true rfl, Nat.le_of_ble_eq_true rfl⟩), hg _ q_1096, hg _ q_1097⟩ (mp_preV (C := R_M) (T := F_M) hI hK h_mo rfl [.int (xs (i + 1)), .int (xs (i + 2))]) rfl rfl hl.1 rfl (lv_room (Nat.le_of_ble_eq_true rfl)) d_L_law_725 ⟨by omega, by omega⟩) (fun r17 S14 H15 locs p_16 hI => ?_)
    obtain ⟨q_mo, fr⟩ := p_16
    have h_o : S14 o = some (0, .inr (0, [.int (nI nl), .ref pa, .ref lo, .ref fa0, .int (nI gv), .int (nI tk), .int fq, .int an, .int av, (va_rf so)])) := (fr o (mp_in h_o) (mp_ne h_o h_mo (by omega))).trans h_o
    have h_pa : S14 pa = some (1, .inl ((g 2), 40, .inr (.inr (.inr (.inr (rfs eo 40)))))) := (fr pa (mp_in h_pa) (mp_ne h_pa h_mo (by omega))).trans h_pa
    have h_fa0 : S14 fa0 = some (3, .inl ((g 0), 3, .inl ff)) := (fr fa0 (mp_in h_fa0) (mp_ne h_fa0 h_mo (by omega))).trans h_fa0
    have h_oa : S14 oa = some (9, .inl ((g 4), 1, .inr (.inl of))) := (fr oa (mp_in h_oa) (mp_ne h_oa h_mo (by omega))).trans h_oa
    have h_mp : S14 (ad 2001) = some (2001, .inl ((g 0), 40000, .inl (fun j => nI (PO j).val))) := (fr (ad 2001) (mp_in h_mp) (mp_ne h_mp h_mo (by omega))).trans h_mp
    have h_le : S14 (ad 2008) = some (2008, .inl ((g 0), 17, .inl (fun j => nI (LF j)))) := (fr (ad 2008) (mp_in h_le) (mp_ne h_le h_mo (by omega))).trans h_le
    have h_dg : S14 (ad 2010) = some (2010, .inl ((g 0), 3, .inl (fun j => nI (DG j)))) := (fr (ad 2010) (mp_in h_dg) (mp_ne h_dg h_mo (by omega))).trans h_dg
    have h_lt : S14 (ad 2011) = some (2011, .inl ((g 0), 51, .inl (fun j => nI (LE j).val))) := (fr (ad 2011) (mp_in h_lt) (mp_ne h_lt h_mo (by omega))).trans h_lt
    have h_ze : S14 (ad 2014) = some (2014, .inl ((g 0), 51, .inl (fun j => nI (ZM j).val))) := (fr (ad 2014) (mp_in h_ze) (mp_ne h_ze h_mo (by omega))).trans h_ze
    have h_oq : S14 (ad 2015) = some (2015, .inl ((g 0), 17, .inl (fun j => nI (OF j)))) := (fr (ad 2015) (mp_in h_oq) (mp_ne h_oq h_mo (by omega))).trans h_oq
    have h_fv : S14 (ad 2016) = some (2016, .inl ((g 5), 3, .inl FV)) := (fr (ad 2016) (mp_in h_fv) (mp_ne h_fv h_mo (by omega))).trans h_fv
    have hP := gPs_kept hP (S1 := S14) (fun b t9 e9 hb9 h1 h2 => by have h8 : S14 b = some (t9, e9) := (fr b (mp_in hb9) (mp_ne hb9 h_mo (by omega))).trans hb9; rw [h8, hb9])
    have hL := gLs_kept hL (S1 := S14) (fun b t9 e9 hb9 h1 h2 => by have h8 : S14 b = some (t9, e9) := (fr b (mp_in hb9) (mp_ne hb9 h_mo (by omega))).trans hb9; rw [h8, hb9])
    have hM := gMs_kept hM (S1 := S14) (fun b t9 e9 hb9 h1 h2 => by have h8 : S14 b = some (t9, e9) := (fr b (mp_in hb9) (mp_ne hb9 h_mo (by omega))).trans hb9; rw [h8, hb9])
    have hWk := gWs_kept hWk (S1 := S14) (fun b t9 e9 hb9 h1 h2 => by have h8 : S14 b = some (t9, e9) := (fr b (mp_in hb9) (mp_ne hb9 h_mo (by omega))).trans hb9; rw [h8, hb9])
    have hA := anP_kept hA (S1 := S14) (fun b t9 e9 hb9 h1 h2 => by have h8 : S14 b = some (t9, e9) := (fr b (mp_in hb9) (mp_ne hb9 h_mo (by omega))).trans hb9; rw [h8, hb9])
    have h_mo := q_mo
    refine lv_istore (lv' := [(6, .int r17), (5, .int (nI 1)), (4, .int (nI i)), (3, .ref oa), (2, .ref mo), (1, .ref o), (0, .ref b)]) hx hb d_L_law_728 hl (by decide) rfl (fun ls hl => ?_)
    refine lv_aload_n hx hb d_L_law_730 rfl (lv_at hl 4 rfl) ?_
    refine mp_calli hI (va_runV (As := []) (rest := []) ⟨hx, hb, hml, hown, hg⟩ (c_M_thrown l D g S14 _ mo (.int (nI nl)) (.int (nI gv)) (.int (nI tk)) (.ref (ad 2001)) (.int (nI n)) (.ref (ad 2002)) (.ref (ad 2003)) (.ref (ad 2004)) (.ref (ad 2005)) (.ref (ad 2006)) (.ref (ad 2007)) (.int (nI 0)) (.int ak) (.int s0) (.ref (ad 2008)) (.ref (ad 2009)) (.ref (ad 2010)) (.ref (ad 2011)) (.ref (ad 2012)) (.ref (ad 2013)) (.int z0) (.ref (ad 2014)) (.ref (ad 2015)) (.ref (ad 2016)) (.ref (ad 2017)) (.ref (ad 2018)) (.ref (ad 2019)) (.ref (ad 2020)) (.ref (ad 2021)) (.ref (ad 2022)) (nI 1) h_mo) ⟨(callB_of 0 hg (wd_goodG q_902) rfl rfl rfl (hg _ q_5) (hg _ q_899) (by decide +kernel) ⟨Nat.le_of_ble_eq_true rfl, Nat.le_of_ble_eq_true rfl⟩), hg _ q_900, hg _ q_901⟩ (mp_preV (C := R_M) (T := F_M) hI hK h_mo rfl []) rfl rfl hl.1 rfl (lv_room (Nat.le_of_ble_eq_true rfl)) d_L_law_731 ⟨by omega, by omega⟩) (fun r21 S18 H19 locs p_20 hI => ?_)
    obtain ⟨er21, eS22⟩ := p_20
    rw [eS22] at hI
    have er21 : r21 = nI 1 := er21
    subst er21
    refine lv_iload hx hb d_L_law_734 (lv_at hl 1 rfl) ?_
    refine lv_icmp_eq (tgt := 741) hx hb d_L_law_736 (by decide) (fun _ => ?_) (fun h9 => absurd (rfl) h9)
    refine lv_iload hx hb d_L_law_741 (lv_at hl 1 rfl) ?_
    refine lv_if_ne (tgt := 758) hx hb d_L_law_743 (by decide) (fun _ => ?_) (fun h9 => absurd h9 (by decide))
    refine lv_goto (tgt := 822) hx hb d_L_law_758 (by decide) ?_
    refine W.widen (k := cells + 189) (n := slots + 11130) (by omega) (by omega) ?_
    exact kx S14 _ _ ls ⟨(pa), (lo), (fa0), (ma), (hd), (eo), (me), (ad), (cf), (gv), (tk), (n), (fq), (an), (av), ((va_rf so)), (ff), (hq), (zq), (mq), (cq), (nI 1), (nI 0), (ak), (s0), (z0), (PO), (LF), (DG), (LE), (ZM), (OF), (FV), (of), h_o, h_pa, h_fa0, h_oa, h_mo, h_mp, h_le, h_dg, h_lt, h_ze, h_oq, h_fv, hP, hL, hM, hWk, hA, hgv, htk, hnt, hR, hI9, hIn, hF9⟩ hI (lv_sub hl [2, 3, 4, 5, 6] rfl)
  · obtain ⟨mkq, mnq, mcapq, mzq, mkfq, mnfq, hfq, l_lo, l_ma, l_hd, l_Y, l_mc, l_B⟩ := id hL
    subst hkn
    subst han
    subst hsve
    obtain ⟨s9, zc, lf, hs, hzc, hav, hs0, hz0, hs1, hz1, kw1, kw2, kw3, kw4⟩ := ro_kw l_B.1 hIn hnl hn1 (lsB_e9 l_B) hroB hroM
    subst hav
    subst hs0
    subst hz0
    obtain ⟨v_vo, v_d9, v_ra, v_ka, v_qo, v_ky, v_pr, v_lw, v_ll, v_mu, v_fa, v_nx, v_re, v_so1, v_rq1, v_rp1, v_so2, v_rq2, v_rp2, v_zo, v_fs, v_lz, v_rr, v_rc, v_za, v_mu9, v_po, v_pn, v_pp, v_on, v_na, v_ot, v_ta, vP, vMU, vR1, vR2, vE, vLo, vRR, vZ, vW, vhone, vtPT, vtMU, vtFa, vtNx, vtRe, vtρ1, vtρ2, vtcn, vtct, vtCF, vtCL, vhFL⟩ := id hVg
    rw [hz1] at v_vo
    rw [hs1] at v_qo
    rcases i32_40 (xs (i + 1)) with hx9 | ⟨k9, hk9, hxk⟩
    · refine lv_aload_n hx hb d_L_law_693 rfl (lv_at hl 3 rfl) ?_
      refine lv_aload_n hx hb d_L_law_694 rfl (lv_at hl 4 rfl) ?_
      refine lv_iload hx hb d_L_law_695 (lv_at hl 0 rfl) ?_
      refine lv_iconst (v := nI 1) hx hb d_L_law_697 (by decide) ?_
      refine lv_iadd hx hb d_L_law_698 ?_
      refine lv_topi (fun v23 ev23 => ?_)
      obtain rfl : v23 = nI (i + 1) := ev23.trans (nI_add _ _)
      refine mp_sld hx hb hX hK hI (vp_in_nI (show (i + 1) < L by omega) (by omega)) d_L_law_699 ?_
      refine lv_topi (fun v24 ev24 => ?_)
      obtain rfl : v24 = xs (i + 1) := ev24.trans (by rw [nI_clamp (by omega)])
      refine lv_aload_n hx hb d_L_law_700 rfl (lv_at hl 4 rfl) ?_
      refine lv_iload hx hb d_L_law_701 (lv_at hl 0 rfl) ?_
      refine lv_iconst (v := nI 2) hx hb d_L_law_703 (by decide) ?_
      refine lv_iadd hx hb d_L_law_704 ?_
      refine lv_topi (fun v25 ev25 => ?_)
      obtain rfl : v25 = nI (i + 2) := ev25.trans (nI_add _ _)
      refine mp_sld hx hb hX hK hI (vp_in_nI (show (i + 2) < L by omega) (by omega)) d_L_law_705 ?_
      refine lv_topi (fun v26 ev26 => ?_)
      obtain rfl : v26 = xs (i + 2) := ev26.trans (by rw [nI_clamp (by omega)])
      refine lv_aload_n hx hb d_L_law_706 rfl (lv_at hl 1 rfl) ?_
      refine mp_calli hI (lw_runS (As := [.ref o, .int (xs (i + 1)), .int (xs (i + 2)), .ref oa]) (rest := []) ⟨hx, hb, hml, hown, hg⟩ (c_L_valP l D g S _ o pa Av.vo Av.qo Av.ky Av.lz Av.za Av.mu9 Av.po nl s9 zc (.ref lo) (.ref fa0) (.int (nI gv)) (.int (nI tk)) (.int fq) (.int (nI nl)) (.ref Av.d9) (.ref Av.zo) (.ref Av.rr) (.ref Av.rc) (.int (nI nl)) (.ref Av.pr) (.ref Av.lw) (.ref Av.ll) (.ref Av.mu) (.ref Av.fa) (.ref Av.nx) (.ref Av.re) (.ref Av.so1) (.ref Av.so2) eo Av.le Av.la Tv.kQ Tv.MQ Tv.dl Tv.CL Tv.ZZ oa of (xs (i + 1)) (xs (i + 2)) h_o h_pa v_vo v_qo v_ky v_lz v_za v_mu9 h_oa hl9 vLo vZ hnl hs hzc hx9) ⟨callBW_of 4 hg (hts _ q_790) rfl rfl (hg _ q_0) (hg _ q_788) (by decide +kernel) ⟨Nat.le_of_ble_eq_true rfl, Nat.le_of_ble_eq_true rfl⟩, hg _ q_789⟩ (mp_pre hI hK [.ref o, .int (xs (i + 1)), .int (xs (i + 2)), .ref oa]) rfl rfl hl.1 rfl (lv_room (Nat.le_of_ble_eq_true rfl)) d_L_law_707 ⟨by omega, by omega⟩) (fun r30 S27 H28 locs p_29 hI => ?_)
      obtain ⟨er30, eS31⟩ := p_29
      rw [eS31] at hI
      have er30 : r30 = nI 2 := er30
      subst er30
      refine lv_istore (lv' := [(5, .int (nI 2)), (4, .int (nI i)), (3, .ref oa), (2, .ref mo), (1, .ref o), (0, .ref b)]) hx hb d_L_law_710 hl (by decide) rfl (fun ls hl => ?_)
      refine lv_aload_n hx hb d_L_law_712 rfl (lv_at hl 3 rfl) ?_
      refine lv_aload_n hx hb d_L_law_713 rfl (lv_at hl 5 rfl) ?_
      refine lv_iload hx hb d_L_law_714 (lv_at hl 1 rfl) ?_
      refine lv_iconst (v := nI 1) hx hb d_L_law_716 (by decide) ?_
      refine lv_iadd hx hb d_L_law_717 ?_
      refine lv_topi (fun v32 ev32 => ?_)
      obtain rfl : v32 = nI (i + 1) := ev32.trans (nI_add _ _)
      refine mp_sld hx hb hX hK hI (vp_in_nI (show (i + 1) < L by omega) (by omega)) d_L_law_718 ?_
      refine lv_topi (fun v33 ev33 => ?_)
      obtain rfl : v33 = xs (i + 1) := ev33.trans (by rw [nI_clamp (by omega)])
      refine lv_aload_n hx hb d_L_law_719 rfl (lv_at hl 5 rfl) ?_
      refine lv_iload hx hb d_L_law_720 (lv_at hl 1 rfl) ?_
      refine lv_iconst (v := nI 2) hx hb d_L_law_722 (by decide) ?_
      refine lv_iadd hx hb d_L_law_723 ?_
      refine lv_topi (fun v34 ev34 => ?_)
      obtain rfl : v34 = nI (i + 2) := ev34.trans (nI_add _ _)
      refine mp_sld hx hb hX hK hI (vp_in_nI (show (i + 2) < L by omega) (by omega)) d_L_law_724 ?_
      refine lv_topi (fun v35 ev35 => ?_)
      obtain rfl : v35 = xs (i + 2) := ev35.trans (by rw [nI_clamp (by omega)])
      refine mp_calli hI (va_runV (As := [.int (xs (i + 1)), .int (xs (i + 2))]) (rest := []) ⟨hx, hb, hml, hown, hg⟩ (c_M_valP l D g S _ mo (ad 2001) (ad 2008) (ad 2010) (ad 2011) (ad 2014) (ad 2015) nl s9 zc (.int (nI gv)) (.int (nI tk)) (.int (nI n)) (.ref (ad 2002)) (.ref (ad 2003)) (.ref (ad 2004)) (.ref (ad 2005)) (.ref (ad 2006)) (.ref (ad 2007)) (.int ak) (.ref (ad 2009)) (.ref (ad 2012)) (.ref (ad 2013)) (.ref (ad 2016)) (.ref (ad 2017)) (.ref (ad 2018)) (.ref (ad 2019)) (.ref (ad 2020)) (.ref (ad 2021)) (.ref (ad 2022)) PO LF DG LE ZM OF th (xs (i + 1)) (xs (i + 2)) h_mo h_mp h_le h_dg h_lt h_ze h_oq hnl hs hzc hx9) ⟨(callB_of 2 hg (wd_goodG q_1098) rfl rfl rfl (hg _ q_5) (hg _ q_1095) (by decide +kernel) ⟨Nat.le_of_ble_eq_true rfl, Nat.le_of_ble_eq_true rfl⟩), hg _ q_1096, hg _ q_1097⟩ (mp_preV (C := R_M) (T := F_M) hI hK h_mo rfl [.int (xs (i + 1)), .int (xs (i + 2))]) rfl rfl hl.1 rfl (lv_room (Nat.le_of_ble_eq_true rfl)) d_L_law_725 ⟨by omega, by omega⟩) (fun r39 S36 H37 locs p_38 hI => ?_)
      obtain ⟨_, q_mo, fr⟩ := p_38
      have h_o : S36 o = some (0, .inr (0, [.int (nI nl), .ref pa, .ref lo, .ref fa0, .int (nI gv), .int (nI tk), .int fq, .int 1, .int (nI zc), .ref Av.vo])) := fr o _ _ h_o (by omega)
      have h_pa : S36 pa = some (1, .inl ((g 2), 40, .inr (.inr (.inr (.inr (rfs eo 40)))))) := fr pa _ _ h_pa (by omega)
      have h_fa0 : S36 fa0 = some (3, .inl ((g 0), 3, .inl ff)) := fr fa0 _ _ h_fa0 (by omega)
      have h_oa : S36 oa = some (9, .inl ((g 4), 1, .inr (.inl of))) := fr oa _ _ h_oa (by omega)
      have h_mp : S36 (ad 2001) = some (2001, .inl ((g 0), 40000, .inl (fun j => nI (PO j).val))) := fr (ad 2001) _ _ h_mp (by omega)
      have h_le : S36 (ad 2008) = some (2008, .inl ((g 0), 17, .inl (fun j => nI (LF j)))) := fr (ad 2008) _ _ h_le (by omega)
      have h_dg : S36 (ad 2010) = some (2010, .inl ((g 0), 3, .inl (fun j => nI (DG j)))) := fr (ad 2010) _ _ h_dg (by omega)
      have h_lt : S36 (ad 2011) = some (2011, .inl ((g 0), 51, .inl (fun j => nI (LE j).val))) := fr (ad 2011) _ _ h_lt (by omega)
      have h_ze : S36 (ad 2014) = some (2014, .inl ((g 0), 51, .inl (fun j => nI (ZM j).val))) := fr (ad 2014) _ _ h_ze (by omega)
      have h_oq : S36 (ad 2015) = some (2015, .inl ((g 0), 17, .inl (fun j => nI (OF j)))) := fr (ad 2015) _ _ h_oq (by omega)
      have h_fv : S36 (ad 2016) = some (2016, .inl ((g 5), 3, .inl FV)) := fr (ad 2016) _ _ h_fv (by omega)
      have hP := gPs_kept hP (S1 := S36) (fun b t9 e9 hb9 h1 h2 => by have h8 : S36 b = some (t9, e9) := fr b _ _ hb9 (by omega); rw [h8, hb9])
      have hL := gLs_kept hL (S1 := S36) (fun b t9 e9 hb9 h1 h2 => by have h8 : S36 b = some (t9, e9) := fr b _ _ hb9 (by omega); rw [h8, hb9])
      have hM := gMs_kept hM (S1 := S36) (fun b t9 e9 hb9 h1 h2 => by have h8 : S36 b = some (t9, e9) := fr b _ _ hb9 (by omega); rw [h8, hb9])
      have hWk := gWs_kept hWk (S1 := S36) (fun b t9 e9 hb9 h1 h2 => by have h8 : S36 b = some (t9, e9) := fr b _ _ hb9 (by omega); rw [h8, hb9])
      have hVg := vG_kept hVg (S1 := S36) (fun b t9 e9 hb9 h1 h2 => by have h8 : S36 b = some (t9, e9) := fr b _ _ hb9 (by omega); rw [h8, hb9])
      have h_mo := q_mo
      refine lv_istore (lv' := [(6, .int r39), (5, .int (nI 2)), (4, .int (nI i)), (3, .ref oa), (2, .ref mo), (1, .ref o), (0, .ref b)]) hx hb d_L_law_728 hl (by decide) rfl (fun ls hl => ?_)
      refine lv_aload_n hx hb d_L_law_730 rfl (lv_at hl 4 rfl) ?_
      refine mp_calli hI (va_runV (As := []) (rest := []) ⟨hx, hb, hml, hown, hg⟩ (c_M_thrown l D g S36 _ mo (.int (nI nl)) (.int (nI gv)) (.int (nI tk)) (.ref (ad 2001)) (.int (nI n)) (.ref (ad 2002)) (.ref (ad 2003)) (.ref (ad 2004)) (.ref (ad 2005)) (.ref (ad 2006)) (.ref (ad 2007)) (.int (nI 1)) (.int ak) (.int (nI s9)) (.ref (ad 2008)) (.ref (ad 2009)) (.ref (ad 2010)) (.ref (ad 2011)) (.ref (ad 2012)) (.ref (ad 2013)) (.int (nI zc)) (.ref (ad 2014)) (.ref (ad 2015)) (.ref (ad 2016)) (.ref (ad 2017)) (.ref (ad 2018)) (.ref (ad 2019)) (.ref (ad 2020)) (.ref (ad 2021)) (.ref (ad 2022)) (nI 2) h_mo) ⟨(callB_of 0 hg (wd_goodG q_902) rfl rfl rfl (hg _ q_5) (hg _ q_899) (by decide +kernel) ⟨Nat.le_of_ble_eq_true rfl, Nat.le_of_ble_eq_true rfl⟩), hg _ q_900, hg _ q_901⟩ (mp_preV (C := R_M) (T := F_M) hI hK h_mo rfl []) rfl rfl hl.1 rfl (lv_room (Nat.le_of_ble_eq_true rfl)) d_L_law_731 ⟨by omega, by omega⟩) (fun r43 S40 H41 locs p_42 hI => ?_)
      obtain ⟨er43, eS44⟩ := p_42
      rw [eS44] at hI
      have er43 : r43 = nI 2 := er43
      subst er43
      refine lv_iload hx hb d_L_law_734 (lv_at hl 1 rfl) ?_
      refine lv_icmp_eq (tgt := 741) hx hb d_L_law_736 (by decide) (fun _ => ?_) (fun h9 => absurd (rfl) h9)
      refine lv_iload hx hb d_L_law_741 (lv_at hl 1 rfl) ?_
      refine lv_if_ne (tgt := 758) hx hb d_L_law_743 (by decide) (fun _ => ?_) (fun h9 => absurd h9 (by decide))
      refine lv_goto (tgt := 822) hx hb d_L_law_758 (by decide) ?_
      refine W.widen (k := cells + 189) (n := slots + 11130) (by omega) (by omega) ?_
      exact kx S36 _ _ ls ⟨(pa), (lo), (fa0), (ma), (hd), (eo), (me), (ad), (cf), (gv), (tk), (n), (fq), (1), (nI zc), (.ref Av.vo), (ff), (hq), (zq), (mq), (cq), (nI 2), (nI 1), (ak), (nI s9), (nI zc), (PO), (LF), (DG), (LE), (ZM), (OF), (FV), (of), h_o, h_pa, h_fa0, h_oa, h_mo, h_mp, h_le, h_dg, h_lt, h_ze, h_oq, h_fv, hP, hL, hM, hWk, (Or.inr ⟨rfl, hroM, Av, Tv, rfl, hVg, hroB⟩), hgv, htk, hnt, hR, hI9, hIn, hF9⟩ hI (lv_sub hl [2, 3, 4, 5, 6] rfl)
    · rcases i32_b (xs (i + 2)) (show zc < 2 ^ 31 by omega) with hx9 | ⟨z9, hz9, hxz⟩
      · refine lv_aload_n hx hb d_L_law_693 rfl (lv_at hl 3 rfl) ?_
        refine lv_aload_n hx hb d_L_law_694 rfl (lv_at hl 4 rfl) ?_
        refine lv_iload hx hb d_L_law_695 (lv_at hl 0 rfl) ?_
        refine lv_iconst (v := nI 1) hx hb d_L_law_697 (by decide) ?_
        refine lv_iadd hx hb d_L_law_698 ?_
        refine lv_topi (fun v45 ev45 => ?_)
        obtain rfl : v45 = nI (i + 1) := ev45.trans (nI_add _ _)
        refine mp_sld hx hb hX hK hI (vp_in_nI (show (i + 1) < L by omega) (by omega)) d_L_law_699 ?_
        refine lv_topi (fun v46 ev46 => ?_)
        obtain rfl : v46 = xs (i + 1) := ev46.trans (by rw [nI_clamp (by omega)])
        refine lv_topi (fun v47 ev47 => ?_)
        obtain rfl : v47 = nI k9 := ev47.trans (hxk)
        refine lv_aload_n hx hb d_L_law_700 rfl (lv_at hl 4 rfl) ?_
        refine lv_iload hx hb d_L_law_701 (lv_at hl 0 rfl) ?_
        refine lv_iconst (v := nI 2) hx hb d_L_law_703 (by decide) ?_
        refine lv_iadd hx hb d_L_law_704 ?_
        refine lv_topi (fun v48 ev48 => ?_)
        obtain rfl : v48 = nI (i + 2) := ev48.trans (nI_add _ _)
        refine mp_sld hx hb hX hK hI (vp_in_nI (show (i + 2) < L by omega) (by omega)) d_L_law_705 ?_
        refine lv_topi (fun v49 ev49 => ?_)
        obtain rfl : v49 = xs (i + 2) := ev49.trans (by rw [nI_clamp (by omega)])
        refine lv_aload_n hx hb d_L_law_706 rfl (lv_at hl 1 rfl) ?_
        refine mp_calli hI (lw_runS (As := [.ref o, .int (nI k9), .int (xs (i + 2)), .ref oa]) (rest := []) ⟨hx, hb, hml, hown, hg⟩ (c_L_valZ l D g S _ o pa Av.vo Av.qo Av.ky Av.lz Av.za Av.mu9 Av.po nl s9 zc (.ref lo) (.ref fa0) (.int (nI gv)) (.int (nI tk)) (.int fq) (.int (nI nl)) (.ref Av.d9) (.ref Av.zo) (.ref Av.rr) (.ref Av.rc) (.int (nI nl)) (.ref Av.pr) (.ref Av.lw) (.ref Av.ll) (.ref Av.mu) (.ref Av.fa) (.ref Av.nx) (.ref Av.re) (.ref Av.so1) (.ref Av.so2) eo Av.le Av.la Tv.kQ Tv.MQ Tv.dl Tv.CL Tv.ZZ oa of k9 (xs (i + 2)) h_o h_pa v_vo v_qo v_ky v_lz v_za v_mu9 h_oa hl9 vLo vZ hnl hs hzc hk9 hx9) ⟨callBW_of 4 hg (hts _ q_790) rfl rfl (hg _ q_0) (hg _ q_788) (by decide +kernel) ⟨Nat.le_of_ble_eq_true rfl, Nat.le_of_ble_eq_true rfl⟩, hg _ q_789⟩ (mp_pre hI hK [.ref o, .int (nI k9), .int (xs (i + 2)), .ref oa]) rfl rfl hl.1 rfl (lv_room (Nat.le_of_ble_eq_true rfl)) d_L_law_707 ⟨by omega, by omega⟩) (fun r53 S50 H51 locs p_52 hI => ?_)
        obtain ⟨er53, eS54⟩ := p_52
        rw [eS54] at hI
        have er53 : r53 = nI 2 := er53
        subst er53
        refine lv_istore (lv' := [(5, .int (nI 2)), (4, .int (nI i)), (3, .ref oa), (2, .ref mo), (1, .ref o), (0, .ref b)]) hx hb d_L_law_710 hl (by decide) rfl (fun ls hl => ?_)
        refine lv_aload_n hx hb d_L_law_712 rfl (lv_at hl 3 rfl) ?_
        refine lv_aload_n hx hb d_L_law_713 rfl (lv_at hl 5 rfl) ?_
        refine lv_iload hx hb d_L_law_714 (lv_at hl 1 rfl) ?_
        refine lv_iconst (v := nI 1) hx hb d_L_law_716 (by decide) ?_
        refine lv_iadd hx hb d_L_law_717 ?_
        refine lv_topi (fun v55 ev55 => ?_)
        obtain rfl : v55 = nI (i + 1) := ev55.trans (nI_add _ _)
        refine mp_sld hx hb hX hK hI (vp_in_nI (show (i + 1) < L by omega) (by omega)) d_L_law_718 ?_
        refine lv_topi (fun v56 ev56 => ?_)
        obtain rfl : v56 = xs (i + 1) := ev56.trans (by rw [nI_clamp (by omega)])
        refine lv_topi (fun v57 ev57 => ?_)
        obtain rfl : v57 = nI k9 := ev57.trans (hxk)
        refine lv_aload_n hx hb d_L_law_719 rfl (lv_at hl 5 rfl) ?_
        refine lv_iload hx hb d_L_law_720 (lv_at hl 1 rfl) ?_
        refine lv_iconst (v := nI 2) hx hb d_L_law_722 (by decide) ?_
        refine lv_iadd hx hb d_L_law_723 ?_
        refine lv_topi (fun v58 ev58 => ?_)
        obtain rfl : v58 = nI (i + 2) := ev58.trans (nI_add _ _)
        refine mp_sld hx hb hX hK hI (vp_in_nI (show (i + 2) < L by omega) (by omega)) d_L_law_724 ?_
        refine lv_topi (fun v59 ev59 => ?_)
        obtain rfl : v59 = xs (i + 2) := ev59.trans (by rw [nI_clamp (by omega)])
        refine mp_calli hI (va_runV (As := [.int (nI k9), .int (xs (i + 2))]) (rest := []) ⟨hx, hb, hml, hown, hg⟩ (c_M_valZ l D g S _ mo (ad 2001) (ad 2008) (ad 2010) (ad 2011) (ad 2014) (ad 2015) nl s9 zc (.int (nI gv)) (.int (nI tk)) (.int (nI n)) (.ref (ad 2002)) (.ref (ad 2003)) (.ref (ad 2004)) (.ref (ad 2005)) (.ref (ad 2006)) (.ref (ad 2007)) (.int ak) (.ref (ad 2009)) (.ref (ad 2012)) (.ref (ad 2013)) (.ref (ad 2016)) (.ref (ad 2017)) (.ref (ad 2018)) (.ref (ad 2019)) (.ref (ad 2020)) (.ref (ad 2021)) (.ref (ad 2022)) PO LF DG LE ZM OF th k9 (xs (i + 2)) h_mo h_mp h_le h_dg h_lt h_ze h_oq hnl hs hzc hk9 hx9) ⟨(callB_of 2 hg (wd_goodG q_1098) rfl rfl rfl (hg _ q_5) (hg _ q_1095) (by decide +kernel) ⟨Nat.le_of_ble_eq_true rfl, Nat.le_of_ble_eq_true rfl⟩), hg _ q_1096, hg _ q_1097⟩ (mp_preV (C := R_M) (T := F_M) hI hK h_mo rfl [.int (nI k9), .int (xs (i + 2))]) rfl rfl hl.1 rfl (lv_room (Nat.le_of_ble_eq_true rfl)) d_L_law_725 ⟨by omega, by omega⟩) (fun r63 S60 H61 locs p_62 hI => ?_)
        obtain ⟨_, q_mo, fr⟩ := p_62
        have h_o : S60 o = some (0, .inr (0, [.int (nI nl), .ref pa, .ref lo, .ref fa0, .int (nI gv), .int (nI tk), .int fq, .int 1, .int (nI zc), .ref Av.vo])) := fr o _ _ h_o (by omega)
        have h_pa : S60 pa = some (1, .inl ((g 2), 40, .inr (.inr (.inr (.inr (rfs eo 40)))))) := fr pa _ _ h_pa (by omega)
        have h_fa0 : S60 fa0 = some (3, .inl ((g 0), 3, .inl ff)) := fr fa0 _ _ h_fa0 (by omega)
        have h_oa : S60 oa = some (9, .inl ((g 4), 1, .inr (.inl of))) := fr oa _ _ h_oa (by omega)
        have h_mp : S60 (ad 2001) = some (2001, .inl ((g 0), 40000, .inl (fun j => nI (PO j).val))) := fr (ad 2001) _ _ h_mp (by omega)
        have h_le : S60 (ad 2008) = some (2008, .inl ((g 0), 17, .inl (fun j => nI (LF j)))) := fr (ad 2008) _ _ h_le (by omega)
        have h_dg : S60 (ad 2010) = some (2010, .inl ((g 0), 3, .inl (fun j => nI (DG j)))) := fr (ad 2010) _ _ h_dg (by omega)
        have h_lt : S60 (ad 2011) = some (2011, .inl ((g 0), 51, .inl (fun j => nI (LE j).val))) := fr (ad 2011) _ _ h_lt (by omega)
        have h_ze : S60 (ad 2014) = some (2014, .inl ((g 0), 51, .inl (fun j => nI (ZM j).val))) := fr (ad 2014) _ _ h_ze (by omega)
        have h_oq : S60 (ad 2015) = some (2015, .inl ((g 0), 17, .inl (fun j => nI (OF j)))) := fr (ad 2015) _ _ h_oq (by omega)
        have h_fv : S60 (ad 2016) = some (2016, .inl ((g 5), 3, .inl FV)) := fr (ad 2016) _ _ h_fv (by omega)
        have hP := gPs_kept hP (S1 := S60) (fun b t9 e9 hb9 h1 h2 => by have h8 : S60 b = some (t9, e9) := fr b _ _ hb9 (by omega); rw [h8, hb9])
        have hL := gLs_kept hL (S1 := S60) (fun b t9 e9 hb9 h1 h2 => by have h8 : S60 b = some (t9, e9) := fr b _ _ hb9 (by omega); rw [h8, hb9])
        have hM := gMs_kept hM (S1 := S60) (fun b t9 e9 hb9 h1 h2 => by have h8 : S60 b = some (t9, e9) := fr b _ _ hb9 (by omega); rw [h8, hb9])
        have hWk := gWs_kept hWk (S1 := S60) (fun b t9 e9 hb9 h1 h2 => by have h8 : S60 b = some (t9, e9) := fr b _ _ hb9 (by omega); rw [h8, hb9])
        have hVg := vG_kept hVg (S1 := S60) (fun b t9 e9 hb9 h1 h2 => by have h8 : S60 b = some (t9, e9) := fr b _ _ hb9 (by omega); rw [h8, hb9])
        have h_mo := q_mo
        refine lv_istore (lv' := [(6, .int r63), (5, .int (nI 2)), (4, .int (nI i)), (3, .ref oa), (2, .ref mo), (1, .ref o), (0, .ref b)]) hx hb d_L_law_728 hl (by decide) rfl (fun ls hl => ?_)
        refine lv_aload_n hx hb d_L_law_730 rfl (lv_at hl 4 rfl) ?_
        refine mp_calli hI (va_runV (As := []) (rest := []) ⟨hx, hb, hml, hown, hg⟩ (c_M_thrown l D g S60 _ mo (.int (nI nl)) (.int (nI gv)) (.int (nI tk)) (.ref (ad 2001)) (.int (nI n)) (.ref (ad 2002)) (.ref (ad 2003)) (.ref (ad 2004)) (.ref (ad 2005)) (.ref (ad 2006)) (.ref (ad 2007)) (.int (nI 1)) (.int ak) (.int (nI s9)) (.ref (ad 2008)) (.ref (ad 2009)) (.ref (ad 2010)) (.ref (ad 2011)) (.ref (ad 2012)) (.ref (ad 2013)) (.int (nI zc)) (.ref (ad 2014)) (.ref (ad 2015)) (.ref (ad 2016)) (.ref (ad 2017)) (.ref (ad 2018)) (.ref (ad 2019)) (.ref (ad 2020)) (.ref (ad 2021)) (.ref (ad 2022)) (nI 2) h_mo) ⟨(callB_of 0 hg (wd_goodG q_902) rfl rfl rfl (hg _ q_5) (hg _ q_899) (by decide +kernel) ⟨Nat.le_of_ble_eq_true rfl, Nat.le_of_ble_eq_true rfl⟩), hg _ q_900, hg _ q_901⟩ (mp_preV (C := R_M) (T := F_M) hI hK h_mo rfl []) rfl rfl hl.1 rfl (lv_room (Nat.le_of_ble_eq_true rfl)) d_L_law_731 ⟨by omega, by omega⟩) (fun r67 S64 H65 locs p_66 hI => ?_)
        obtain ⟨er67, eS68⟩ := p_66
        rw [eS68] at hI
        have er67 : r67 = nI 2 := er67
        subst er67
        refine lv_iload hx hb d_L_law_734 (lv_at hl 1 rfl) ?_
        refine lv_icmp_eq (tgt := 741) hx hb d_L_law_736 (by decide) (fun _ => ?_) (fun h9 => absurd (rfl) h9)
        refine lv_iload hx hb d_L_law_741 (lv_at hl 1 rfl) ?_
        refine lv_if_ne (tgt := 758) hx hb d_L_law_743 (by decide) (fun _ => ?_) (fun h9 => absurd h9 (by decide))
        refine lv_goto (tgt := 822) hx hb d_L_law_758 (by decide) ?_
        refine W.widen (k := cells + 189) (n := slots + 11130) (by omega) (by omega) ?_
        exact kx S60 _ _ ls ⟨(pa), (lo), (fa0), (ma), (hd), (eo), (me), (ad), (cf), (gv), (tk), (n), (fq), (1), (nI zc), (.ref Av.vo), (ff), (hq), (zq), (mq), (cq), (nI 2), (nI 1), (ak), (nI s9), (nI zc), (PO), (LF), (DG), (LE), (ZM), (OF), (FV), (of), h_o, h_pa, h_fa0, h_oa, h_mo, h_mp, h_le, h_dg, h_lt, h_ze, h_oq, h_fv, hP, hL, hM, hWk, (Or.inr ⟨rfl, hroM, Av, Tv, rfl, hVg, hroB⟩), hgv, htk, hnt, hR, hI9, hIn, hF9⟩ hI (lv_sub hl [2, 3, 4, 5, 6] rfl)
      · obtain ⟨ek, en, cap, pz, kf, nf, hE, hG⟩ := id hP
        obtain ⟨mu, X9, u1, u2, u3⟩ := pG_mo hG hk9
        have u4 : ∀ i, i < pz k9 → 0 < X9 i ∧ X9 i < 32003 ∧ e9 (mu i) ∧ cf k9 (kT (mu i)) = X9 i := fun i hi => ⟨(u1 i hi).2.2.1, (u1 i hi).2.2.2.1, (u1 i hi).2.2.2.2.1, (u1 i hi).2.2.2.2.2⟩
        obtain ⟨_, _, hpc, _, hcap⟩ := hG k9 hk9
        refine lv_aload_n hx hb d_L_law_693 rfl (lv_at hl 3 rfl) ?_
        refine lv_aload_n hx hb d_L_law_694 rfl (lv_at hl 4 rfl) ?_
        refine lv_iload hx hb d_L_law_695 (lv_at hl 0 rfl) ?_
        refine lv_iconst (v := nI 1) hx hb d_L_law_697 (by decide) ?_
        refine lv_iadd hx hb d_L_law_698 ?_
        refine lv_topi (fun v69 ev69 => ?_)
        obtain rfl : v69 = nI (i + 1) := ev69.trans (nI_add _ _)
        refine mp_sld hx hb hX hK hI (vp_in_nI (show (i + 1) < L by omega) (by omega)) d_L_law_699 ?_
        refine lv_topi (fun v70 ev70 => ?_)
        obtain rfl : v70 = xs (i + 1) := ev70.trans (by rw [nI_clamp (by omega)])
        refine lv_topi (fun v71 ev71 => ?_)
        obtain rfl : v71 = nI k9 := ev71.trans (hxk)
        refine lv_aload_n hx hb d_L_law_700 rfl (lv_at hl 4 rfl) ?_
        refine lv_iload hx hb d_L_law_701 (lv_at hl 0 rfl) ?_
        refine lv_iconst (v := nI 2) hx hb d_L_law_703 (by decide) ?_
        refine lv_iadd hx hb d_L_law_704 ?_
        refine lv_topi (fun v72 ev72 => ?_)
        obtain rfl : v72 = nI (i + 2) := ev72.trans (nI_add _ _)
        refine mp_sld hx hb hX hK hI (vp_in_nI (show (i + 2) < L by omega) (by omega)) d_L_law_705 ?_
        refine lv_topi (fun v73 ev73 => ?_)
        obtain rfl : v73 = xs (i + 2) := ev73.trans (by rw [nI_clamp (by omega)])
        refine lv_topi (fun v74 ev74 => ?_)
        obtain rfl : v74 = nI z9 := ev74.trans (hxz)
        refine lv_aload_n hx hb d_L_law_706 rfl (lv_at hl 1 rfl) ?_
        refine mp_calli hI (lw_runS (As := [.ref o, .int (nI k9), .int (nI z9), .ref oa]) (rest := []) ⟨hx, hb, hml, hown, hg⟩ (c_L_valK l D g S _ o pa Av.vo Av.qo Av.ky Av.lz Av.za Av.mu9 Av.po nl s9 zc (.ref lo) (.ref fa0) (.int (nI gv)) (.int (nI tk)) (.int fq) (.int (nI nl)) (.ref Av.d9) (.ref Av.zo) (.ref Av.rr) (.ref Av.rc) (.int (nI nl)) (.ref Av.pr) (.ref Av.lw) (.ref Av.ll) (.ref Av.mu) (.ref Av.fa) (.ref Av.nx) (.ref Av.re) (.ref Av.so1) (.ref Av.so2) eo Av.le Av.la Tv.kQ Tv.MQ Tv.dl Tv.CL Tv.ZZ oa of Av.pn Av.pp Tv.X Tv.W9 ek en cap pz kf nf k9 z9 mu (fun j => fc (X9 j)) h_o h_pa v_vo v_qo v_ky v_lz v_za v_mu9 v_po v_pn v_pp h_oa vLo vZ hnl hs hzc vW hE hk9 hz9 hpc hcap (fun j hj => ⟨(u1 j hj).1, by rw [fc_val (u1 j hj).2.2.2.1]; exact (u1 j hj).2.1, (u1 j hj).2.2.2.2.1⟩)) ⟨callBW_of 4 hg (hts _ q_790) rfl rfl (hg _ q_0) (hg _ q_788) (by decide +kernel) ⟨Nat.le_of_ble_eq_true rfl, Nat.le_of_ble_eq_true rfl⟩, hg _ q_789⟩ (mp_pre hI hK [.ref o, .int (nI k9), .int (nI z9), .ref oa]) rfl rfl hl.1 rfl (lv_room (Nat.le_of_ble_eq_true rfl)) d_L_law_707 ⟨by omega, by omega⟩) (fun r78 S75 H76 locs p_77 hI => ?_)
        obtain ⟨er78, ⟨f1, q_oa, hf1⟩, Xb, Wb, q_pn, q_W, fr⟩ := p_77
        subst er78
        have hVg2 := vG_setX hVg q_pn q_W (fun b t e9 h9 k1 k2 k3 => fr b t e9 h9 (by omega) k1 k2)
        have h_o : S75 o = some (0, .inr (0, [.int (nI nl), .ref pa, .ref lo, .ref fa0, .int (nI gv), .int (nI tk), .int fq, .int 1, .int (nI zc), .ref Av.vo])) := fr o _ _ h_o (by omega) (by omega) (by omega)
        have h_pa : S75 pa = some (1, .inl ((g 2), 40, .inr (.inr (.inr (.inr (rfs eo 40)))))) := fr pa _ _ h_pa (by omega) (by omega) (by omega)
        have h_fa0 : S75 fa0 = some (3, .inl ((g 0), 3, .inl ff)) := fr fa0 _ _ h_fa0 (by omega) (by omega) (by omega)
        have h_mo : S75 mo = some (2000, .inr (10, [.int (nI nl), .int (nI gv), .int (nI tk), .int th, .ref (ad 2001), .int (nI n), .ref (ad 2002), .ref (ad 2003), .ref (ad 2004), .ref (ad 2005), .ref (ad 2006), .ref (ad 2007), .int (nI 1), .int ak, .int (nI s9), .ref (ad 2008), .ref (ad 2009), .ref (ad 2010), .ref (ad 2011), .ref (ad 2012), .ref (ad 2013), .int (nI zc), .ref (ad 2014), .ref (ad 2015), .ref (ad 2016), .ref (ad 2017), .ref (ad 2018), .ref (ad 2019), .ref (ad 2020), .ref (ad 2021), .ref (ad 2022)])) := fr mo _ _ h_mo (by omega) (by omega) (by omega)
        have h_mp : S75 (ad 2001) = some (2001, .inl ((g 0), 40000, .inl (fun j => nI (PO j).val))) := fr (ad 2001) _ _ h_mp (by omega) (by omega) (by omega)
        have h_le : S75 (ad 2008) = some (2008, .inl ((g 0), 17, .inl (fun j => nI (LF j)))) := fr (ad 2008) _ _ h_le (by omega) (by omega) (by omega)
        have h_dg : S75 (ad 2010) = some (2010, .inl ((g 0), 3, .inl (fun j => nI (DG j)))) := fr (ad 2010) _ _ h_dg (by omega) (by omega) (by omega)
        have h_lt : S75 (ad 2011) = some (2011, .inl ((g 0), 51, .inl (fun j => nI (LE j).val))) := fr (ad 2011) _ _ h_lt (by omega) (by omega) (by omega)
        have h_ze : S75 (ad 2014) = some (2014, .inl ((g 0), 51, .inl (fun j => nI (ZM j).val))) := fr (ad 2014) _ _ h_ze (by omega) (by omega) (by omega)
        have h_oq : S75 (ad 2015) = some (2015, .inl ((g 0), 17, .inl (fun j => nI (OF j)))) := fr (ad 2015) _ _ h_oq (by omega) (by omega) (by omega)
        have h_fv : S75 (ad 2016) = some (2016, .inl ((g 5), 3, .inl FV)) := fr (ad 2016) _ _ h_fv (by omega) (by omega) (by omega)
        have hP := gPs_kept hP (S1 := S75) (fun b t9 e9 hb9 h1 h2 => by have h8 : S75 b = some (t9, e9) := fr b _ _ hb9 (by omega) (by omega) (by omega); rw [h8, hb9])
        have hL := gLs_kept hL (S1 := S75) (fun b t9 e9 hb9 h1 h2 => by have h8 : S75 b = some (t9, e9) := fr b _ _ hb9 (by omega) (by omega) (by omega); rw [h8, hb9])
        have hM := gMs_kept hM (S1 := S75) (fun b t9 e9 hb9 h1 h2 => by have h8 : S75 b = some (t9, e9) := fr b _ _ hb9 (by omega) (by omega) (by omega); rw [h8, hb9])
        have hWk := gWs_kept hWk (S1 := S75) (fun b t9 e9 hb9 h1 h2 => by have h8 : S75 b = some (t9, e9) := fr b _ _ hb9 (by omega) (by omega) (by omega); rw [h8, hb9])
        have h_oa := q_oa
        refine lv_istore (lv' := [(5, .int (nI 0)), (4, .int (nI i)), (3, .ref oa), (2, .ref mo), (1, .ref o), (0, .ref b)]) hx hb d_L_law_710 hl (by decide) rfl (fun ls hl => ?_)
        refine lv_aload_n hx hb d_L_law_712 rfl (lv_at hl 3 rfl) ?_
        refine lv_aload_n hx hb d_L_law_713 rfl (lv_at hl 5 rfl) ?_
        refine lv_iload hx hb d_L_law_714 (lv_at hl 1 rfl) ?_
        refine lv_iconst (v := nI 1) hx hb d_L_law_716 (by decide) ?_
        refine lv_iadd hx hb d_L_law_717 ?_
        refine lv_topi (fun v79 ev79 => ?_)
        obtain rfl : v79 = nI (i + 1) := ev79.trans (nI_add _ _)
        refine mp_sld hx hb hX hK hI (vp_in_nI (show (i + 1) < L by omega) (by omega)) d_L_law_718 ?_
        refine lv_topi (fun v80 ev80 => ?_)
        obtain rfl : v80 = xs (i + 1) := ev80.trans (by rw [nI_clamp (by omega)])
        refine lv_topi (fun v81 ev81 => ?_)
        obtain rfl : v81 = nI k9 := ev81.trans (hxk)
        refine lv_aload_n hx hb d_L_law_719 rfl (lv_at hl 5 rfl) ?_
        refine lv_iload hx hb d_L_law_720 (lv_at hl 1 rfl) ?_
        refine lv_iconst (v := nI 2) hx hb d_L_law_722 (by decide) ?_
        refine lv_iadd hx hb d_L_law_723 ?_
        refine lv_topi (fun v82 ev82 => ?_)
        obtain rfl : v82 = nI (i + 2) := ev82.trans (nI_add _ _)
        refine mp_sld hx hb hX hK hI (vp_in_nI (show (i + 2) < L by omega) (by omega)) d_L_law_724 ?_
        refine lv_topi (fun v83 ev83 => ?_)
        obtain rfl : v83 = xs (i + 2) := ev83.trans (by rw [nI_clamp (by omega)])
        refine lv_topi (fun v84 ev84 => ?_)
        obtain rfl : v84 = nI z9 := ev84.trans (hxz)
        refine mp_calli hI (va_runV (As := [.int (nI k9), .int (nI z9)]) (rest := []) ⟨hx, hb, hml, hown, hg⟩ (c_M_valK l D g S75 _ mo (ad 2001) (ad 2008) (ad 2010) (ad 2011) (ad 2014) (ad 2015) nl s9 zc (.int (nI gv)) (.int (nI tk)) (.int (nI n)) (.ref (ad 2002)) (.ref (ad 2003)) (.ref (ad 2004)) (.ref (ad 2005)) (.ref (ad 2006)) (.ref (ad 2007)) (.int ak) (.ref (ad 2009)) (.ref (ad 2012)) (.ref (ad 2013)) (.ref (ad 2016)) (.ref (ad 2017)) (.ref (ad 2018)) (.ref (ad 2019)) (.ref (ad 2020)) (.ref (ad 2021)) (.ref (ad 2022)) PO LF DG LE ZM OF th k9 z9 h_mo h_mp h_le h_dg h_lt h_ze h_oq hnl hs hzc hk9 hz9) ⟨(callB_of 2 hg (wd_goodG q_1098) rfl rfl rfl (hg _ q_5) (hg _ q_1095) (by decide +kernel) ⟨Nat.le_of_ble_eq_true rfl, Nat.le_of_ble_eq_true rfl⟩), hg _ q_1096, hg _ q_1097⟩ (mp_preV (C := R_M) (T := F_M) hI hK h_mo rfl [.int (nI k9), .int (nI z9)]) rfl rfl hl.1 rfl (lv_room (Nat.le_of_ble_eq_true rfl)) d_L_law_725 ⟨by omega, by omega⟩) (fun r88 S85 H86 locs p_87 hI => ?_)
        obtain ⟨er88, q_mo, fr⟩ := p_87
        have h_o : S85 o = some (0, .inr (0, [.int (nI nl), .ref pa, .ref lo, .ref fa0, .int (nI gv), .int (nI tk), .int fq, .int 1, .int (nI zc), .ref Av.vo])) := fr o _ _ h_o (by omega)
        have h_pa : S85 pa = some (1, .inl ((g 2), 40, .inr (.inr (.inr (.inr (rfs eo 40)))))) := fr pa _ _ h_pa (by omega)
        have h_fa0 : S85 fa0 = some (3, .inl ((g 0), 3, .inl ff)) := fr fa0 _ _ h_fa0 (by omega)
        have h_oa : S85 oa = some (9, .inl ((g 4), 1, .inr (.inl f1))) := fr oa _ _ h_oa (by omega)
        have h_mp : S85 (ad 2001) = some (2001, .inl ((g 0), 40000, .inl (fun j => nI (PO j).val))) := fr (ad 2001) _ _ h_mp (by omega)
        have h_le : S85 (ad 2008) = some (2008, .inl ((g 0), 17, .inl (fun j => nI (LF j)))) := fr (ad 2008) _ _ h_le (by omega)
        have h_dg : S85 (ad 2010) = some (2010, .inl ((g 0), 3, .inl (fun j => nI (DG j)))) := fr (ad 2010) _ _ h_dg (by omega)
        have h_lt : S85 (ad 2011) = some (2011, .inl ((g 0), 51, .inl (fun j => nI (LE j).val))) := fr (ad 2011) _ _ h_lt (by omega)
        have h_ze : S85 (ad 2014) = some (2014, .inl ((g 0), 51, .inl (fun j => nI (ZM j).val))) := fr (ad 2014) _ _ h_ze (by omega)
        have h_oq : S85 (ad 2015) = some (2015, .inl ((g 0), 17, .inl (fun j => nI (OF j)))) := fr (ad 2015) _ _ h_oq (by omega)
        have h_fv : S85 (ad 2016) = some (2016, .inl ((g 5), 3, .inl FV)) := fr (ad 2016) _ _ h_fv (by omega)
        have hP := gPs_kept hP (S1 := S85) (fun b t9 e9 hb9 h1 h2 => by have h8 : S85 b = some (t9, e9) := fr b _ _ hb9 (by omega); rw [h8, hb9])
        have hL := gLs_kept hL (S1 := S85) (fun b t9 e9 hb9 h1 h2 => by have h8 : S85 b = some (t9, e9) := fr b _ _ hb9 (by omega); rw [h8, hb9])
        have hM := gMs_kept hM (S1 := S85) (fun b t9 e9 hb9 h1 h2 => by have h8 : S85 b = some (t9, e9) := fr b _ _ hb9 (by omega); rw [h8, hb9])
        have hWk := gWs_kept hWk (S1 := S85) (fun b t9 e9 hb9 h1 h2 => by have h8 : S85 b = some (t9, e9) := fr b _ _ hb9 (by omega); rw [h8, hb9])
        have hVg2 := vG_kept hVg2 (S1 := S85) (fun b t9 e9 hb9 h1 h2 => by have h8 : S85 b = some (t9, e9) := fr b _ _ hb9 (by omega); rw [h8, hb9])
        have h_mo := q_mo
        refine lv_istore (lv' := [(6, .int r88), (5, .int (nI 0)), (4, .int (nI i)), (3, .ref oa), (2, .ref mo), (1, .ref o), (0, .ref b)]) hx hb d_L_law_728 hl (by decide) rfl (fun ls hl => ?_)
        refine lv_aload_n hx hb d_L_law_730 rfl (lv_at hl 4 rfl) ?_
        refine mp_calli hI (va_runV (As := []) (rest := []) ⟨hx, hb, hml, hown, hg⟩ (c_M_thrown l D g S85 _ mo (.int (nI nl)) (.int (nI gv)) (.int (nI tk)) (.ref (ad 2001)) (.int (nI n)) (.ref (ad 2002)) (.ref (ad 2003)) (.ref (ad 2004)) (.ref (ad 2005)) (.ref (ad 2006)) (.ref (ad 2007)) (.int (nI 1)) (.int ak) (.int (nI s9)) (.ref (ad 2008)) (.ref (ad 2009)) (.ref (ad 2010)) (.ref (ad 2011)) (.ref (ad 2012)) (.ref (ad 2013)) (.int (nI zc)) (.ref (ad 2014)) (.ref (ad 2015)) (.ref (ad 2016)) (.ref (ad 2017)) (.ref (ad 2018)) (.ref (ad 2019)) (.ref (ad 2020)) (.ref (ad 2021)) (.ref (ad 2022)) (nI 0) h_mo) ⟨(callB_of 0 hg (wd_goodG q_902) rfl rfl rfl (hg _ q_5) (hg _ q_899) (by decide +kernel) ⟨Nat.le_of_ble_eq_true rfl, Nat.le_of_ble_eq_true rfl⟩), hg _ q_900, hg _ q_901⟩ (mp_preV (C := R_M) (T := F_M) hI hK h_mo rfl []) rfl rfl hl.1 rfl (lv_room (Nat.le_of_ble_eq_true rfl)) d_L_law_731 ⟨by omega, by omega⟩) (fun r92 S89 H90 locs p_91 hI => ?_)
        obtain ⟨er92, eS93⟩ := p_91
        rw [eS93] at hI
        have er92 : r92 = nI 0 := er92
        subst er92
        refine lv_iload hx hb d_L_law_734 (lv_at hl 1 rfl) ?_
        refine lv_icmp_eq (tgt := 741) hx hb d_L_law_736 (by decide) (fun _ => ?_) (fun h9 => absurd (rfl) h9)
        refine lv_iload hx hb d_L_law_741 (lv_at hl 1 rfl) ?_
        refine lv_if_ne (tgt := 758) hx hb d_L_law_743 (by decide) (fun h9 => absurd h9 (by decide)) (fun _ => ?_)
        refine lv_aload_n hx hb d_L_law_746 rfl (lv_at hl 3 rfl) ?_
        refine lv_iconst (v := nI 0) hx hb d_L_law_747 (by decide) ?_
        refine mp_lald hx hb hK.va hI 4 h_oa rfl (vp_in_nI (by decide) (by decide)) d_L_law_748 ?_
        refine lv_topl (fun v94 ev94 => ?_)
        obtain rfl : v94 = (nI (sm (pz k9) (fun k => (fun j => fc (X9 j)) k * ev (Tv.ZZ z9 0) (Tv.ZZ z9 1) (Tv.ZZ z9 2) (mu k))).val).toInt64 := ev94.trans (hf1)
        refine lv_iload hx hb d_L_law_749 (lv_at hl 0 rfl) ?_
        refine lv_i2l (v := (r88).toInt64) hx hb d_L_law_751 rfl ?_
        refine W.lcmp hx hb d_L_law_752 ?_
        refine lv_if_eq (tgt := 758) hx hb d_L_law_753 (by decide) (fun _ => ?_) (fun h9 => absurd (lg_same (congrArg Int32.toInt64 (show nI (sm (pz k9) (fun k => (fun j => fc (X9 j)) k * ev (Tv.ZZ z9 0) (Tv.ZZ z9 1) (Tv.ZZ z9 2) (mu k))).val = r88 by rw [er88, kw3 z9 hz9 0 (by decide), kw3 z9 hz9 1 (by decide), kw3 z9 hz9 2 (by decide)]; exact congrArg (fun q : fF => nI q.val) (val_eq hR hk9 u4 u2 u3 _ _ _)))) h9)
        refine lv_goto (tgt := 822) hx hb d_L_law_758 (by decide) ?_
        refine W.widen (k := cells + 189) (n := slots + 11130) (by omega) (by omega) ?_
        exact kx S85 _ _ ls ⟨(pa), (lo), (fa0), (ma), (hd), (eo), (me), (ad), (cf), (gv), (tk), (n), (fq), (1), (nI zc), (.ref Av.vo), (ff), (hq), (zq), (mq), (cq), (nI 0), (nI 1), (ak), (nI s9), (nI zc), (PO), (LF), (DG), (LE), (ZM), (OF), (FV), (f1), h_o, h_pa, h_fa0, h_oa, h_mo, h_mp, h_le, h_dg, h_lt, h_ze, h_oq, h_fv, hP, hL, hM, hWk, (Or.inr ⟨rfl, hroM, Av, vT_X Tv Xb Wb, rfl, hVg2, hroB⟩), hgv, htk, hnt, hR, hI9, hIn, hF9⟩ hI (lv_sub hl [2, 3, 4, 5, 6] rfl)
