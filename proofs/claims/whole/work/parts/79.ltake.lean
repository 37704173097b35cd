theorem in_up {n nl : Nat} {z : Nat → Nat} {mo : Nat → Nat → m3} (h : ∀ i, i < n → ∀ k, k < z i → InL nl (mo i k)) {z9 : Nat} {mu : Nat → m3} (hm : ∀ j, j < z9 → InL nl (mu j)) : ∀ i, i < n + 1 → ∀ k, k < va_up z n z9 i → InL nl (va_up mo n mu i k) := by
  intro i hi k hk
  by_cases e : i = n
  · subst e; rw [mp_us] at hk ⊢; exact hm k hk
  · rw [mp_un e] at hk ⊢; exact h i (by omega) k hk
theorem d_L_law_378 : decode b_L_law 378 = .ok (.lconst 0, 1) := by decide +kernel
set_option maxHeartbeats 8000000 in
set_option maxRecDepth 100000 in
/-- term -/
theorem lk_term {p : Program} {l : Launch} {e : Env} {s : State} {m : MethodId} {below : List Frame} {meth : Method} {c : Code} {Q : State → Prop} {D : mp_G} {g : Nat → ClassId} {A : Nat → Prop} {b L i : Nat} {xs : Nat → Int32} {cells slots : Nat} {S : mp_M} {H : Heap} {locs : List Loc} {ls : Array Slot} (hx : p.tables.exec = Jvm.exec) (hb : c.code = b_L_law) (hml : c.maxLocals = 7) (hts : ∀ w ∈ lw_tbl, w.before #[Value.ref b] s = true) (hg : ∀ w ∈ gw, w.before #[Value.ref b] s = true) (hown : s.vm.findClass R_L = some m.cls) (hK : mp_K D classes (tys g) s) (hX : va_X b L xs D.2.1 D.2.1.heap) (hL9 : L ≤ 3585) (hi : i + 6 < L) (hc : cells + 189 ≤ room_1.cells) (hs9 : slots + 11130 ≤ room_1.slots) (hl9 : l.stackTraces = false) {nl oa mo o : Nat} (hnl : nl ≤ 3) (hn1 : 1 ≤ nl) (hV : lawI g nl o mo oa S) (hI : mp_I D classes A s.heap S H locs) (hl : lv_has ls 7 [(4, .int (nI i)), (3, .ref oa), (2, .ref mo), (1, .ref o), (0, .ref b)]) (kx : ∀ (S : mp_M) (H : Heap) (locs : List Loc) (ls : Array Slot), lawI g nl o mo oa S → mp_I D classes A s.heap S H locs → lv_has ls 7 [(4, .int (nI i)), (3, .ref oa), (2, .ref mo), (1, .ref o), (0, .ref b)] → W p l e room_1 s m #[Value.ref b] below meth c H locs (cells + 189) (slots + 11130) Q (F0 m 822 ls [])) : W p l e room_1 s m #[Value.ref b] below meth c H locs (cells) (slots) Q (F0 m 160 ls []) := by
  have hc : cells + 189 ≤ 164015 := hc
  have hs9 : slots + 11130 ≤ 8604026 := hs9
  obtain ⟨pa, lo, fa0, ma, hd, eo, me, ad, cf, gv, tk, n, fq, an, av, sv, ff, hq, zq, mq, cq, th, kn, ak, s0, z0, PO, LF, DG, LE, ZM, OF, FV, of, h_o, h_pa, h_fa0, h_oa, h_mo, h_mp, h_le, h_dg, h_lt, h_ze, h_oq, h_fv, hP, hL, hM, hWk, hA, hgv, htk, hnt, hR, hI9, hIn, hF9⟩ := hV
  rcases i32_40 (xs (i + 1)) with hx9 | ⟨k9, hk9, hxk⟩
  · refine lv_aload_n hx hb d_L_law_160 rfl (lv_at hl 3 rfl) ?_
    refine lv_aload_n hx hb d_L_law_161 rfl (lv_at hl 4 rfl) ?_
    refine lv_iload hx hb d_L_law_162 (lv_at hl 0 rfl) ?_
    refine lv_iconst (v := nI 1) hx hb d_L_law_164 (by decide) ?_
    refine lv_iadd hx hb d_L_law_165 ?_
    refine lv_topi (fun v1 ev1 => ?_)
    obtain rfl : v1 = nI (i + 1) := ev1.trans (nI_add _ _)
    refine mp_sld hx hb hX hK hI (vp_in_nI (show (i + 1) < L by omega) (by omega)) d_L_law_166 ?_
    refine lv_topi (fun v2 ev2 => ?_)
    obtain rfl : v2 = xs (i + 1) := ev2.trans (by rw [nI_clamp (by omega)])
    refine lv_aload_n hx hb d_L_law_167 rfl (lv_at hl 4 rfl) ?_
    refine lv_iload hx hb d_L_law_168 (lv_at hl 0 rfl) ?_
    refine lv_iconst (v := nI 2) hx hb d_L_law_170 (by decide) ?_
    refine lv_iadd hx hb d_L_law_171 ?_
    refine lv_topi (fun v3 ev3 => ?_)
    obtain rfl : v3 = nI (i + 2) := ev3.trans (nI_add _ _)
    refine mp_sld hx hb hX hK hI (vp_in_nI (show (i + 2) < L by omega) (by omega)) d_L_law_172 ?_
    refine lv_topi (fun v4 ev4 => ?_)
    obtain rfl : v4 = xs (i + 2) := ev4.trans (by rw [nI_clamp (by omega)])
    refine lv_i2l (v := (xs (i + 2)).toInt64) hx hb d_L_law_173 rfl ?_
    refine lv_bipush (v := nI 32) hx hb d_L_law_174 (by decide) ?_
    refine lv_lshl (v := ((xs (i + 2)).toInt64 <<< ((nI 32).toInt64 &&& 63))) hx hb d_L_law_176 rfl ?_
    refine lv_aload_n hx hb d_L_law_177 rfl (lv_at hl 4 rfl) ?_
    refine lv_iload hx hb d_L_law_178 (lv_at hl 0 rfl) ?_
    refine lv_iconst (v := nI 3) hx hb d_L_law_180 (by decide) ?_
    refine lv_iadd hx hb d_L_law_181 ?_
    refine lv_topi (fun v5 ev5 => ?_)
    obtain rfl : v5 = nI (i + 3) := ev5.trans (nI_add _ _)
    refine mp_sld hx hb hX hK hI (vp_in_nI (show (i + 3) < L by omega) (by omega)) d_L_law_182 ?_
    refine lv_topi (fun v6 ev6 => ?_)
    obtain rfl : v6 = xs (i + 3) := ev6.trans (by rw [nI_clamp (by omega)])
    refine lv_i2l (v := (xs (i + 3)).toInt64) hx hb d_L_law_183 rfl ?_
    refine lv_ldc2 (v := lN 4294967295) hx hb hown (hg _ q_1107) d_L_law_184 ?_
    refine lv_land hx hb d_L_law_187 ?_
    refine lv_lor hx hb d_L_law_188 ?_
    refine lv_aload_n hx hb d_L_law_189 rfl (lv_at hl 4 rfl) ?_
    refine lv_iload hx hb d_L_law_190 (lv_at hl 0 rfl) ?_
    refine lv_iconst (v := nI 4) hx hb d_L_law_192 (by decide) ?_
    refine lv_iadd hx hb d_L_law_193 ?_
    refine lv_topi (fun v7 ev7 => ?_)
    obtain rfl : v7 = nI (i + 4) := ev7.trans (nI_add _ _)
    refine mp_sld hx hb hX hK hI (vp_in_nI (show (i + 4) < L by omega) (by omega)) d_L_law_194 ?_
    refine lv_topi (fun v8 ev8 => ?_)
    obtain rfl : v8 = xs (i + 4) := ev8.trans (by rw [nI_clamp (by omega)])
    refine lv_i2l (v := (xs (i + 4)).toInt64) hx hb d_L_law_195 rfl ?_
    refine lv_bipush (v := nI 32) hx hb d_L_law_196 (by decide) ?_
    refine lv_lshl (v := ((xs (i + 4)).toInt64 <<< ((nI 32).toInt64 &&& 63))) hx hb d_L_law_198 rfl ?_
    refine lv_aload_n hx hb d_L_law_199 rfl (lv_at hl 4 rfl) ?_
    refine lv_iload hx hb d_L_law_200 (lv_at hl 0 rfl) ?_
    refine lv_iconst (v := nI 5) hx hb d_L_law_202 (by decide) ?_
    refine lv_iadd hx hb d_L_law_203 ?_
    refine lv_topi (fun v9 ev9 => ?_)
    obtain rfl : v9 = nI (i + 5) := ev9.trans (nI_add _ _)
    refine mp_sld hx hb hX hK hI (vp_in_nI (show (i + 5) < L by omega) (by omega)) d_L_law_204 ?_
    refine lv_topi (fun v10 ev10 => ?_)
    obtain rfl : v10 = xs (i + 5) := ev10.trans (by rw [nI_clamp (by omega)])
    refine lv_i2l (v := (xs (i + 5)).toInt64) hx hb d_L_law_205 rfl ?_
    refine lv_ldc2 (v := lN 4294967295) hx hb hown (hg _ q_1107) d_L_law_206 ?_
    refine lv_land hx hb d_L_law_209 ?_
    refine lv_lor hx hb d_L_law_210 ?_
    refine lv_aload_n hx hb d_L_law_211 rfl (lv_at hl 4 rfl) ?_
    refine lv_iload hx hb d_L_law_212 (lv_at hl 0 rfl) ?_
    refine lv_bipush (v := nI 6) hx hb d_L_law_214 (by decide) ?_
    refine lv_iadd hx hb d_L_law_216 ?_
    refine lv_topi (fun v11 ev11 => ?_)
    obtain rfl : v11 = nI (i + 6) := ev11.trans (nI_add _ _)
    refine mp_sld hx hb hX hK hI (vp_in_nI (show (i + 6) < L by omega) (by omega)) d_L_law_217 ?_
    refine lv_topi (fun v12 ev12 => ?_)
    obtain rfl : v12 = xs (i + 6) := ev12.trans (by rw [nI_clamp (by omega)])
    refine lv_aload_n hx hb d_L_law_218 rfl (lv_at hl 1 rfl) ?_
    refine mp_calli hI (lw_runS (As := [.ref o, .int (xs (i + 1)), .long (((xs (i + 2)).toInt64 <<< ((nI 32).toInt64 &&& 63)) ||| ((xs (i + 3)).toInt64 &&& lN 4294967295)), .long (((xs (i + 4)).toInt64 <<< ((nI 32).toInt64 &&& 63)) ||| ((xs (i + 5)).toInt64 &&& lN 4294967295)), .int (xs (i + 6)), .ref oa]) (rest := []) ⟨hx, hb, hml, hown, hg⟩ (c_L_termI l D g S _ o pa nl (.ref lo) (.ref fa0) (.int (nI gv)) (.int (nI tk)) (.int fq) (.int an) (.int av) (sv) (xs (i + 1)) (xs (i + 6)) (((xs (i + 2)).toInt64 <<< ((nI 32).toInt64 &&& 63)) ||| ((xs (i + 3)).toInt64 &&& lN 4294967295)) (((xs (i + 4)).toInt64 <<< ((nI 32).toInt64 &&& 63)) ||| ((xs (i + 5)).toInt64 &&& lN 4294967295)) oa of h_o h_oa hl9 hx9) ⟨callBW_of 6 hg (hts _ q_621) rfl rfl (hg _ q_0) (hg _ q_619) (by decide +kernel) ⟨Nat.le_of_ble_eq_true rfl, Nat.le_of_ble_eq_true rfl⟩, hg _ q_620⟩ (mp_pre hI hK [.ref o, .int (xs (i + 1)), .long (((xs (i + 2)).toInt64 <<< ((nI 32).toInt64 &&& 63)) ||| ((xs (i + 3)).toInt64 &&& lN 4294967295)), .long (((xs (i + 4)).toInt64 <<< ((nI 32).toInt64 &&& 63)) ||| ((xs (i + 5)).toInt64 &&& lN 4294967295)), .int (xs (i + 6)), .ref oa]) rfl rfl hl.1 rfl (lv_room (Nat.le_of_ble_eq_true rfl)) d_L_law_219 ⟨by omega, by omega⟩) (fun r16 S13 H14 locs p_15 hI => ?_)
    obtain ⟨er16, eS17⟩ := p_15
    rw [eS17] at hI
    have er16 : r16 = nI 1 := er16
    subst er16
    refine lv_istore (lv' := [(5, .int (nI 1)), (4, .int (nI i)), (3, .ref oa), (2, .ref mo), (1, .ref o), (0, .ref b)]) hx hb d_L_law_222 hl (by decide) rfl (fun ls hl => ?_)
    refine lv_aload_n hx hb d_L_law_224 rfl (lv_at hl 3 rfl) ?_
    refine lv_aload_n hx hb d_L_law_225 rfl (lv_at hl 5 rfl) ?_
    refine lv_iload hx hb d_L_law_226 (lv_at hl 1 rfl) ?_
    refine lv_iconst (v := nI 1) hx hb d_L_law_228 (by decide) ?_
    refine lv_iadd hx hb d_L_law_229 ?_
    refine lv_topi (fun v18 ev18 => ?_)
    obtain rfl : v18 = nI (i + 1) := ev18.trans (nI_add _ _)
    refine mp_sld hx hb hX hK hI (vp_in_nI (show (i + 1) < L by omega) (by omega)) d_L_law_230 ?_
    refine lv_topi (fun v19 ev19 => ?_)
    obtain rfl : v19 = xs (i + 1) := ev19.trans (by rw [nI_clamp (by omega)])
    refine lv_aload_n hx hb d_L_law_231 rfl (lv_at hl 5 rfl) ?_
    refine lv_iload hx hb d_L_law_232 (lv_at hl 1 rfl) ?_
    refine lv_iconst (v := nI 2) hx hb d_L_law_234 (by decide) ?_
    refine lv_iadd hx hb d_L_law_235 ?_
    refine lv_topi (fun v20 ev20 => ?_)
    obtain rfl : v20 = nI (i + 2) := ev20.trans (nI_add _ _)
    refine mp_sld hx hb hX hK hI (vp_in_nI (show (i + 2) < L by omega) (by omega)) d_L_law_236 ?_
    refine lv_topi (fun v21 ev21 => ?_)
    obtain rfl : v21 = xs (i + 2) := ev21.trans (by rw [nI_clamp (by omega)])
    refine lv_i2l (v := (xs (i + 2)).toInt64) hx hb d_L_law_237 rfl ?_
    refine lv_bipush (v := nI 32) hx hb d_L_law_238 (by decide) ?_
    refine lv_lshl (v := ((xs (i + 2)).toInt64 <<< ((nI 32).toInt64 &&& 63))) hx hb d_L_law_240 rfl ?_
    refine lv_aload_n hx hb d_L_law_241 rfl (lv_at hl 5 rfl) ?_
    refine lv_iload hx hb d_L_law_242 (lv_at hl 1 rfl) ?_
    refine lv_iconst (v := nI 3) hx hb d_L_law_244 (by decide) ?_
    refine lv_iadd hx hb d_L_law_245 ?_
    refine lv_topi (fun v22 ev22 => ?_)
    obtain rfl : v22 = nI (i + 3) := ev22.trans (nI_add _ _)
    refine mp_sld hx hb hX hK hI (vp_in_nI (show (i + 3) < L by omega) (by omega)) d_L_law_246 ?_
    refine lv_topi (fun v23 ev23 => ?_)
    obtain rfl : v23 = xs (i + 3) := ev23.trans (by rw [nI_clamp (by omega)])
    refine lv_i2l (v := (xs (i + 3)).toInt64) hx hb d_L_law_247 rfl ?_
    refine lv_ldc2 (v := lN 4294967295) hx hb hown (hg _ q_1107) d_L_law_248 ?_
    refine lv_land hx hb d_L_law_251 ?_
    refine lv_lor hx hb d_L_law_252 ?_
    refine lv_aload_n hx hb d_L_law_253 rfl (lv_at hl 5 rfl) ?_
    refine lv_iload hx hb d_L_law_254 (lv_at hl 1 rfl) ?_
    refine lv_iconst (v := nI 4) hx hb d_L_law_256 (by decide) ?_
    refine lv_iadd hx hb d_L_law_257 ?_
    refine lv_topi (fun v24 ev24 => ?_)
    obtain rfl : v24 = nI (i + 4) := ev24.trans (nI_add _ _)
    refine mp_sld hx hb hX hK hI (vp_in_nI (show (i + 4) < L by omega) (by omega)) d_L_law_258 ?_
    refine lv_topi (fun v25 ev25 => ?_)
    obtain rfl : v25 = xs (i + 4) := ev25.trans (by rw [nI_clamp (by omega)])
    refine lv_i2l (v := (xs (i + 4)).toInt64) hx hb d_L_law_259 rfl ?_
    refine lv_bipush (v := nI 32) hx hb d_L_law_260 (by decide) ?_
    refine lv_lshl (v := ((xs (i + 4)).toInt64 <<< ((nI 32).toInt64 &&& 63))) hx hb d_L_law_262 rfl ?_
    refine lv_aload_n hx hb d_L_law_263 rfl (lv_at hl 5 rfl) ?_
    refine lv_iload hx hb d_L_law_264 (lv_at hl 1 rfl) ?_
    refine lv_iconst (v := nI 5) hx hb d_L_law_266 (by decide) ?_
    refine lv_iadd hx hb d_L_law_267 ?_
    refine lv_topi (fun v26 ev26 => ?_)
    obtain rfl : v26 = nI (i + 5) := ev26.trans (nI_add _ _)
    refine mp_sld hx hb hX hK hI (vp_in_nI (show (i + 5) < L by omega) (by omega)) d_L_law_268 ?_
    refine lv_topi (fun v27 ev27 => ?_)
    obtain rfl : v27 = xs (i + 5) := ev27.trans (by rw [nI_clamp (by omega)])
    refine lv_i2l (v := (xs (i + 5)).toInt64) hx hb d_L_law_269 rfl ?_
    refine lv_ldc2 (v := lN 4294967295) hx hb hown (hg _ q_1107) d_L_law_270 ?_
    refine lv_land hx hb d_L_law_273 ?_
    refine lv_lor hx hb d_L_law_274 ?_
    refine lv_aload_n hx hb d_L_law_275 rfl (lv_at hl 5 rfl) ?_
    refine lv_iload hx hb d_L_law_276 (lv_at hl 1 rfl) ?_
    refine lv_bipush (v := nI 6) hx hb d_L_law_278 (by decide) ?_
    refine lv_iadd hx hb d_L_law_280 ?_
    refine lv_topi (fun v28 ev28 => ?_)
    obtain rfl : v28 = nI (i + 6) := ev28.trans (nI_add _ _)
    refine mp_sld hx hb hX hK hI (vp_in_nI (show (i + 6) < L by omega) (by omega)) d_L_law_281 ?_
    refine lv_topi (fun v29 ev29 => ?_)
    obtain rfl : v29 = xs (i + 6) := ev29.trans (by rw [nI_clamp (by omega)])
    refine mp_calli hI (va_runV (As := [.int (xs (i + 1)), .long (((xs (i + 2)).toInt64 <<< ((nI 32).toInt64 &&& 63)) ||| ((xs (i + 3)).toInt64 &&& lN 4294967295)), .long (((xs (i + 4)).toInt64 <<< ((nI 32).toInt64 &&& 63)) ||| ((xs (i + 5)).toInt64 &&& lN 4294967295)), .int (xs (i + 6))]) (rest := []) ⟨hx, hb, hml, hown, hg⟩ (c_M_termI l D g S _ mo nl (.int (nI gv)) (.int (nI tk)) (.ref (ad 2001)) (.int (nI n)) (.ref (ad 2002)) (.ref (ad 2003)) (.ref (ad 2004)) (.ref (ad 2005)) (.ref (ad 2006)) (.ref (ad 2007)) (.int kn) (.int ak) (.int s0) (.ref (ad 2008)) (.ref (ad 2009)) (.ref (ad 2010)) (.ref (ad 2011)) (.ref (ad 2012)) (.ref (ad 2013)) (.int z0) (.ref (ad 2014)) (.ref (ad 2015)) (.ref (ad 2016)) (.ref (ad 2017)) (.ref (ad 2018)) (.ref (ad 2019)) (.ref (ad 2020)) (.ref (ad 2021)) (.ref (ad 2022)) th (xs (i + 1)) (xs (i + 6)) (((xs (i + 2)).toInt64 <<< ((nI 32).toInt64 &&& 63)) ||| ((xs (i + 3)).toInt64 &&& lN 4294967295)) (((xs (i + 4)).toInt64 <<< ((nI 32).toInt64 &&& 63)) ||| ((xs (i + 5)).toInt64 &&& lN 4294967295)) h_mo hx9) ⟨(callB_of 4 hg (wd_goodG q_910) rfl rfl rfl (hg _ q_5) (hg _ q_907) (by decide +kernel) ⟨Nat.le_of_ble_eq_true rfl, Nat.le_of_ble_eq_true rfl⟩), hg _ q_908, hg _ q_909⟩ (mp_preV (C := R_M) (T := F_M) hI hK h_mo rfl [.int (xs (i + 1)), .long (((xs (i + 2)).toInt64 <<< ((nI 32).toInt64 &&& 63)) ||| ((xs (i + 3)).toInt64 &&& lN 4294967295)), .long (((xs (i + 4)).toInt64 <<< ((nI 32).toInt64 &&& 63)) ||| ((xs (i + 5)).toInt64 &&& lN 4294967295)), .int (xs (i + 6))]) rfl rfl hl.1 rfl (lv_room (Nat.le_of_ble_eq_true rfl)) d_L_law_282 ⟨by omega, by omega⟩) (fun r33 S30 H31 locs p_32 hI => ?_)
    obtain ⟨q_mo, fr⟩ := p_32
    have h_o : S30 o = some (0, .inr (0, [.int (nI nl), .ref pa, .ref lo, .ref fa0, .int (nI gv), .int (nI tk), .int fq, .int an, .int av, sv])) := (fr o (mp_in h_o) (mp_ne h_o h_mo (by omega))).trans h_o
    have h_pa : S30 pa = some (1, .inl ((g 2), 40, .inr (.inr (.inr (.inr (rfs eo 40)))))) := (fr pa (mp_in h_pa) (mp_ne h_pa h_mo (by omega))).trans h_pa
    have h_fa0 : S30 fa0 = some (3, .inl ((g 0), 3, .inl ff)) := (fr fa0 (mp_in h_fa0) (mp_ne h_fa0 h_mo (by omega))).trans h_fa0
    have h_oa : S30 oa = some (9, .inl ((g 4), 1, .inr (.inl of))) := (fr oa (mp_in h_oa) (mp_ne h_oa h_mo (by omega))).trans h_oa
    have h_mp : S30 (ad 2001) = some (2001, .inl ((g 0), 40000, .inl (fun j => nI (PO j).val))) := (fr (ad 2001) (mp_in h_mp) (mp_ne h_mp h_mo (by omega))).trans h_mp
    have h_le : S30 (ad 2008) = some (2008, .inl ((g 0), 17, .inl (fun j => nI (LF j)))) := (fr (ad 2008) (mp_in h_le) (mp_ne h_le h_mo (by omega))).trans h_le
    have h_dg : S30 (ad 2010) = some (2010, .inl ((g 0), 3, .inl (fun j => nI (DG j)))) := (fr (ad 2010) (mp_in h_dg) (mp_ne h_dg h_mo (by omega))).trans h_dg
    have h_lt : S30 (ad 2011) = some (2011, .inl ((g 0), 51, .inl (fun j => nI (LE j).val))) := (fr (ad 2011) (mp_in h_lt) (mp_ne h_lt h_mo (by omega))).trans h_lt
    have h_ze : S30 (ad 2014) = some (2014, .inl ((g 0), 51, .inl (fun j => nI (ZM j).val))) := (fr (ad 2014) (mp_in h_ze) (mp_ne h_ze h_mo (by omega))).trans h_ze
    have h_oq : S30 (ad 2015) = some (2015, .inl ((g 0), 17, .inl (fun j => nI (OF j)))) := (fr (ad 2015) (mp_in h_oq) (mp_ne h_oq h_mo (by omega))).trans h_oq
    have h_fv : S30 (ad 2016) = some (2016, .inl ((g 5), 3, .inl FV)) := (fr (ad 2016) (mp_in h_fv) (mp_ne h_fv h_mo (by omega))).trans h_fv
    have hP := gPs_kept hP (S1 := S30) (fun b t9 e9 hb9 h1 h2 => by have h8 : S30 b = some (t9, e9) := (fr b (mp_in hb9) (mp_ne hb9 h_mo (by omega))).trans hb9; rw [h8, hb9])
    have hL := gLs_kept hL (S1 := S30) (fun b t9 e9 hb9 h1 h2 => by have h8 : S30 b = some (t9, e9) := (fr b (mp_in hb9) (mp_ne hb9 h_mo (by omega))).trans hb9; rw [h8, hb9])
    have hM := gMs_kept hM (S1 := S30) (fun b t9 e9 hb9 h1 h2 => by have h8 : S30 b = some (t9, e9) := (fr b (mp_in hb9) (mp_ne hb9 h_mo (by omega))).trans hb9; rw [h8, hb9])
    have hWk := gWs_kept hWk (S1 := S30) (fun b t9 e9 hb9 h1 h2 => by have h8 : S30 b = some (t9, e9) := (fr b (mp_in hb9) (mp_ne hb9 h_mo (by omega))).trans hb9; rw [h8, hb9])
    have hA := anP_kept hA (S1 := S30) (fun b t9 e9 hb9 h1 h2 => by have h8 : S30 b = some (t9, e9) := (fr b (mp_in hb9) (mp_ne hb9 h_mo (by omega))).trans hb9; rw [h8, hb9])
    have h_mo := q_mo
    refine lv_istore (lv' := [(6, .int r33), (5, .int (nI 1)), (4, .int (nI i)), (3, .ref oa), (2, .ref mo), (1, .ref o), (0, .ref b)]) hx hb d_L_law_285 hl (by decide) rfl (fun ls hl => ?_)
    refine lv_aload_n hx hb d_L_law_287 rfl (lv_at hl 4 rfl) ?_
    refine mp_calli hI (va_runV (As := []) (rest := []) ⟨hx, hb, hml, hown, hg⟩ (c_M_thrown l D g S30 _ mo (.int (nI nl)) (.int (nI gv)) (.int (nI tk)) (.ref (ad 2001)) (.int (nI n)) (.ref (ad 2002)) (.ref (ad 2003)) (.ref (ad 2004)) (.ref (ad 2005)) (.ref (ad 2006)) (.ref (ad 2007)) (.int kn) (.int ak) (.int s0) (.ref (ad 2008)) (.ref (ad 2009)) (.ref (ad 2010)) (.ref (ad 2011)) (.ref (ad 2012)) (.ref (ad 2013)) (.int z0) (.ref (ad 2014)) (.ref (ad 2015)) (.ref (ad 2016)) (.ref (ad 2017)) (.ref (ad 2018)) (.ref (ad 2019)) (.ref (ad 2020)) (.ref (ad 2021)) (.ref (ad 2022)) (nI 1) h_mo) ⟨(callB_of 0 hg (wd_goodG q_902) rfl rfl rfl (hg _ q_5) (hg _ q_899) (by decide +kernel) ⟨Nat.le_of_ble_eq_true rfl, Nat.le_of_ble_eq_true rfl⟩), hg _ q_900, hg _ q_901⟩ (mp_preV (C := R_M) (T := F_M) hI hK h_mo rfl []) rfl rfl hl.1 rfl (lv_room (Nat.le_of_ble_eq_true rfl)) d_L_law_288 ⟨by omega, by omega⟩) (fun r37 S34 H35 locs p_36 hI => ?_)
    obtain ⟨er37, eS38⟩ := p_36
    rw [eS38] at hI
    have er37 : r37 = nI 1 := er37
    subst er37
    refine lv_iload hx hb d_L_law_291 (lv_at hl 1 rfl) ?_
    refine lv_icmp_eq (tgt := 298) hx hb d_L_law_293 (by decide) (fun _ => ?_) (fun h9 => absurd (rfl) h9)
    refine lv_iload hx hb d_L_law_298 (lv_at hl 1 rfl) ?_
    refine lv_if_ne (tgt := 322) hx hb d_L_law_300 (by decide) (fun _ => ?_) (fun h9 => absurd h9 (by decide))
    refine lv_goto (tgt := 822) hx hb d_L_law_322 (by decide) ?_
    refine W.widen (k := cells + 189) (n := slots + 11130) (by omega) (by omega) ?_
    exact kx S30 _ _ ls ⟨(pa), (lo), (fa0), (ma), (hd), (eo), (me), (ad), (cf), (gv), (tk), (n), (fq), (an), (av), (sv), (ff), (hq), (zq), (mq), (cq), (nI 1), (kn), (ak), (s0), (z0), (PO), (LF), (DG), (LE), (ZM), (OF), (FV), (of), h_o, h_pa, h_fa0, h_oa, h_mo, h_mp, h_le, h_dg, h_lt, h_ze, h_oq, h_fv, hP, hL, hM, hWk, hA, hgv, htk, hnt, hR, hI9, hIn, hF9⟩ hI (lv_sub hl [2, 3, 4, 5, 6] rfl)
  · rcases i32_nn (xs (i + 6)) with hy | ⟨v, hv, hxv⟩
    · refine lv_aload_n hx hb d_L_law_160 rfl (lv_at hl 3 rfl) ?_
      refine lv_aload_n hx hb d_L_law_161 rfl (lv_at hl 4 rfl) ?_
      refine lv_iload hx hb d_L_law_162 (lv_at hl 0 rfl) ?_
      refine lv_iconst (v := nI 1) hx hb d_L_law_164 (by decide) ?_
      refine lv_iadd hx hb d_L_law_165 ?_
      refine lv_topi (fun v39 ev39 => ?_)
      obtain rfl : v39 = nI (i + 1) := ev39.trans (nI_add _ _)
      refine mp_sld hx hb hX hK hI (vp_in_nI (show (i + 1) < L by omega) (by omega)) d_L_law_166 ?_
      refine lv_topi (fun v40 ev40 => ?_)
      obtain rfl : v40 = xs (i + 1) := ev40.trans (by rw [nI_clamp (by omega)])
      refine lv_topi (fun v41 ev41 => ?_)
      obtain rfl : v41 = nI k9 := ev41.trans (hxk)
      refine lv_aload_n hx hb d_L_law_167 rfl (lv_at hl 4 rfl) ?_
      refine lv_iload hx hb d_L_law_168 (lv_at hl 0 rfl) ?_
      refine lv_iconst (v := nI 2) hx hb d_L_law_170 (by decide) ?_
      refine lv_iadd hx hb d_L_law_171 ?_
      refine lv_topi (fun v42 ev42 => ?_)
      obtain rfl : v42 = nI (i + 2) := ev42.trans (nI_add _ _)
      refine mp_sld hx hb hX hK hI (vp_in_nI (show (i + 2) < L by omega) (by omega)) d_L_law_172 ?_
      refine lv_topi (fun v43 ev43 => ?_)
      obtain rfl : v43 = xs (i + 2) := ev43.trans (by rw [nI_clamp (by omega)])
      refine lv_i2l (v := (xs (i + 2)).toInt64) hx hb d_L_law_173 rfl ?_
      refine lv_bipush (v := nI 32) hx hb d_L_law_174 (by decide) ?_
      refine lv_lshl (v := ((xs (i + 2)).toInt64 <<< ((nI 32).toInt64 &&& 63))) hx hb d_L_law_176 rfl ?_
      refine lv_aload_n hx hb d_L_law_177 rfl (lv_at hl 4 rfl) ?_
      refine lv_iload hx hb d_L_law_178 (lv_at hl 0 rfl) ?_
      refine lv_iconst (v := nI 3) hx hb d_L_law_180 (by decide) ?_
      refine lv_iadd hx hb d_L_law_181 ?_
      refine lv_topi (fun v44 ev44 => ?_)
      obtain rfl : v44 = nI (i + 3) := ev44.trans (nI_add _ _)
      refine mp_sld hx hb hX hK hI (vp_in_nI (show (i + 3) < L by omega) (by omega)) d_L_law_182 ?_
      refine lv_topi (fun v45 ev45 => ?_)
      obtain rfl : v45 = xs (i + 3) := ev45.trans (by rw [nI_clamp (by omega)])
      refine lv_i2l (v := (xs (i + 3)).toInt64) hx hb d_L_law_183 rfl ?_
      refine lv_ldc2 (v := lN 4294967295) hx hb hown (hg _ q_1107) d_L_law_184 ?_
      refine lv_land hx hb d_L_law_187 ?_
      refine lv_lor hx hb d_L_law_188 ?_
      refine lv_aload_n hx hb d_L_law_189 rfl (lv_at hl 4 rfl) ?_
      refine lv_iload hx hb d_L_law_190 (lv_at hl 0 rfl) ?_
      refine lv_iconst (v := nI 4) hx hb d_L_law_192 (by decide) ?_
      refine lv_iadd hx hb d_L_law_193 ?_
      refine lv_topi (fun v46 ev46 => ?_)
      obtain rfl : v46 = nI (i + 4) := ev46.trans (nI_add _ _)
      refine mp_sld hx hb hX hK hI (vp_in_nI (show (i + 4) < L by omega) (by omega)) d_L_law_194 ?_
      refine lv_topi (fun v47 ev47 => ?_)
      obtain rfl : v47 = xs (i + 4) := ev47.trans (by rw [nI_clamp (by omega)])
      refine lv_i2l (v := (xs (i + 4)).toInt64) hx hb d_L_law_195 rfl ?_
      refine lv_bipush (v := nI 32) hx hb d_L_law_196 (by decide) ?_
      refine lv_lshl (v := ((xs (i + 4)).toInt64 <<< ((nI 32).toInt64 &&& 63))) hx hb d_L_law_198 rfl ?_
      refine lv_aload_n hx hb d_L_law_199 rfl (lv_at hl 4 rfl) ?_
      refine lv_iload hx hb d_L_law_200 (lv_at hl 0 rfl) ?_
      refine lv_iconst (v := nI 5) hx hb d_L_law_202 (by decide) ?_
      refine lv_iadd hx hb d_L_law_203 ?_
      refine lv_topi (fun v48 ev48 => ?_)
      obtain rfl : v48 = nI (i + 5) := ev48.trans (nI_add _ _)
      refine mp_sld hx hb hX hK hI (vp_in_nI (show (i + 5) < L by omega) (by omega)) d_L_law_204 ?_
      refine lv_topi (fun v49 ev49 => ?_)
      obtain rfl : v49 = xs (i + 5) := ev49.trans (by rw [nI_clamp (by omega)])
      refine lv_i2l (v := (xs (i + 5)).toInt64) hx hb d_L_law_205 rfl ?_
      refine lv_ldc2 (v := lN 4294967295) hx hb hown (hg _ q_1107) d_L_law_206 ?_
      refine lv_land hx hb d_L_law_209 ?_
      refine lv_lor hx hb d_L_law_210 ?_
      refine lv_aload_n hx hb d_L_law_211 rfl (lv_at hl 4 rfl) ?_
      refine lv_iload hx hb d_L_law_212 (lv_at hl 0 rfl) ?_
      refine lv_bipush (v := nI 6) hx hb d_L_law_214 (by decide) ?_
      refine lv_iadd hx hb d_L_law_216 ?_
      refine lv_topi (fun v50 ev50 => ?_)
      obtain rfl : v50 = nI (i + 6) := ev50.trans (nI_add _ _)
      refine mp_sld hx hb hX hK hI (vp_in_nI (show (i + 6) < L by omega) (by omega)) d_L_law_217 ?_
      refine lv_topi (fun v51 ev51 => ?_)
      obtain rfl : v51 = xs (i + 6) := ev51.trans (by rw [nI_clamp (by omega)])
      refine lv_aload_n hx hb d_L_law_218 rfl (lv_at hl 1 rfl) ?_
      refine mp_calli hI (lw_runS (As := [.ref o, .int (nI k9), .long (((xs (i + 2)).toInt64 <<< ((nI 32).toInt64 &&& 63)) ||| ((xs (i + 3)).toInt64 &&& lN 4294967295)), .long (((xs (i + 4)).toInt64 <<< ((nI 32).toInt64 &&& 63)) ||| ((xs (i + 5)).toInt64 &&& lN 4294967295)), .int (xs (i + 6)), .ref oa]) (rest := []) ⟨hx, hb, hml, hown, hg⟩ (c_L_termN l D g S _ o pa nl eo (.ref lo) (.ref fa0) (.int (nI gv)) (.int (nI tk)) (.int fq) (.int an) (.int av) (sv) k9 (xs (i + 6)) (((xs (i + 2)).toInt64 <<< ((nI 32).toInt64 &&& 63)) ||| ((xs (i + 3)).toInt64 &&& lN 4294967295)) (((xs (i + 4)).toInt64 <<< ((nI 32).toInt64 &&& 63)) ||| ((xs (i + 5)).toInt64 &&& lN 4294967295)) oa of h_o h_pa h_oa hl9 hk9 hy) ⟨callBW_of 6 hg (hts _ q_621) rfl rfl (hg _ q_0) (hg _ q_619) (by decide +kernel) ⟨Nat.le_of_ble_eq_true rfl, Nat.le_of_ble_eq_true rfl⟩, hg _ q_620⟩ (mp_pre hI hK [.ref o, .int (nI k9), .long (((xs (i + 2)).toInt64 <<< ((nI 32).toInt64 &&& 63)) ||| ((xs (i + 3)).toInt64 &&& lN 4294967295)), .long (((xs (i + 4)).toInt64 <<< ((nI 32).toInt64 &&& 63)) ||| ((xs (i + 5)).toInt64 &&& lN 4294967295)), .int (xs (i + 6)), .ref oa]) rfl rfl hl.1 rfl (lv_room (Nat.le_of_ble_eq_true rfl)) d_L_law_219 ⟨by omega, by omega⟩) (fun r55 S52 H53 locs p_54 hI => ?_)
      obtain ⟨er55, eS56⟩ := p_54
      rw [eS56] at hI
      have er55 : r55 = nI 2 := er55
      subst er55
      refine lv_istore (lv' := [(5, .int (nI 2)), (4, .int (nI i)), (3, .ref oa), (2, .ref mo), (1, .ref o), (0, .ref b)]) hx hb d_L_law_222 hl (by decide) rfl (fun ls hl => ?_)
      refine lv_aload_n hx hb d_L_law_224 rfl (lv_at hl 3 rfl) ?_
      refine lv_aload_n hx hb d_L_law_225 rfl (lv_at hl 5 rfl) ?_
      refine lv_iload hx hb d_L_law_226 (lv_at hl 1 rfl) ?_
      refine lv_iconst (v := nI 1) hx hb d_L_law_228 (by decide) ?_
      refine lv_iadd hx hb d_L_law_229 ?_
      refine lv_topi (fun v57 ev57 => ?_)
      obtain rfl : v57 = nI (i + 1) := ev57.trans (nI_add _ _)
      refine mp_sld hx hb hX hK hI (vp_in_nI (show (i + 1) < L by omega) (by omega)) d_L_law_230 ?_
      refine lv_topi (fun v58 ev58 => ?_)
      obtain rfl : v58 = xs (i + 1) := ev58.trans (by rw [nI_clamp (by omega)])
      refine lv_topi (fun v59 ev59 => ?_)
      obtain rfl : v59 = nI k9 := ev59.trans (hxk)
      refine lv_aload_n hx hb d_L_law_231 rfl (lv_at hl 5 rfl) ?_
      refine lv_iload hx hb d_L_law_232 (lv_at hl 1 rfl) ?_
      refine lv_iconst (v := nI 2) hx hb d_L_law_234 (by decide) ?_
      refine lv_iadd hx hb d_L_law_235 ?_
      refine lv_topi (fun v60 ev60 => ?_)
      obtain rfl : v60 = nI (i + 2) := ev60.trans (nI_add _ _)
      refine mp_sld hx hb hX hK hI (vp_in_nI (show (i + 2) < L by omega) (by omega)) d_L_law_236 ?_
      refine lv_topi (fun v61 ev61 => ?_)
      obtain rfl : v61 = xs (i + 2) := ev61.trans (by rw [nI_clamp (by omega)])
      refine lv_i2l (v := (xs (i + 2)).toInt64) hx hb d_L_law_237 rfl ?_
      refine lv_bipush (v := nI 32) hx hb d_L_law_238 (by decide) ?_
      refine lv_lshl (v := ((xs (i + 2)).toInt64 <<< ((nI 32).toInt64 &&& 63))) hx hb d_L_law_240 rfl ?_
      refine lv_aload_n hx hb d_L_law_241 rfl (lv_at hl 5 rfl) ?_
      refine lv_iload hx hb d_L_law_242 (lv_at hl 1 rfl) ?_
      refine lv_iconst (v := nI 3) hx hb d_L_law_244 (by decide) ?_
      refine lv_iadd hx hb d_L_law_245 ?_
      refine lv_topi (fun v62 ev62 => ?_)
      obtain rfl : v62 = nI (i + 3) := ev62.trans (nI_add _ _)
      refine mp_sld hx hb hX hK hI (vp_in_nI (show (i + 3) < L by omega) (by omega)) d_L_law_246 ?_
      refine lv_topi (fun v63 ev63 => ?_)
      obtain rfl : v63 = xs (i + 3) := ev63.trans (by rw [nI_clamp (by omega)])
      refine lv_i2l (v := (xs (i + 3)).toInt64) hx hb d_L_law_247 rfl ?_
      refine lv_ldc2 (v := lN 4294967295) hx hb hown (hg _ q_1107) d_L_law_248 ?_
      refine lv_land hx hb d_L_law_251 ?_
      refine lv_lor hx hb d_L_law_252 ?_
      refine lv_aload_n hx hb d_L_law_253 rfl (lv_at hl 5 rfl) ?_
      refine lv_iload hx hb d_L_law_254 (lv_at hl 1 rfl) ?_
      refine lv_iconst (v := nI 4) hx hb d_L_law_256 (by decide) ?_
      refine lv_iadd hx hb d_L_law_257 ?_
      refine lv_topi (fun v64 ev64 => ?_)
      obtain rfl : v64 = nI (i + 4) := ev64.trans (nI_add _ _)
      refine mp_sld hx hb hX hK hI (vp_in_nI (show (i + 4) < L by omega) (by omega)) d_L_law_258 ?_
      refine lv_topi (fun v65 ev65 => ?_)
      obtain rfl : v65 = xs (i + 4) := ev65.trans (by rw [nI_clamp (by omega)])
      refine lv_i2l (v := (xs (i + 4)).toInt64) hx hb d_L_law_259 rfl ?_
      refine lv_bipush (v := nI 32) hx hb d_L_law_260 (by decide) ?_
      refine lv_lshl (v := ((xs (i + 4)).toInt64 <<< ((nI 32).toInt64 &&& 63))) hx hb d_L_law_262 rfl ?_
      refine lv_aload_n hx hb d_L_law_263 rfl (lv_at hl 5 rfl) ?_
      refine lv_iload hx hb d_L_law_264 (lv_at hl 1 rfl) ?_
      refine lv_iconst (v := nI 5) hx hb d_L_law_266 (by decide) ?_
      refine lv_iadd hx hb d_L_law_267 ?_
      refine lv_topi (fun v66 ev66 => ?_)
      obtain rfl : v66 = nI (i + 5) := ev66.trans (nI_add _ _)
      refine mp_sld hx hb hX hK hI (vp_in_nI (show (i + 5) < L by omega) (by omega)) d_L_law_268 ?_
      refine lv_topi (fun v67 ev67 => ?_)
      obtain rfl : v67 = xs (i + 5) := ev67.trans (by rw [nI_clamp (by omega)])
      refine lv_i2l (v := (xs (i + 5)).toInt64) hx hb d_L_law_269 rfl ?_
      refine lv_ldc2 (v := lN 4294967295) hx hb hown (hg _ q_1107) d_L_law_270 ?_
      refine lv_land hx hb d_L_law_273 ?_
      refine lv_lor hx hb d_L_law_274 ?_
      refine lv_aload_n hx hb d_L_law_275 rfl (lv_at hl 5 rfl) ?_
      refine lv_iload hx hb d_L_law_276 (lv_at hl 1 rfl) ?_
      refine lv_bipush (v := nI 6) hx hb d_L_law_278 (by decide) ?_
      refine lv_iadd hx hb d_L_law_280 ?_
      refine lv_topi (fun v68 ev68 => ?_)
      obtain rfl : v68 = nI (i + 6) := ev68.trans (nI_add _ _)
      refine mp_sld hx hb hX hK hI (vp_in_nI (show (i + 6) < L by omega) (by omega)) d_L_law_281 ?_
      refine lv_topi (fun v69 ev69 => ?_)
      obtain rfl : v69 = xs (i + 6) := ev69.trans (by rw [nI_clamp (by omega)])
      refine mp_calli hI (va_runV (As := [.int (nI k9), .long (((xs (i + 2)).toInt64 <<< ((nI 32).toInt64 &&& 63)) ||| ((xs (i + 3)).toInt64 &&& lN 4294967295)), .long (((xs (i + 4)).toInt64 <<< ((nI 32).toInt64 &&& 63)) ||| ((xs (i + 5)).toInt64 &&& lN 4294967295)), .int (xs (i + 6))]) (rest := []) ⟨hx, hb, hml, hown, hg⟩ (c_M_termN l D g S _ mo nl k9 (.int (nI gv)) (.int (nI tk)) (.ref (ad 2001)) (.int (nI n)) (.ref (ad 2002)) (.ref (ad 2003)) (.ref (ad 2004)) (.ref (ad 2005)) (.ref (ad 2006)) (.ref (ad 2007)) (.int kn) (.int ak) (.int s0) (.ref (ad 2008)) (.ref (ad 2009)) (.ref (ad 2010)) (.ref (ad 2011)) (.ref (ad 2012)) (.ref (ad 2013)) (.int z0) (.ref (ad 2014)) (.ref (ad 2015)) (.ref (ad 2016)) (.ref (ad 2017)) (.ref (ad 2018)) (.ref (ad 2019)) (.ref (ad 2020)) (.ref (ad 2021)) (.ref (ad 2022)) th (xs (i + 6)) (((xs (i + 2)).toInt64 <<< ((nI 32).toInt64 &&& 63)) ||| ((xs (i + 3)).toInt64 &&& lN 4294967295)) (((xs (i + 4)).toInt64 <<< ((nI 32).toInt64 &&& 63)) ||| ((xs (i + 5)).toInt64 &&& lN 4294967295)) h_mo hk9 hy) ⟨(callB_of 4 hg (wd_goodG q_910) rfl rfl rfl (hg _ q_5) (hg _ q_907) (by decide +kernel) ⟨Nat.le_of_ble_eq_true rfl, Nat.le_of_ble_eq_true rfl⟩), hg _ q_908, hg _ q_909⟩ (mp_preV (C := R_M) (T := F_M) hI hK h_mo rfl [.int (nI k9), .long (((xs (i + 2)).toInt64 <<< ((nI 32).toInt64 &&& 63)) ||| ((xs (i + 3)).toInt64 &&& lN 4294967295)), .long (((xs (i + 4)).toInt64 <<< ((nI 32).toInt64 &&& 63)) ||| ((xs (i + 5)).toInt64 &&& lN 4294967295)), .int (xs (i + 6))]) rfl rfl hl.1 rfl (lv_room (Nat.le_of_ble_eq_true rfl)) d_L_law_282 ⟨by omega, by omega⟩) (fun r73 S70 H71 locs p_72 hI => ?_)
      obtain ⟨q_mo, fr⟩ := p_72
      have h_o : S70 o = some (0, .inr (0, [.int (nI nl), .ref pa, .ref lo, .ref fa0, .int (nI gv), .int (nI tk), .int fq, .int an, .int av, sv])) := (fr o (mp_in h_o) (mp_ne h_o h_mo (by omega))).trans h_o
      have h_pa : S70 pa = some (1, .inl ((g 2), 40, .inr (.inr (.inr (.inr (rfs eo 40)))))) := (fr pa (mp_in h_pa) (mp_ne h_pa h_mo (by omega))).trans h_pa
      have h_fa0 : S70 fa0 = some (3, .inl ((g 0), 3, .inl ff)) := (fr fa0 (mp_in h_fa0) (mp_ne h_fa0 h_mo (by omega))).trans h_fa0
      have h_oa : S70 oa = some (9, .inl ((g 4), 1, .inr (.inl of))) := (fr oa (mp_in h_oa) (mp_ne h_oa h_mo (by omega))).trans h_oa
      have h_mp : S70 (ad 2001) = some (2001, .inl ((g 0), 40000, .inl (fun j => nI (PO j).val))) := (fr (ad 2001) (mp_in h_mp) (mp_ne h_mp h_mo (by omega))).trans h_mp
      have h_le : S70 (ad 2008) = some (2008, .inl ((g 0), 17, .inl (fun j => nI (LF j)))) := (fr (ad 2008) (mp_in h_le) (mp_ne h_le h_mo (by omega))).trans h_le
      have h_dg : S70 (ad 2010) = some (2010, .inl ((g 0), 3, .inl (fun j => nI (DG j)))) := (fr (ad 2010) (mp_in h_dg) (mp_ne h_dg h_mo (by omega))).trans h_dg
      have h_lt : S70 (ad 2011) = some (2011, .inl ((g 0), 51, .inl (fun j => nI (LE j).val))) := (fr (ad 2011) (mp_in h_lt) (mp_ne h_lt h_mo (by omega))).trans h_lt
      have h_ze : S70 (ad 2014) = some (2014, .inl ((g 0), 51, .inl (fun j => nI (ZM j).val))) := (fr (ad 2014) (mp_in h_ze) (mp_ne h_ze h_mo (by omega))).trans h_ze
      have h_oq : S70 (ad 2015) = some (2015, .inl ((g 0), 17, .inl (fun j => nI (OF j)))) := (fr (ad 2015) (mp_in h_oq) (mp_ne h_oq h_mo (by omega))).trans h_oq
      have h_fv : S70 (ad 2016) = some (2016, .inl ((g 5), 3, .inl FV)) := (fr (ad 2016) (mp_in h_fv) (mp_ne h_fv h_mo (by omega))).trans h_fv
      have hP := gPs_kept hP (S1 := S70) (fun b t9 e9 hb9 h1 h2 => by have h8 : S70 b = some (t9, e9) := (fr b (mp_in hb9) (mp_ne hb9 h_mo (by omega))).trans hb9; rw [h8, hb9])
      have hL := gLs_kept hL (S1 := S70) (fun b t9 e9 hb9 h1 h2 => by have h8 : S70 b = some (t9, e9) := (fr b (mp_in hb9) (mp_ne hb9 h_mo (by omega))).trans hb9; rw [h8, hb9])
      have hM := gMs_kept hM (S1 := S70) (fun b t9 e9 hb9 h1 h2 => by have h8 : S70 b = some (t9, e9) := (fr b (mp_in hb9) (mp_ne hb9 h_mo (by omega))).trans hb9; rw [h8, hb9])
      have hWk := gWs_kept hWk (S1 := S70) (fun b t9 e9 hb9 h1 h2 => by have h8 : S70 b = some (t9, e9) := (fr b (mp_in hb9) (mp_ne hb9 h_mo (by omega))).trans hb9; rw [h8, hb9])
      have hA := anP_kept hA (S1 := S70) (fun b t9 e9 hb9 h1 h2 => by have h8 : S70 b = some (t9, e9) := (fr b (mp_in hb9) (mp_ne hb9 h_mo (by omega))).trans hb9; rw [h8, hb9])
      have h_mo := q_mo
      refine lv_istore (lv' := [(6, .int r73), (5, .int (nI 2)), (4, .int (nI i)), (3, .ref oa), (2, .ref mo), (1, .ref o), (0, .ref b)]) hx hb d_L_law_285 hl (by decide) rfl (fun ls hl => ?_)
      refine lv_aload_n hx hb d_L_law_287 rfl (lv_at hl 4 rfl) ?_
      refine mp_calli hI (va_runV (As := []) (rest := []) ⟨hx, hb, hml, hown, hg⟩ (c_M_thrown l D g S70 _ mo (.int (nI nl)) (.int (nI gv)) (.int (nI tk)) (.ref (ad 2001)) (.int (nI n)) (.ref (ad 2002)) (.ref (ad 2003)) (.ref (ad 2004)) (.ref (ad 2005)) (.ref (ad 2006)) (.ref (ad 2007)) (.int kn) (.int ak) (.int s0) (.ref (ad 2008)) (.ref (ad 2009)) (.ref (ad 2010)) (.ref (ad 2011)) (.ref (ad 2012)) (.ref (ad 2013)) (.int z0) (.ref (ad 2014)) (.ref (ad 2015)) (.ref (ad 2016)) (.ref (ad 2017)) (.ref (ad 2018)) (.ref (ad 2019)) (.ref (ad 2020)) (.ref (ad 2021)) (.ref (ad 2022)) (nI 2) h_mo) ⟨(callB_of 0 hg (wd_goodG q_902) rfl rfl rfl (hg _ q_5) (hg _ q_899) (by decide +kernel) ⟨Nat.le_of_ble_eq_true rfl, Nat.le_of_ble_eq_true rfl⟩), hg _ q_900, hg _ q_901⟩ (mp_preV (C := R_M) (T := F_M) hI hK h_mo rfl []) rfl rfl hl.1 rfl (lv_room (Nat.le_of_ble_eq_true rfl)) d_L_law_288 ⟨by omega, by omega⟩) (fun r77 S74 H75 locs p_76 hI => ?_)
      obtain ⟨er77, eS78⟩ := p_76
      rw [eS78] at hI
      have er77 : r77 = nI 2 := er77
      subst er77
      refine lv_iload hx hb d_L_law_291 (lv_at hl 1 rfl) ?_
      refine lv_icmp_eq (tgt := 298) hx hb d_L_law_293 (by decide) (fun _ => ?_) (fun h9 => absurd (rfl) h9)
      refine lv_iload hx hb d_L_law_298 (lv_at hl 1 rfl) ?_
      refine lv_if_ne (tgt := 322) hx hb d_L_law_300 (by decide) (fun _ => ?_) (fun h9 => absurd h9 (by decide))
      refine lv_goto (tgt := 822) hx hb d_L_law_322 (by decide) ?_
      refine W.widen (k := cells + 189) (n := slots + 11130) (by omega) (by omega) ?_
      exact kx S70 _ _ ls ⟨(pa), (lo), (fa0), (ma), (hd), (eo), (me), (ad), (cf), (gv), (tk), (n), (fq), (an), (av), (sv), (ff), (hq), (zq), (mq), (cq), (nI 2), (kn), (ak), (s0), (z0), (PO), (LF), (DG), (LE), (ZM), (OF), (FV), (of), h_o, h_pa, h_fa0, h_oa, h_mo, h_mp, h_le, h_dg, h_lt, h_ze, h_oq, h_fv, hP, hL, hM, hWk, hA, hgv, htk, hnt, hR, hI9, hIn, hF9⟩ hI (lv_sub hl [2, 3, 4, 5, 6] rfl)
    · by_cases hp : pwOk nl v
      · by_cases hz : rsN (((xs (i + 4)).toInt64 <<< ((nI 32).toInt64 &&& 63)) ||| ((xs (i + 5)).toInt64 &&& lN 4294967295)) = 0
        · refine lv_aload_n hx hb d_L_law_160 rfl (lv_at hl 3 rfl) ?_
          refine lv_aload_n hx hb d_L_law_161 rfl (lv_at hl 4 rfl) ?_
          refine lv_iload hx hb d_L_law_162 (lv_at hl 0 rfl) ?_
          refine lv_iconst (v := nI 1) hx hb d_L_law_164 (by decide) ?_
          refine lv_iadd hx hb d_L_law_165 ?_
          refine lv_topi (fun v121 ev121 => ?_)
          obtain rfl : v121 = nI (i + 1) := ev121.trans (nI_add _ _)
          refine mp_sld hx hb hX hK hI (vp_in_nI (show (i + 1) < L by omega) (by omega)) d_L_law_166 ?_
          refine lv_topi (fun v122 ev122 => ?_)
          obtain rfl : v122 = xs (i + 1) := ev122.trans (by rw [nI_clamp (by omega)])
          refine lv_topi (fun v123 ev123 => ?_)
          obtain rfl : v123 = nI k9 := ev123.trans (hxk)
          refine lv_aload_n hx hb d_L_law_167 rfl (lv_at hl 4 rfl) ?_
          refine lv_iload hx hb d_L_law_168 (lv_at hl 0 rfl) ?_
          refine lv_iconst (v := nI 2) hx hb d_L_law_170 (by decide) ?_
          refine lv_iadd hx hb d_L_law_171 ?_
          refine lv_topi (fun v124 ev124 => ?_)
          obtain rfl : v124 = nI (i + 2) := ev124.trans (nI_add _ _)
          refine mp_sld hx hb hX hK hI (vp_in_nI (show (i + 2) < L by omega) (by omega)) d_L_law_172 ?_
          refine lv_topi (fun v125 ev125 => ?_)
          obtain rfl : v125 = xs (i + 2) := ev125.trans (by rw [nI_clamp (by omega)])
          refine lv_i2l (v := (xs (i + 2)).toInt64) hx hb d_L_law_173 rfl ?_
          refine lv_bipush (v := nI 32) hx hb d_L_law_174 (by decide) ?_
          refine lv_lshl (v := ((xs (i + 2)).toInt64 <<< ((nI 32).toInt64 &&& 63))) hx hb d_L_law_176 rfl ?_
          refine lv_aload_n hx hb d_L_law_177 rfl (lv_at hl 4 rfl) ?_
          refine lv_iload hx hb d_L_law_178 (lv_at hl 0 rfl) ?_
          refine lv_iconst (v := nI 3) hx hb d_L_law_180 (by decide) ?_
          refine lv_iadd hx hb d_L_law_181 ?_
          refine lv_topi (fun v126 ev126 => ?_)
          obtain rfl : v126 = nI (i + 3) := ev126.trans (nI_add _ _)
          refine mp_sld hx hb hX hK hI (vp_in_nI (show (i + 3) < L by omega) (by omega)) d_L_law_182 ?_
          refine lv_topi (fun v127 ev127 => ?_)
          obtain rfl : v127 = xs (i + 3) := ev127.trans (by rw [nI_clamp (by omega)])
          refine lv_i2l (v := (xs (i + 3)).toInt64) hx hb d_L_law_183 rfl ?_
          refine lv_ldc2 (v := lN 4294967295) hx hb hown (hg _ q_1107) d_L_law_184 ?_
          refine lv_land hx hb d_L_law_187 ?_
          refine lv_lor hx hb d_L_law_188 ?_
          refine lv_aload_n hx hb d_L_law_189 rfl (lv_at hl 4 rfl) ?_
          refine lv_iload hx hb d_L_law_190 (lv_at hl 0 rfl) ?_
          refine lv_iconst (v := nI 4) hx hb d_L_law_192 (by decide) ?_
          refine lv_iadd hx hb d_L_law_193 ?_
          refine lv_topi (fun v128 ev128 => ?_)
          obtain rfl : v128 = nI (i + 4) := ev128.trans (nI_add _ _)
          refine mp_sld hx hb hX hK hI (vp_in_nI (show (i + 4) < L by omega) (by omega)) d_L_law_194 ?_
          refine lv_topi (fun v129 ev129 => ?_)
          obtain rfl : v129 = xs (i + 4) := ev129.trans (by rw [nI_clamp (by omega)])
          refine lv_i2l (v := (xs (i + 4)).toInt64) hx hb d_L_law_195 rfl ?_
          refine lv_bipush (v := nI 32) hx hb d_L_law_196 (by decide) ?_
          refine lv_lshl (v := ((xs (i + 4)).toInt64 <<< ((nI 32).toInt64 &&& 63))) hx hb d_L_law_198 rfl ?_
          refine lv_aload_n hx hb d_L_law_199 rfl (lv_at hl 4 rfl) ?_
          refine lv_iload hx hb d_L_law_200 (lv_at hl 0 rfl) ?_
          refine lv_iconst (v := nI 5) hx hb d_L_law_202 (by decide) ?_
          refine lv_iadd hx hb d_L_law_203 ?_
          refine lv_topi (fun v130 ev130 => ?_)
          obtain rfl : v130 = nI (i + 5) := ev130.trans (nI_add _ _)
          refine mp_sld hx hb hX hK hI (vp_in_nI (show (i + 5) < L by omega) (by omega)) d_L_law_204 ?_
          refine lv_topi (fun v131 ev131 => ?_)
          obtain rfl : v131 = xs (i + 5) := ev131.trans (by rw [nI_clamp (by omega)])
          refine lv_i2l (v := (xs (i + 5)).toInt64) hx hb d_L_law_205 rfl ?_
          refine lv_ldc2 (v := lN 4294967295) hx hb hown (hg _ q_1107) d_L_law_206 ?_
          refine lv_land hx hb d_L_law_209 ?_
          refine lv_lor hx hb d_L_law_210 ?_
          refine lv_aload_n hx hb d_L_law_211 rfl (lv_at hl 4 rfl) ?_
          refine lv_iload hx hb d_L_law_212 (lv_at hl 0 rfl) ?_
          refine lv_bipush (v := nI 6) hx hb d_L_law_214 (by decide) ?_
          refine lv_iadd hx hb d_L_law_216 ?_
          refine lv_topi (fun v132 ev132 => ?_)
          obtain rfl : v132 = nI (i + 6) := ev132.trans (nI_add _ _)
          refine mp_sld hx hb hX hK hI (vp_in_nI (show (i + 6) < L by omega) (by omega)) d_L_law_217 ?_
          refine lv_topi (fun v133 ev133 => ?_)
          obtain rfl : v133 = xs (i + 6) := ev133.trans (by rw [nI_clamp (by omega)])
          refine lv_topi (fun v134 ev134 => ?_)
          obtain rfl : v134 = nI v := ev134.trans (hxv)
          refine lv_aload_n hx hb d_L_law_218 rfl (lv_at hl 1 rfl) ?_
          refine mp_calli hI (lw_runS (As := [.ref o, .int (nI k9), .long (((xs (i + 2)).toInt64 <<< ((nI 32).toInt64 &&& 63)) ||| ((xs (i + 3)).toInt64 &&& lN 4294967295)), .long (((xs (i + 4)).toInt64 <<< ((nI 32).toInt64 &&& 63)) ||| ((xs (i + 5)).toInt64 &&& lN 4294967295)), .int (nI v), .ref oa]) (rest := []) ⟨hx, hb, hml, hown, hg⟩ (c_L_termM l D g S _ o pa nl eo (.ref lo) (.ref fa0) (.int (nI gv)) (.int (nI tk)) (.int fq) (.int an) (.int av) (sv) k9 v (((xs (i + 2)).toInt64 <<< ((nI 32).toInt64 &&& 63)) ||| ((xs (i + 3)).toInt64 &&& lN 4294967295)) (((xs (i + 4)).toInt64 <<< ((nI 32).toInt64 &&& 63)) ||| ((xs (i + 5)).toInt64 &&& lN 4294967295)) oa of h_o h_pa h_oa hl9 hk9 hv (by omega) (by omega) hp hz) ⟨callBW_of 6 hg (hts _ q_621) rfl rfl (hg _ q_0) (hg _ q_619) (by decide +kernel) ⟨Nat.le_of_ble_eq_true rfl, Nat.le_of_ble_eq_true rfl⟩, hg _ q_620⟩ (mp_pre hI hK [.ref o, .int (nI k9), .long (((xs (i + 2)).toInt64 <<< ((nI 32).toInt64 &&& 63)) ||| ((xs (i + 3)).toInt64 &&& lN 4294967295)), .long (((xs (i + 4)).toInt64 <<< ((nI 32).toInt64 &&& 63)) ||| ((xs (i + 5)).toInt64 &&& lN 4294967295)), .int (nI v), .ref oa]) rfl rfl hl.1 rfl (lv_room (Nat.le_of_ble_eq_true rfl)) d_L_law_219 ⟨by omega, by omega⟩) (fun r138 S135 H136 locs p_137 hI => ?_)
          obtain ⟨er138, eS139⟩ := p_137
          rw [eS139] at hI
          have er138 : r138 = nI 3 := er138
          subst er138
          refine lv_istore (lv' := [(5, .int (nI 3)), (4, .int (nI i)), (3, .ref oa), (2, .ref mo), (1, .ref o), (0, .ref b)]) hx hb d_L_law_222 hl (by decide) rfl (fun ls hl => ?_)
          refine lv_aload_n hx hb d_L_law_224 rfl (lv_at hl 3 rfl) ?_
          refine lv_aload_n hx hb d_L_law_225 rfl (lv_at hl 5 rfl) ?_
          refine lv_iload hx hb d_L_law_226 (lv_at hl 1 rfl) ?_
          refine lv_iconst (v := nI 1) hx hb d_L_law_228 (by decide) ?_
          refine lv_iadd hx hb d_L_law_229 ?_
          refine lv_topi (fun v140 ev140 => ?_)
          obtain rfl : v140 = nI (i + 1) := ev140.trans (nI_add _ _)
          refine mp_sld hx hb hX hK hI (vp_in_nI (show (i + 1) < L by omega) (by omega)) d_L_law_230 ?_
          refine lv_topi (fun v141 ev141 => ?_)
          obtain rfl : v141 = xs (i + 1) := ev141.trans (by rw [nI_clamp (by omega)])
          refine lv_topi (fun v142 ev142 => ?_)
          obtain rfl : v142 = nI k9 := ev142.trans (hxk)
          refine lv_aload_n hx hb d_L_law_231 rfl (lv_at hl 5 rfl) ?_
          refine lv_iload hx hb d_L_law_232 (lv_at hl 1 rfl) ?_
          refine lv_iconst (v := nI 2) hx hb d_L_law_234 (by decide) ?_
          refine lv_iadd hx hb d_L_law_235 ?_
          refine lv_topi (fun v143 ev143 => ?_)
          obtain rfl : v143 = nI (i + 2) := ev143.trans (nI_add _ _)
          refine mp_sld hx hb hX hK hI (vp_in_nI (show (i + 2) < L by omega) (by omega)) d_L_law_236 ?_
          refine lv_topi (fun v144 ev144 => ?_)
          obtain rfl : v144 = xs (i + 2) := ev144.trans (by rw [nI_clamp (by omega)])
          refine lv_i2l (v := (xs (i + 2)).toInt64) hx hb d_L_law_237 rfl ?_
          refine lv_bipush (v := nI 32) hx hb d_L_law_238 (by decide) ?_
          refine lv_lshl (v := ((xs (i + 2)).toInt64 <<< ((nI 32).toInt64 &&& 63))) hx hb d_L_law_240 rfl ?_
          refine lv_aload_n hx hb d_L_law_241 rfl (lv_at hl 5 rfl) ?_
          refine lv_iload hx hb d_L_law_242 (lv_at hl 1 rfl) ?_
          refine lv_iconst (v := nI 3) hx hb d_L_law_244 (by decide) ?_
          refine lv_iadd hx hb d_L_law_245 ?_
          refine lv_topi (fun v145 ev145 => ?_)
          obtain rfl : v145 = nI (i + 3) := ev145.trans (nI_add _ _)
          refine mp_sld hx hb hX hK hI (vp_in_nI (show (i + 3) < L by omega) (by omega)) d_L_law_246 ?_
          refine lv_topi (fun v146 ev146 => ?_)
          obtain rfl : v146 = xs (i + 3) := ev146.trans (by rw [nI_clamp (by omega)])
          refine lv_i2l (v := (xs (i + 3)).toInt64) hx hb d_L_law_247 rfl ?_
          refine lv_ldc2 (v := lN 4294967295) hx hb hown (hg _ q_1107) d_L_law_248 ?_
          refine lv_land hx hb d_L_law_251 ?_
          refine lv_lor hx hb d_L_law_252 ?_
          refine lv_aload_n hx hb d_L_law_253 rfl (lv_at hl 5 rfl) ?_
          refine lv_iload hx hb d_L_law_254 (lv_at hl 1 rfl) ?_
          refine lv_iconst (v := nI 4) hx hb d_L_law_256 (by decide) ?_
          refine lv_iadd hx hb d_L_law_257 ?_
          refine lv_topi (fun v147 ev147 => ?_)
          obtain rfl : v147 = nI (i + 4) := ev147.trans (nI_add _ _)
          refine mp_sld hx hb hX hK hI (vp_in_nI (show (i + 4) < L by omega) (by omega)) d_L_law_258 ?_
          refine lv_topi (fun v148 ev148 => ?_)
          obtain rfl : v148 = xs (i + 4) := ev148.trans (by rw [nI_clamp (by omega)])
          refine lv_i2l (v := (xs (i + 4)).toInt64) hx hb d_L_law_259 rfl ?_
          refine lv_bipush (v := nI 32) hx hb d_L_law_260 (by decide) ?_
          refine lv_lshl (v := ((xs (i + 4)).toInt64 <<< ((nI 32).toInt64 &&& 63))) hx hb d_L_law_262 rfl ?_
          refine lv_aload_n hx hb d_L_law_263 rfl (lv_at hl 5 rfl) ?_
          refine lv_iload hx hb d_L_law_264 (lv_at hl 1 rfl) ?_
          refine lv_iconst (v := nI 5) hx hb d_L_law_266 (by decide) ?_
          refine lv_iadd hx hb d_L_law_267 ?_
          refine lv_topi (fun v149 ev149 => ?_)
          obtain rfl : v149 = nI (i + 5) := ev149.trans (nI_add _ _)
          refine mp_sld hx hb hX hK hI (vp_in_nI (show (i + 5) < L by omega) (by omega)) d_L_law_268 ?_
          refine lv_topi (fun v150 ev150 => ?_)
          obtain rfl : v150 = xs (i + 5) := ev150.trans (by rw [nI_clamp (by omega)])
          refine lv_i2l (v := (xs (i + 5)).toInt64) hx hb d_L_law_269 rfl ?_
          refine lv_ldc2 (v := lN 4294967295) hx hb hown (hg _ q_1107) d_L_law_270 ?_
          refine lv_land hx hb d_L_law_273 ?_
          refine lv_lor hx hb d_L_law_274 ?_
          refine lv_aload_n hx hb d_L_law_275 rfl (lv_at hl 5 rfl) ?_
          refine lv_iload hx hb d_L_law_276 (lv_at hl 1 rfl) ?_
          refine lv_bipush (v := nI 6) hx hb d_L_law_278 (by decide) ?_
          refine lv_iadd hx hb d_L_law_280 ?_
          refine lv_topi (fun v151 ev151 => ?_)
          obtain rfl : v151 = nI (i + 6) := ev151.trans (nI_add _ _)
          refine mp_sld hx hb hX hK hI (vp_in_nI (show (i + 6) < L by omega) (by omega)) d_L_law_281 ?_
          refine lv_topi (fun v152 ev152 => ?_)
          obtain rfl : v152 = xs (i + 6) := ev152.trans (by rw [nI_clamp (by omega)])
          refine lv_topi (fun v153 ev153 => ?_)
          obtain rfl : v153 = nI v := ev153.trans (hxv)
          refine mp_calli hI (va_runV (As := [.int (nI k9), .long (((xs (i + 2)).toInt64 <<< ((nI 32).toInt64 &&& 63)) ||| ((xs (i + 3)).toInt64 &&& lN 4294967295)), .long (((xs (i + 4)).toInt64 <<< ((nI 32).toInt64 &&& 63)) ||| ((xs (i + 5)).toInt64 &&& lN 4294967295)), .int (nI v)]) (rest := []) ⟨hx, hb, hml, hown, hg⟩ (c_M_termM l D g S _ mo nl k9 v (.int (nI gv)) (.int (nI tk)) (.ref (ad 2001)) (.int (nI n)) (.ref (ad 2002)) (.ref (ad 2003)) (.ref (ad 2004)) (.ref (ad 2005)) (.ref (ad 2006)) (.ref (ad 2007)) (.int kn) (.int ak) (.int s0) (.ref (ad 2008)) (.ref (ad 2009)) (.ref (ad 2010)) (.ref (ad 2011)) (.ref (ad 2012)) (.ref (ad 2013)) (.int z0) (.ref (ad 2014)) (.ref (ad 2015)) (.ref (ad 2016)) (.ref (ad 2017)) (.ref (ad 2018)) (.ref (ad 2019)) (.ref (ad 2020)) (.ref (ad 2021)) (.ref (ad 2022)) th (((xs (i + 2)).toInt64 <<< ((nI 32).toInt64 &&& 63)) ||| ((xs (i + 3)).toInt64 &&& lN 4294967295)) (((xs (i + 4)).toInt64 <<< ((nI 32).toInt64 &&& 63)) ||| ((xs (i + 5)).toInt64 &&& lN 4294967295)) h_mo hk9 hv (by omega) (by omega) hp hz) ⟨(callB_of 4 hg (wd_goodG q_910) rfl rfl rfl (hg _ q_5) (hg _ q_907) (by decide +kernel) ⟨Nat.le_of_ble_eq_true rfl, Nat.le_of_ble_eq_true rfl⟩), hg _ q_908, hg _ q_909⟩ (mp_preV (C := R_M) (T := F_M) hI hK h_mo rfl [.int (nI k9), .long (((xs (i + 2)).toInt64 <<< ((nI 32).toInt64 &&& 63)) ||| ((xs (i + 3)).toInt64 &&& lN 4294967295)), .long (((xs (i + 4)).toInt64 <<< ((nI 32).toInt64 &&& 63)) ||| ((xs (i + 5)).toInt64 &&& lN 4294967295)), .int (nI v)]) rfl rfl hl.1 rfl (lv_room (Nat.le_of_ble_eq_true rfl)) d_L_law_282 ⟨by omega, by omega⟩) (fun r157 S154 H155 locs p_156 hI => ?_)
          obtain ⟨q_mo, fr⟩ := p_156
          have h_o : S154 o = some (0, .inr (0, [.int (nI nl), .ref pa, .ref lo, .ref fa0, .int (nI gv), .int (nI tk), .int fq, .int an, .int av, sv])) := (fr o (mp_in h_o) (mp_ne h_o h_mo (by omega))).trans h_o
          have h_pa : S154 pa = some (1, .inl ((g 2), 40, .inr (.inr (.inr (.inr (rfs eo 40)))))) := (fr pa (mp_in h_pa) (mp_ne h_pa h_mo (by omega))).trans h_pa
          have h_fa0 : S154 fa0 = some (3, .inl ((g 0), 3, .inl ff)) := (fr fa0 (mp_in h_fa0) (mp_ne h_fa0 h_mo (by omega))).trans h_fa0
          have h_oa : S154 oa = some (9, .inl ((g 4), 1, .inr (.inl of))) := (fr oa (mp_in h_oa) (mp_ne h_oa h_mo (by omega))).trans h_oa
          have h_mp : S154 (ad 2001) = some (2001, .inl ((g 0), 40000, .inl (fun j => nI (PO j).val))) := (fr (ad 2001) (mp_in h_mp) (mp_ne h_mp h_mo (by omega))).trans h_mp
          have h_le : S154 (ad 2008) = some (2008, .inl ((g 0), 17, .inl (fun j => nI (LF j)))) := (fr (ad 2008) (mp_in h_le) (mp_ne h_le h_mo (by omega))).trans h_le
          have h_dg : S154 (ad 2010) = some (2010, .inl ((g 0), 3, .inl (fun j => nI (DG j)))) := (fr (ad 2010) (mp_in h_dg) (mp_ne h_dg h_mo (by omega))).trans h_dg
          have h_lt : S154 (ad 2011) = some (2011, .inl ((g 0), 51, .inl (fun j => nI (LE j).val))) := (fr (ad 2011) (mp_in h_lt) (mp_ne h_lt h_mo (by omega))).trans h_lt
          have h_ze : S154 (ad 2014) = some (2014, .inl ((g 0), 51, .inl (fun j => nI (ZM j).val))) := (fr (ad 2014) (mp_in h_ze) (mp_ne h_ze h_mo (by omega))).trans h_ze
          have h_oq : S154 (ad 2015) = some (2015, .inl ((g 0), 17, .inl (fun j => nI (OF j)))) := (fr (ad 2015) (mp_in h_oq) (mp_ne h_oq h_mo (by omega))).trans h_oq
          have h_fv : S154 (ad 2016) = some (2016, .inl ((g 5), 3, .inl FV)) := (fr (ad 2016) (mp_in h_fv) (mp_ne h_fv h_mo (by omega))).trans h_fv
          have hP := gPs_kept hP (S1 := S154) (fun b t9 e9 hb9 h1 h2 => by have h8 : S154 b = some (t9, e9) := (fr b (mp_in hb9) (mp_ne hb9 h_mo (by omega))).trans hb9; rw [h8, hb9])
          have hL := gLs_kept hL (S1 := S154) (fun b t9 e9 hb9 h1 h2 => by have h8 : S154 b = some (t9, e9) := (fr b (mp_in hb9) (mp_ne hb9 h_mo (by omega))).trans hb9; rw [h8, hb9])
          have hM := gMs_kept hM (S1 := S154) (fun b t9 e9 hb9 h1 h2 => by have h8 : S154 b = some (t9, e9) := (fr b (mp_in hb9) (mp_ne hb9 h_mo (by omega))).trans hb9; rw [h8, hb9])
          have hWk := gWs_kept hWk (S1 := S154) (fun b t9 e9 hb9 h1 h2 => by have h8 : S154 b = some (t9, e9) := (fr b (mp_in hb9) (mp_ne hb9 h_mo (by omega))).trans hb9; rw [h8, hb9])
          have hA := anP_kept hA (S1 := S154) (fun b t9 e9 hb9 h1 h2 => by have h8 : S154 b = some (t9, e9) := (fr b (mp_in hb9) (mp_ne hb9 h_mo (by omega))).trans hb9; rw [h8, hb9])
          have h_mo := q_mo
          refine lv_istore (lv' := [(6, .int r157), (5, .int (nI 3)), (4, .int (nI i)), (3, .ref oa), (2, .ref mo), (1, .ref o), (0, .ref b)]) hx hb d_L_law_285 hl (by decide) rfl (fun ls hl => ?_)
          refine lv_aload_n hx hb d_L_law_287 rfl (lv_at hl 4 rfl) ?_
          refine mp_calli hI (va_runV (As := []) (rest := []) ⟨hx, hb, hml, hown, hg⟩ (c_M_thrown l D g S154 _ mo (.int (nI nl)) (.int (nI gv)) (.int (nI tk)) (.ref (ad 2001)) (.int (nI n)) (.ref (ad 2002)) (.ref (ad 2003)) (.ref (ad 2004)) (.ref (ad 2005)) (.ref (ad 2006)) (.ref (ad 2007)) (.int kn) (.int ak) (.int s0) (.ref (ad 2008)) (.ref (ad 2009)) (.ref (ad 2010)) (.ref (ad 2011)) (.ref (ad 2012)) (.ref (ad 2013)) (.int z0) (.ref (ad 2014)) (.ref (ad 2015)) (.ref (ad 2016)) (.ref (ad 2017)) (.ref (ad 2018)) (.ref (ad 2019)) (.ref (ad 2020)) (.ref (ad 2021)) (.ref (ad 2022)) (nI 3) h_mo) ⟨(callB_of 0 hg (wd_goodG q_902) rfl rfl rfl (hg _ q_5) (hg _ q_899) (by decide +kernel) ⟨Nat.le_of_ble_eq_true rfl, Nat.le_of_ble_eq_true rfl⟩), hg _ q_900, hg _ q_901⟩ (mp_preV (C := R_M) (T := F_M) hI hK h_mo rfl []) rfl rfl hl.1 rfl (lv_room (Nat.le_of_ble_eq_true rfl)) d_L_law_288 ⟨by omega, by omega⟩) (fun r161 S158 H159 locs p_160 hI => ?_)
          obtain ⟨er161, eS162⟩ := p_160
          rw [eS162] at hI
          have er161 : r161 = nI 3 := er161
          subst er161
          refine lv_iload hx hb d_L_law_291 (lv_at hl 1 rfl) ?_
          refine lv_icmp_eq (tgt := 298) hx hb d_L_law_293 (by decide) (fun _ => ?_) (fun h9 => absurd (rfl) h9)
          refine lv_iload hx hb d_L_law_298 (lv_at hl 1 rfl) ?_
          refine lv_if_ne (tgt := 322) hx hb d_L_law_300 (by decide) (fun _ => ?_) (fun h9 => absurd h9 (by decide))
          refine lv_goto (tgt := 822) hx hb d_L_law_322 (by decide) ?_
          refine W.widen (k := cells + 189) (n := slots + 11130) (by omega) (by omega) ?_
          exact kx S154 _ _ ls ⟨(pa), (lo), (fa0), (ma), (hd), (eo), (me), (ad), (cf), (gv), (tk), (n), (fq), (an), (av), (sv), (ff), (hq), (zq), (mq), (cq), (nI 3), (kn), (ak), (s0), (z0), (PO), (LF), (DG), (LE), (ZM), (OF), (FV), (of), h_o, h_pa, h_fa0, h_oa, h_mo, h_mp, h_le, h_dg, h_lt, h_ze, h_oq, h_fv, hP, hL, hM, hWk, hA, hgv, htk, hnt, hR, hI9, hIn, hF9⟩ hI (lv_sub hl [2, 3, 4, 5, 6] rfl)
        · obtain ⟨hu9, hiu⟩ := pw_u (show nl < 4 by omega) (show 0 < nl by omega) hp
          obtain ⟨ek, en, cap, pz, kf, nf, hE, hG⟩ := hP
          refine lv_aload_n hx hb d_L_law_160 rfl (lv_at hl 3 rfl) ?_
          refine lv_aload_n hx hb d_L_law_161 rfl (lv_at hl 4 rfl) ?_
          refine lv_iload hx hb d_L_law_162 (lv_at hl 0 rfl) ?_
          refine lv_iconst (v := nI 1) hx hb d_L_law_164 (by decide) ?_
          refine lv_iadd hx hb d_L_law_165 ?_
          refine lv_topi (fun v163 ev163 => ?_)
          obtain rfl : v163 = nI (i + 1) := ev163.trans (nI_add _ _)
          refine mp_sld hx hb hX hK hI (vp_in_nI (show (i + 1) < L by omega) (by omega)) d_L_law_166 ?_
          refine lv_topi (fun v164 ev164 => ?_)
          obtain rfl : v164 = xs (i + 1) := ev164.trans (by rw [nI_clamp (by omega)])
          refine lv_topi (fun v165 ev165 => ?_)
          obtain rfl : v165 = nI k9 := ev165.trans (hxk)
          refine lv_aload_n hx hb d_L_law_167 rfl (lv_at hl 4 rfl) ?_
          refine lv_iload hx hb d_L_law_168 (lv_at hl 0 rfl) ?_
          refine lv_iconst (v := nI 2) hx hb d_L_law_170 (by decide) ?_
          refine lv_iadd hx hb d_L_law_171 ?_
          refine lv_topi (fun v166 ev166 => ?_)
          obtain rfl : v166 = nI (i + 2) := ev166.trans (nI_add _ _)
          refine mp_sld hx hb hX hK hI (vp_in_nI (show (i + 2) < L by omega) (by omega)) d_L_law_172 ?_
          refine lv_topi (fun v167 ev167 => ?_)
          obtain rfl : v167 = xs (i + 2) := ev167.trans (by rw [nI_clamp (by omega)])
          refine lv_i2l (v := (xs (i + 2)).toInt64) hx hb d_L_law_173 rfl ?_
          refine lv_bipush (v := nI 32) hx hb d_L_law_174 (by decide) ?_
          refine lv_lshl (v := ((xs (i + 2)).toInt64 <<< ((nI 32).toInt64 &&& 63))) hx hb d_L_law_176 rfl ?_
          refine lv_aload_n hx hb d_L_law_177 rfl (lv_at hl 4 rfl) ?_
          refine lv_iload hx hb d_L_law_178 (lv_at hl 0 rfl) ?_
          refine lv_iconst (v := nI 3) hx hb d_L_law_180 (by decide) ?_
          refine lv_iadd hx hb d_L_law_181 ?_
          refine lv_topi (fun v168 ev168 => ?_)
          obtain rfl : v168 = nI (i + 3) := ev168.trans (nI_add _ _)
          refine mp_sld hx hb hX hK hI (vp_in_nI (show (i + 3) < L by omega) (by omega)) d_L_law_182 ?_
          refine lv_topi (fun v169 ev169 => ?_)
          obtain rfl : v169 = xs (i + 3) := ev169.trans (by rw [nI_clamp (by omega)])
          refine lv_i2l (v := (xs (i + 3)).toInt64) hx hb d_L_law_183 rfl ?_
          refine lv_ldc2 (v := lN 4294967295) hx hb hown (hg _ q_1107) d_L_law_184 ?_
          refine lv_land hx hb d_L_law_187 ?_
          refine lv_lor hx hb d_L_law_188 ?_
          refine lv_aload_n hx hb d_L_law_189 rfl (lv_at hl 4 rfl) ?_
          refine lv_iload hx hb d_L_law_190 (lv_at hl 0 rfl) ?_
          refine lv_iconst (v := nI 4) hx hb d_L_law_192 (by decide) ?_
          refine lv_iadd hx hb d_L_law_193 ?_
          refine lv_topi (fun v170 ev170 => ?_)
          obtain rfl : v170 = nI (i + 4) := ev170.trans (nI_add _ _)
          refine mp_sld hx hb hX hK hI (vp_in_nI (show (i + 4) < L by omega) (by omega)) d_L_law_194 ?_
          refine lv_topi (fun v171 ev171 => ?_)
          obtain rfl : v171 = xs (i + 4) := ev171.trans (by rw [nI_clamp (by omega)])
          refine lv_i2l (v := (xs (i + 4)).toInt64) hx hb d_L_law_195 rfl ?_
          refine lv_bipush (v := nI 32) hx hb d_L_law_196 (by decide) ?_
          refine lv_lshl (v := ((xs (i + 4)).toInt64 <<< ((nI 32).toInt64 &&& 63))) hx hb d_L_law_198 rfl ?_
          refine lv_aload_n hx hb d_L_law_199 rfl (lv_at hl 4 rfl) ?_
          refine lv_iload hx hb d_L_law_200 (lv_at hl 0 rfl) ?_
          refine lv_iconst (v := nI 5) hx hb d_L_law_202 (by decide) ?_
          refine lv_iadd hx hb d_L_law_203 ?_
          refine lv_topi (fun v172 ev172 => ?_)
          obtain rfl : v172 = nI (i + 5) := ev172.trans (nI_add _ _)
          refine mp_sld hx hb hX hK hI (vp_in_nI (show (i + 5) < L by omega) (by omega)) d_L_law_204 ?_
          refine lv_topi (fun v173 ev173 => ?_)
          obtain rfl : v173 = xs (i + 5) := ev173.trans (by rw [nI_clamp (by omega)])
          refine lv_i2l (v := (xs (i + 5)).toInt64) hx hb d_L_law_205 rfl ?_
          refine lv_ldc2 (v := lN 4294967295) hx hb hown (hg _ q_1107) d_L_law_206 ?_
          refine lv_land hx hb d_L_law_209 ?_
          refine lv_lor hx hb d_L_law_210 ?_
          refine lv_aload_n hx hb d_L_law_211 rfl (lv_at hl 4 rfl) ?_
          refine lv_iload hx hb d_L_law_212 (lv_at hl 0 rfl) ?_
          refine lv_bipush (v := nI 6) hx hb d_L_law_214 (by decide) ?_
          refine lv_iadd hx hb d_L_law_216 ?_
          refine lv_topi (fun v174 ev174 => ?_)
          obtain rfl : v174 = nI (i + 6) := ev174.trans (nI_add _ _)
          refine mp_sld hx hb hX hK hI (vp_in_nI (show (i + 6) < L by omega) (by omega)) d_L_law_217 ?_
          refine lv_topi (fun v175 ev175 => ?_)
          obtain rfl : v175 = xs (i + 6) := ev175.trans (by rw [nI_clamp (by omega)])
          refine lv_topi (fun v176 ev176 => ?_)
          obtain rfl : v176 = nI v := ev176.trans (hxv)
          refine lv_aload_n hx hb d_L_law_218 rfl (lv_at hl 1 rfl) ?_
          have hcl := pG_lt hG hk9 (kN (v % 16) (v / 16 % 16) (v / 256))
          refine mp_calli hI (lw_runS (As := [.ref o, .int (nI k9), .long (((xs (i + 2)).toInt64 <<< ((nI 32).toInt64 &&& 63)) ||| ((xs (i + 3)).toInt64 &&& lN 4294967295)), .long (((xs (i + 4)).toInt64 <<< ((nI 32).toInt64 &&& 63)) ||| ((xs (i + 5)).toInt64 &&& lN 4294967295)), .int (nI v), .ref oa]) (rest := []) ⟨hx, hb, hml, hown, hg⟩ (c_L_term l D g S _ o pa nl eo ek en cap pz kf nf cf (.ref lo) (.ref fa0) (.int (nI gv)) (.int (nI tk)) (.int fq) (.int an) (.int av) (sv) k9 v (((xs (i + 2)).toInt64 <<< ((nI 32).toInt64 &&& 63)) ||| ((xs (i + 3)).toInt64 &&& lN 4294967295)) (((xs (i + 4)).toInt64 <<< ((nI 32).toInt64 &&& 63)) ||| ((xs (i + 5)).toInt64 &&& lN 4294967295)) oa of h_o h_pa h_oa hE hG hk9 hv (by omega) (by omega) hp hz) ⟨callBW_of 6 hg (hts _ q_621) rfl rfl (hg _ q_0) (hg _ q_619) (by decide +kernel) ⟨Nat.le_of_ble_eq_true rfl, Nat.le_of_ble_eq_true rfl⟩, hg _ q_620⟩ (mp_pre hI hK [.ref o, .int (nI k9), .long (((xs (i + 2)).toInt64 <<< ((nI 32).toInt64 &&& 63)) ||| ((xs (i + 3)).toInt64 &&& lN 4294967295)), .long (((xs (i + 4)).toInt64 <<< ((nI 32).toInt64 &&& 63)) ||| ((xs (i + 5)).toInt64 &&& lN 4294967295)), .int (nI v), .ref oa]) rfl rfl hl.1 rfl (lv_room (Nat.le_of_ble_eq_true rfl)) d_L_law_219 ⟨by omega, by omega⟩) (fun r180 S177 H178 locs p_179 hI => ?_)
          obtain ⟨er180, ⟨f1, q_oa, hf1⟩, ek1, en1, cap1, pz1, kf1, nf1, hE1, hG1, fr⟩ := p_179
          subst er180
          have h_o : S177 o = some (0, .inr (0, [.int (nI nl), .ref pa, .ref lo, .ref fa0, .int (nI gv), .int (nI tk), .int fq, .int an, .int av, sv])) := fr o _ _ h_o (by omega) (by omega)
          have h_pa : S177 pa = some (1, .inl ((g 2), 40, .inr (.inr (.inr (.inr (rfs eo 40)))))) := fr pa _ _ h_pa (by omega) (by omega)
          have h_fa0 : S177 fa0 = some (3, .inl ((g 0), 3, .inl ff)) := fr fa0 _ _ h_fa0 (by omega) (by omega)
          have h_mo : S177 mo = some (2000, .inr (10, [.int (nI nl), .int (nI gv), .int (nI tk), .int th, .ref (ad 2001), .int (nI n), .ref (ad 2002), .ref (ad 2003), .ref (ad 2004), .ref (ad 2005), .ref (ad 2006), .ref (ad 2007), .int kn, .int ak, .int s0, .ref (ad 2008), .ref (ad 2009), .ref (ad 2010), .ref (ad 2011), .ref (ad 2012), .ref (ad 2013), .int z0, .ref (ad 2014), .ref (ad 2015), .ref (ad 2016), .ref (ad 2017), .ref (ad 2018), .ref (ad 2019), .ref (ad 2020), .ref (ad 2021), .ref (ad 2022)])) := fr mo _ _ h_mo (by omega) (by omega)
          have h_mp : S177 (ad 2001) = some (2001, .inl ((g 0), 40000, .inl (fun j => nI (PO j).val))) := fr (ad 2001) _ _ h_mp (by omega) (by omega)
          have h_le : S177 (ad 2008) = some (2008, .inl ((g 0), 17, .inl (fun j => nI (LF j)))) := fr (ad 2008) _ _ h_le (by omega) (by omega)
          have h_dg : S177 (ad 2010) = some (2010, .inl ((g 0), 3, .inl (fun j => nI (DG j)))) := fr (ad 2010) _ _ h_dg (by omega) (by omega)
          have h_lt : S177 (ad 2011) = some (2011, .inl ((g 0), 51, .inl (fun j => nI (LE j).val))) := fr (ad 2011) _ _ h_lt (by omega) (by omega)
          have h_ze : S177 (ad 2014) = some (2014, .inl ((g 0), 51, .inl (fun j => nI (ZM j).val))) := fr (ad 2014) _ _ h_ze (by omega) (by omega)
          have h_oq : S177 (ad 2015) = some (2015, .inl ((g 0), 17, .inl (fun j => nI (OF j)))) := fr (ad 2015) _ _ h_oq (by omega) (by omega)
          have h_fv : S177 (ad 2016) = some (2016, .inl ((g 5), 3, .inl FV)) := fr (ad 2016) _ _ h_fv (by omega) (by omega)
          have hL := gLs_kept hL (S1 := S177) (fun b t9 e9 hb9 h1 h2 => by have h8 : S177 b = some (t9, e9) := fr b _ _ hb9 (by omega) (by omega); rw [h8, hb9])
          have hM := gMs_kept hM (S1 := S177) (fun b t9 e9 hb9 h1 h2 => by have h8 : S177 b = some (t9, e9) := fr b _ _ hb9 (by omega) (by omega); rw [h8, hb9])
          have hWk := gWs_kept hWk (S1 := S177) (fun b t9 e9 hb9 h1 h2 => by have h8 : S177 b = some (t9, e9) := fr b _ _ hb9 (by omega) (by omega); rw [h8, hb9])
          have hA := anP_kept hA (S1 := S177) (fun b t9 e9 hb9 h1 h2 => by have h8 : S177 b = some (t9, e9) := fr b _ _ hb9 (by omega) (by omega); rw [h8, hb9])
          have h_oa := q_oa
          have hP : gPs g eo (va_up cf k9 (va_up (cf k9) (kN (v % 16) (v / 16 % 16) (v / 256)) (rsN (((xs (i + 2)).toInt64 <<< ((nI 32).toInt64 &&& 63)) ||| ((xs (i + 3)).toInt64 &&& lN 4294967295)) * (rsN (((xs (i + 4)).toInt64 <<< ((nI 32).toInt64 &&& 63)) ||| ((xs (i + 5)).toInt64 &&& lN 4294967295)) ^ 32001 % 32003) % 32003))) S177 := ⟨ek1, en1, cap1, pz1, kf1, nf1, hE1, hG1⟩
          refine lv_istore (lv' := [(5, .int (nI 0)), (4, .int (nI i)), (3, .ref oa), (2, .ref mo), (1, .ref o), (0, .ref b)]) hx hb d_L_law_222 hl (by decide) rfl (fun ls hl => ?_)
          refine lv_aload_n hx hb d_L_law_224 rfl (lv_at hl 3 rfl) ?_
          refine lv_aload_n hx hb d_L_law_225 rfl (lv_at hl 5 rfl) ?_
          refine lv_iload hx hb d_L_law_226 (lv_at hl 1 rfl) ?_
          refine lv_iconst (v := nI 1) hx hb d_L_law_228 (by decide) ?_
          refine lv_iadd hx hb d_L_law_229 ?_
          refine lv_topi (fun v181 ev181 => ?_)
          obtain rfl : v181 = nI (i + 1) := ev181.trans (nI_add _ _)
          refine mp_sld hx hb hX hK hI (vp_in_nI (show (i + 1) < L by omega) (by omega)) d_L_law_230 ?_
          refine lv_topi (fun v182 ev182 => ?_)
          obtain rfl : v182 = xs (i + 1) := ev182.trans (by rw [nI_clamp (by omega)])
          refine lv_topi (fun v183 ev183 => ?_)
          obtain rfl : v183 = nI k9 := ev183.trans (hxk)
          refine lv_aload_n hx hb d_L_law_231 rfl (lv_at hl 5 rfl) ?_
          refine lv_iload hx hb d_L_law_232 (lv_at hl 1 rfl) ?_
          refine lv_iconst (v := nI 2) hx hb d_L_law_234 (by decide) ?_
          refine lv_iadd hx hb d_L_law_235 ?_
          refine lv_topi (fun v184 ev184 => ?_)
          obtain rfl : v184 = nI (i + 2) := ev184.trans (nI_add _ _)
          refine mp_sld hx hb hX hK hI (vp_in_nI (show (i + 2) < L by omega) (by omega)) d_L_law_236 ?_
          refine lv_topi (fun v185 ev185 => ?_)
          obtain rfl : v185 = xs (i + 2) := ev185.trans (by rw [nI_clamp (by omega)])
          refine lv_i2l (v := (xs (i + 2)).toInt64) hx hb d_L_law_237 rfl ?_
          refine lv_bipush (v := nI 32) hx hb d_L_law_238 (by decide) ?_
          refine lv_lshl (v := ((xs (i + 2)).toInt64 <<< ((nI 32).toInt64 &&& 63))) hx hb d_L_law_240 rfl ?_
          refine lv_aload_n hx hb d_L_law_241 rfl (lv_at hl 5 rfl) ?_
          refine lv_iload hx hb d_L_law_242 (lv_at hl 1 rfl) ?_
          refine lv_iconst (v := nI 3) hx hb d_L_law_244 (by decide) ?_
          refine lv_iadd hx hb d_L_law_245 ?_
          refine lv_topi (fun v186 ev186 => ?_)
          obtain rfl : v186 = nI (i + 3) := ev186.trans (nI_add _ _)
          refine mp_sld hx hb hX hK hI (vp_in_nI (show (i + 3) < L by omega) (by omega)) d_L_law_246 ?_
          refine lv_topi (fun v187 ev187 => ?_)
          obtain rfl : v187 = xs (i + 3) := ev187.trans (by rw [nI_clamp (by omega)])
          refine lv_i2l (v := (xs (i + 3)).toInt64) hx hb d_L_law_247 rfl ?_
          refine lv_ldc2 (v := lN 4294967295) hx hb hown (hg _ q_1107) d_L_law_248 ?_
          refine lv_land hx hb d_L_law_251 ?_
          refine lv_lor hx hb d_L_law_252 ?_
          refine lv_aload_n hx hb d_L_law_253 rfl (lv_at hl 5 rfl) ?_
          refine lv_iload hx hb d_L_law_254 (lv_at hl 1 rfl) ?_
          refine lv_iconst (v := nI 4) hx hb d_L_law_256 (by decide) ?_
          refine lv_iadd hx hb d_L_law_257 ?_
          refine lv_topi (fun v188 ev188 => ?_)
          obtain rfl : v188 = nI (i + 4) := ev188.trans (nI_add _ _)
          refine mp_sld hx hb hX hK hI (vp_in_nI (show (i + 4) < L by omega) (by omega)) d_L_law_258 ?_
          refine lv_topi (fun v189 ev189 => ?_)
          obtain rfl : v189 = xs (i + 4) := ev189.trans (by rw [nI_clamp (by omega)])
          refine lv_i2l (v := (xs (i + 4)).toInt64) hx hb d_L_law_259 rfl ?_
          refine lv_bipush (v := nI 32) hx hb d_L_law_260 (by decide) ?_
          refine lv_lshl (v := ((xs (i + 4)).toInt64 <<< ((nI 32).toInt64 &&& 63))) hx hb d_L_law_262 rfl ?_
          refine lv_aload_n hx hb d_L_law_263 rfl (lv_at hl 5 rfl) ?_
          refine lv_iload hx hb d_L_law_264 (lv_at hl 1 rfl) ?_
          refine lv_iconst (v := nI 5) hx hb d_L_law_266 (by decide) ?_
          refine lv_iadd hx hb d_L_law_267 ?_
          refine lv_topi (fun v190 ev190 => ?_)
          obtain rfl : v190 = nI (i + 5) := ev190.trans (nI_add _ _)
          refine mp_sld hx hb hX hK hI (vp_in_nI (show (i + 5) < L by omega) (by omega)) d_L_law_268 ?_
          refine lv_topi (fun v191 ev191 => ?_)
          obtain rfl : v191 = xs (i + 5) := ev191.trans (by rw [nI_clamp (by omega)])
          refine lv_i2l (v := (xs (i + 5)).toInt64) hx hb d_L_law_269 rfl ?_
          refine lv_ldc2 (v := lN 4294967295) hx hb hown (hg _ q_1107) d_L_law_270 ?_
          refine lv_land hx hb d_L_law_273 ?_
          refine lv_lor hx hb d_L_law_274 ?_
          refine lv_aload_n hx hb d_L_law_275 rfl (lv_at hl 5 rfl) ?_
          refine lv_iload hx hb d_L_law_276 (lv_at hl 1 rfl) ?_
          refine lv_bipush (v := nI 6) hx hb d_L_law_278 (by decide) ?_
          refine lv_iadd hx hb d_L_law_280 ?_
          refine lv_topi (fun v192 ev192 => ?_)
          obtain rfl : v192 = nI (i + 6) := ev192.trans (nI_add _ _)
          refine mp_sld hx hb hX hK hI (vp_in_nI (show (i + 6) < L by omega) (by omega)) d_L_law_281 ?_
          refine lv_topi (fun v193 ev193 => ?_)
          obtain rfl : v193 = xs (i + 6) := ev193.trans (by rw [nI_clamp (by omega)])
          refine lv_topi (fun v194 ev194 => ?_)
          obtain rfl : v194 = nI v := ev194.trans (hxv)
          refine mp_calli hI (va_runV (As := [.int (nI k9), .long (((xs (i + 2)).toInt64 <<< ((nI 32).toInt64 &&& 63)) ||| ((xs (i + 3)).toInt64 &&& lN 4294967295)), .long (((xs (i + 4)).toInt64 <<< ((nI 32).toInt64 &&& 63)) ||| ((xs (i + 5)).toInt64 &&& lN 4294967295)), .int (nI v)]) (rest := []) ⟨hx, hb, hml, hown, hg⟩ (c_M_term l D g S177 _ mo (ad 2001) nl k9 v (.int (nI gv)) (.int (nI tk)) (.int (nI n)) (.ref (ad 2002)) (.ref (ad 2003)) (.ref (ad 2004)) (.ref (ad 2005)) (.ref (ad 2006)) (.ref (ad 2007)) (.int kn) (.int ak) (.int s0) (.ref (ad 2008)) (.ref (ad 2009)) (.ref (ad 2010)) (.ref (ad 2011)) (.ref (ad 2012)) (.ref (ad 2013)) (.int z0) (.ref (ad 2014)) (.ref (ad 2015)) (.ref (ad 2016)) (.ref (ad 2017)) (.ref (ad 2018)) (.ref (ad 2019)) (.ref (ad 2020)) (.ref (ad 2021)) (.ref (ad 2022)) th (((xs (i + 2)).toInt64 <<< ((nI 32).toInt64 &&& 63)) ||| ((xs (i + 3)).toInt64 &&& lN 4294967295)) (((xs (i + 4)).toInt64 <<< ((nI 32).toInt64 &&& 63)) ||| ((xs (i + 5)).toInt64 &&& lN 4294967295)) (fun j => nI (PO j).val) h_mo h_mp hk9 hv (by omega) (by omega) hp hz) ⟨(callB_of 4 hg (wd_goodG q_910) rfl rfl rfl (hg _ q_5) (hg _ q_907) (by decide +kernel) ⟨Nat.le_of_ble_eq_true rfl, Nat.le_of_ble_eq_true rfl⟩), hg _ q_908, hg _ q_909⟩ (mp_preV (C := R_M) (T := F_M) hI hK h_mo rfl [.int (nI k9), .long (((xs (i + 2)).toInt64 <<< ((nI 32).toInt64 &&& 63)) ||| ((xs (i + 3)).toInt64 &&& lN 4294967295)), .long (((xs (i + 4)).toInt64 <<< ((nI 32).toInt64 &&& 63)) ||| ((xs (i + 5)).toInt64 &&& lN 4294967295)), .int (nI v)]) rfl rfl hl.1 rfl (lv_room (Nat.le_of_ble_eq_true rfl)) d_L_law_282 ⟨by omega, by omega⟩) (fun r198 S195 H196 locs p_197 hI => ?_)
          obtain ⟨er198, q_mo, q_mp, fr⟩ := p_197
          have hX9 : (rsN (((xs (i + 2)).toInt64 <<< ((nI 32).toInt64 &&& 63)) ||| ((xs (i + 3)).toInt64 &&& lN 4294967295)) * (rsN (((xs (i + 4)).toInt64 <<< ((nI 32).toInt64 &&& 63)) ||| ((xs (i + 5)).toInt64 &&& lN 4294967295)) ^ 32001 % 32003) % 32003) < 32003 := Nat.mod_lt _ (by decide)
          rw [show nI (rsN (((xs (i + 2)).toInt64 <<< ((nI 32).toInt64 &&& 63)) ||| ((xs (i + 3)).toInt64 &&& lN 4294967295)) * (rsN (((xs (i + 4)).toInt64 <<< ((nI 32).toInt64 &&& 63)) ||| ((xs (i + 5)).toInt64 &&& lN 4294967295)) ^ 32001 % 32003) % 32003) = nI (fc (rsN (((xs (i + 2)).toInt64 <<< ((nI 32).toInt64 &&& 63)) ||| ((xs (i + 3)).toInt64 &&& lN 4294967295)) * (rsN (((xs (i + 4)).toInt64 <<< ((nI 32).toInt64 &&& 63)) ||| ((xs (i + 5)).toInt64 &&& lN 4294967295)) ^ 32001 % 32003) % 32003)).val from by rw [fc_val hX9], nIv_up] at q_mp
          have h_o : S195 o = some (0, .inr (0, [.int (nI nl), .ref pa, .ref lo, .ref fa0, .int (nI gv), .int (nI tk), .int fq, .int an, .int av, sv])) := (fr o (mp_in h_o) (mp_ne h_o h_mo (by omega)) (mp_ne h_o h_mp (by omega))).trans h_o
          have h_pa : S195 pa = some (1, .inl ((g 2), 40, .inr (.inr (.inr (.inr (rfs eo 40)))))) := (fr pa (mp_in h_pa) (mp_ne h_pa h_mo (by omega)) (mp_ne h_pa h_mp (by omega))).trans h_pa
          have h_fa0 : S195 fa0 = some (3, .inl ((g 0), 3, .inl ff)) := (fr fa0 (mp_in h_fa0) (mp_ne h_fa0 h_mo (by omega)) (mp_ne h_fa0 h_mp (by omega))).trans h_fa0
          have h_oa : S195 oa = some (9, .inl ((g 4), 1, .inr (.inl f1))) := (fr oa (mp_in h_oa) (mp_ne h_oa h_mo (by omega)) (mp_ne h_oa h_mp (by omega))).trans h_oa
          have h_le : S195 (ad 2008) = some (2008, .inl ((g 0), 17, .inl (fun j => nI (LF j)))) := (fr (ad 2008) (mp_in h_le) (mp_ne h_le h_mo (by omega)) (mp_ne h_le h_mp (by omega))).trans h_le
          have h_dg : S195 (ad 2010) = some (2010, .inl ((g 0), 3, .inl (fun j => nI (DG j)))) := (fr (ad 2010) (mp_in h_dg) (mp_ne h_dg h_mo (by omega)) (mp_ne h_dg h_mp (by omega))).trans h_dg
          have h_lt : S195 (ad 2011) = some (2011, .inl ((g 0), 51, .inl (fun j => nI (LE j).val))) := (fr (ad 2011) (mp_in h_lt) (mp_ne h_lt h_mo (by omega)) (mp_ne h_lt h_mp (by omega))).trans h_lt
          have h_ze : S195 (ad 2014) = some (2014, .inl ((g 0), 51, .inl (fun j => nI (ZM j).val))) := (fr (ad 2014) (mp_in h_ze) (mp_ne h_ze h_mo (by omega)) (mp_ne h_ze h_mp (by omega))).trans h_ze
          have h_oq : S195 (ad 2015) = some (2015, .inl ((g 0), 17, .inl (fun j => nI (OF j)))) := (fr (ad 2015) (mp_in h_oq) (mp_ne h_oq h_mo (by omega)) (mp_ne h_oq h_mp (by omega))).trans h_oq
          have h_fv : S195 (ad 2016) = some (2016, .inl ((g 5), 3, .inl FV)) := (fr (ad 2016) (mp_in h_fv) (mp_ne h_fv h_mo (by omega)) (mp_ne h_fv h_mp (by omega))).trans h_fv
          have hL := gLs_kept hL (S1 := S195) (fun b t9 e9 hb9 h1 h2 => by have h8 : S195 b = some (t9, e9) := (fr b (mp_in hb9) (mp_ne hb9 h_mo (by omega)) (mp_ne hb9 h_mp (by omega))).trans hb9; rw [h8, hb9])
          have hM := gMs_kept hM (S1 := S195) (fun b t9 e9 hb9 h1 h2 => by have h8 : S195 b = some (t9, e9) := (fr b (mp_in hb9) (mp_ne hb9 h_mo (by omega)) (mp_ne hb9 h_mp (by omega))).trans hb9; rw [h8, hb9])
          have hWk := gWs_kept hWk (S1 := S195) (fun b t9 e9 hb9 h1 h2 => by have h8 : S195 b = some (t9, e9) := (fr b (mp_in hb9) (mp_ne hb9 h_mo (by omega)) (mp_ne hb9 h_mp (by omega))).trans hb9; rw [h8, hb9])
          have hA := anP_kept hA (S1 := S195) (fun b t9 e9 hb9 h1 h2 => by have h8 : S195 b = some (t9, e9) := (fr b (mp_in hb9) (mp_ne hb9 h_mo (by omega)) (mp_ne hb9 h_mp (by omega))).trans hb9; rw [h8, hb9])
          have hP := gPs_kept hP (S1 := S195) (fun b t9 e9 hb9 h1 h2 => by have h8 : S195 b = some (t9, e9) := (fr b (mp_in hb9) (mp_ne hb9 h_mo (by omega)) (mp_ne hb9 h_mp (by omega))).trans hb9; rw [h8, hb9])
          have h_mo := q_mo
          have h_mp := q_mp
          have hcq : nI (PO (1000 * k9 + (v % 16 + 10 * (v / 16 % 16) + 100 * (v / 256)))).val = nI (rsN (((xs (i + 2)).toInt64 <<< ((nI 32).toInt64 &&& 63)) ||| ((xs (i + 3)).toInt64 &&& lN 4294967295)) * (rsN (((xs (i + 4)).toInt64 <<< ((nI 32).toInt64 &&& 63)) ||| ((xs (i + 5)).toInt64 &&& lN 4294967295)) ^ 32001 % 32003) % 32003) ↔ cf k9 (kN (v % 16) (v / 16 % 16) (v / 256)) = (rsN (((xs (i + 2)).toInt64 <<< ((nI 32).toInt64 &&& 63)) ||| ((xs (i + 3)).toInt64 &&& lN 4294967295)) * (rsN (((xs (i + 4)).toInt64 <<< ((nI 32).toInt64 &&& 63)) ||| ((xs (i + 5)).toInt64 &&& lN 4294967295)) ^ 32001 % 32003) % 32003) := nI_cf hR hk9 (w := (v % 16, v / 16 % 16, v / 256)) hu9 hcl hX9
          rcases er198 with ⟨hz9, rfl⟩ | ⟨hz9, rfl⟩
          · refine lv_istore (lv' := [(6, .int 0), (5, .int (nI 0)), (4, .int (nI i)), (3, .ref oa), (2, .ref mo), (1, .ref o), (0, .ref b)]) hx hb d_L_law_285 hl (by decide) rfl (fun ls hl => ?_)
            refine lv_aload_n hx hb d_L_law_287 rfl (lv_at hl 4 rfl) ?_
            refine mp_calli hI (va_runV (As := []) (rest := []) ⟨hx, hb, hml, hown, hg⟩ (c_M_thrown l D g S195 _ mo (.int (nI nl)) (.int (nI gv)) (.int (nI tk)) (.ref (ad 2001)) (.int (nI n)) (.ref (ad 2002)) (.ref (ad 2003)) (.ref (ad 2004)) (.ref (ad 2005)) (.ref (ad 2006)) (.ref (ad 2007)) (.int kn) (.int ak) (.int s0) (.ref (ad 2008)) (.ref (ad 2009)) (.ref (ad 2010)) (.ref (ad 2011)) (.ref (ad 2012)) (.ref (ad 2013)) (.int z0) (.ref (ad 2014)) (.ref (ad 2015)) (.ref (ad 2016)) (.ref (ad 2017)) (.ref (ad 2018)) (.ref (ad 2019)) (.ref (ad 2020)) (.ref (ad 2021)) (.ref (ad 2022)) (nI 0) h_mo) ⟨(callB_of 0 hg (wd_goodG q_902) rfl rfl rfl (hg _ q_5) (hg _ q_899) (by decide +kernel) ⟨Nat.le_of_ble_eq_true rfl, Nat.le_of_ble_eq_true rfl⟩), hg _ q_900, hg _ q_901⟩ (mp_preV (C := R_M) (T := F_M) hI hK h_mo rfl []) rfl rfl hl.1 rfl (lv_room (Nat.le_of_ble_eq_true rfl)) d_L_law_288 ⟨by omega, by omega⟩) (fun r202 S199 H200 locs p_201 hI => ?_)
            obtain ⟨er202, eS203⟩ := p_201
            rw [eS203] at hI
            have er202 : r202 = nI 0 := er202
            subst er202
            refine lv_iload hx hb d_L_law_291 (lv_at hl 1 rfl) ?_
            refine lv_icmp_eq (tgt := 298) hx hb d_L_law_293 (by decide) (fun _ => ?_) (fun h9 => absurd (rfl) h9)
            refine lv_iload hx hb d_L_law_298 (lv_at hl 1 rfl) ?_
            refine lv_if_ne (tgt := 322) hx hb d_L_law_300 (by decide) (fun h9 => absurd h9 (by decide)) (fun _ => ?_)
            refine lv_aload_n hx hb d_L_law_303 rfl (lv_at hl 3 rfl) ?_
            refine lv_iconst (v := nI 0) hx hb d_L_law_304 (by decide) ?_
            refine mp_lald hx hb hK.va hI 4 h_oa rfl (vp_in_nI (by decide) (by decide)) d_L_law_305 ?_
            refine lv_topl (fun v204 ev204 => ?_)
            obtain rfl : v204 = lN 0 := ev204.trans (hf1.trans (if_pos (hcq.mp hz9)))
            refine lv_iload hx hb d_L_law_306 (lv_at hl 0 rfl) ?_
            refine lv_if_eq (tgt := 315) hx hb d_L_law_308 (by decide) (fun _ => ?_) (fun h9 => absurd (by decide) h9)
            refine lv_lconst (v := lN 0) hx hb d_L_law_315 (by decide) ?_
            refine W.lcmp hx hb d_L_law_316 ?_
            refine lv_if_eq (tgt := 322) hx hb d_L_law_317 (by decide) (fun _ => ?_) (fun h9 => absurd (lg_same rfl) h9)
            refine lv_goto (tgt := 822) hx hb d_L_law_322 (by decide) ?_
            refine W.widen (k := cells + 189) (n := slots + 11130) (by omega) (by omega) ?_
            exact kx S195 _ _ ls ⟨(pa), (lo), (fa0), (ma), (hd), (eo), (me), (ad), ((va_up cf k9 (va_up (cf k9) (kN (v % 16) (v / 16 % 16) (v / 256)) (rsN (((xs (i + 2)).toInt64 <<< ((nI 32).toInt64 &&& 63)) ||| ((xs (i + 3)).toInt64 &&& lN 4294967295)) * (rsN (((xs (i + 4)).toInt64 <<< ((nI 32).toInt64 &&& 63)) ||| ((xs (i + 5)).toInt64 &&& lN 4294967295)) ^ 32001 % 32003) % 32003)))), (gv), (tk), (n), (fq), (an), (av), (sv), (ff), (hq), (zq), (mq), (cq), (nI 0), (kn), (ak), (s0), (z0), ((va_up PO (1000 * k9 + (v % 16 + 10 * (v / 16 % 16) + 100 * (v / 256))) (fc (rsN (((xs (i + 2)).toInt64 <<< ((nI 32).toInt64 &&& 63)) ||| ((xs (i + 3)).toInt64 &&& lN 4294967295)) * (rsN (((xs (i + 4)).toInt64 <<< ((nI 32).toInt64 &&& 63)) ||| ((xs (i + 5)).toInt64 &&& lN 4294967295)) ^ 32001 % 32003) % 32003)))), (LF), (DG), (LE), (ZM), (OF), (FV), (f1), h_o, h_pa, h_fa0, h_oa, h_mo, h_mp, h_le, h_dg, h_lt, h_ze, h_oq, h_fv, hP, hL, hM, hWk, hA, hgv, htk, hnt, (plR_put hR hu9 _), (plI_put hI9 hu9 hiu _), hIn, hF9⟩ hI (lv_sub hl [2, 3, 4, 5, 6] rfl)
          · refine lv_istore (lv' := [(6, .int 1), (5, .int (nI 0)), (4, .int (nI i)), (3, .ref oa), (2, .ref mo), (1, .ref o), (0, .ref b)]) hx hb d_L_law_285 hl (by decide) rfl (fun ls hl => ?_)
            refine lv_aload_n hx hb d_L_law_287 rfl (lv_at hl 4 rfl) ?_
            refine mp_calli hI (va_runV (As := []) (rest := []) ⟨hx, hb, hml, hown, hg⟩ (c_M_thrown l D g S195 _ mo (.int (nI nl)) (.int (nI gv)) (.int (nI tk)) (.ref (ad 2001)) (.int (nI n)) (.ref (ad 2002)) (.ref (ad 2003)) (.ref (ad 2004)) (.ref (ad 2005)) (.ref (ad 2006)) (.ref (ad 2007)) (.int kn) (.int ak) (.int s0) (.ref (ad 2008)) (.ref (ad 2009)) (.ref (ad 2010)) (.ref (ad 2011)) (.ref (ad 2012)) (.ref (ad 2013)) (.int z0) (.ref (ad 2014)) (.ref (ad 2015)) (.ref (ad 2016)) (.ref (ad 2017)) (.ref (ad 2018)) (.ref (ad 2019)) (.ref (ad 2020)) (.ref (ad 2021)) (.ref (ad 2022)) (nI 0) h_mo) ⟨(callB_of 0 hg (wd_goodG q_902) rfl rfl rfl (hg _ q_5) (hg _ q_899) (by decide +kernel) ⟨Nat.le_of_ble_eq_true rfl, Nat.le_of_ble_eq_true rfl⟩), hg _ q_900, hg _ q_901⟩ (mp_preV (C := R_M) (T := F_M) hI hK h_mo rfl []) rfl rfl hl.1 rfl (lv_room (Nat.le_of_ble_eq_true rfl)) d_L_law_288 ⟨by omega, by omega⟩) (fun r208 S205 H206 locs p_207 hI => ?_)
            obtain ⟨er208, eS209⟩ := p_207
            rw [eS209] at hI
            have er208 : r208 = nI 0 := er208
            subst er208
            refine lv_iload hx hb d_L_law_291 (lv_at hl 1 rfl) ?_
            refine lv_icmp_eq (tgt := 298) hx hb d_L_law_293 (by decide) (fun _ => ?_) (fun h9 => absurd (rfl) h9)
            refine lv_iload hx hb d_L_law_298 (lv_at hl 1 rfl) ?_
            refine lv_if_ne (tgt := 322) hx hb d_L_law_300 (by decide) (fun h9 => absurd h9 (by decide)) (fun _ => ?_)
            refine lv_aload_n hx hb d_L_law_303 rfl (lv_at hl 3 rfl) ?_
            refine lv_iconst (v := nI 0) hx hb d_L_law_304 (by decide) ?_
            refine mp_lald hx hb hK.va hI 4 h_oa rfl (vp_in_nI (by decide) (by decide)) d_L_law_305 ?_
            refine lv_topl (fun v210 ev210 => ?_)
            obtain rfl : v210 = lN 1 := ev210.trans (hf1.trans (if_neg (fun h9 => hz9 (hcq.mpr h9))))
            refine lv_iload hx hb d_L_law_306 (lv_at hl 0 rfl) ?_
            refine lv_if_eq (tgt := 315) hx hb d_L_law_308 (by decide) (fun h9 => absurd h9 (by decide)) (fun _ => ?_)
            refine lv_lconst (v := lN 1) hx hb d_L_law_311 (by decide) ?_
            refine lv_goto (tgt := 316) hx hb d_L_law_312 (by decide) ?_
            refine W.lcmp hx hb d_L_law_316 ?_
            refine lv_if_eq (tgt := 322) hx hb d_L_law_317 (by decide) (fun _ => ?_) (fun h9 => absurd (lg_same rfl) h9)
            refine lv_goto (tgt := 822) hx hb d_L_law_322 (by decide) ?_
            refine W.widen (k := cells + 189) (n := slots + 11130) (by omega) (by omega) ?_
            exact kx S195 _ _ ls ⟨(pa), (lo), (fa0), (ma), (hd), (eo), (me), (ad), ((va_up cf k9 (va_up (cf k9) (kN (v % 16) (v / 16 % 16) (v / 256)) (rsN (((xs (i + 2)).toInt64 <<< ((nI 32).toInt64 &&& 63)) ||| ((xs (i + 3)).toInt64 &&& lN 4294967295)) * (rsN (((xs (i + 4)).toInt64 <<< ((nI 32).toInt64 &&& 63)) ||| ((xs (i + 5)).toInt64 &&& lN 4294967295)) ^ 32001 % 32003) % 32003)))), (gv), (tk), (n), (fq), (an), (av), (sv), (ff), (hq), (zq), (mq), (cq), (nI 0), (kn), (ak), (s0), (z0), ((va_up PO (1000 * k9 + (v % 16 + 10 * (v / 16 % 16) + 100 * (v / 256))) (fc (rsN (((xs (i + 2)).toInt64 <<< ((nI 32).toInt64 &&& 63)) ||| ((xs (i + 3)).toInt64 &&& lN 4294967295)) * (rsN (((xs (i + 4)).toInt64 <<< ((nI 32).toInt64 &&& 63)) ||| ((xs (i + 5)).toInt64 &&& lN 4294967295)) ^ 32001 % 32003) % 32003)))), (LF), (DG), (LE), (ZM), (OF), (FV), (f1), h_o, h_pa, h_fa0, h_oa, h_mo, h_mp, h_le, h_dg, h_lt, h_ze, h_oq, h_fv, hP, hL, hM, hWk, hA, hgv, htk, hnt, (plR_put hR hu9 _), (plI_put hI9 hu9 hiu _), hIn, hF9⟩ hI (lv_sub hl [2, 3, 4, 5, 6] rfl)
      · refine lv_aload_n hx hb d_L_law_160 rfl (lv_at hl 3 rfl) ?_
        refine lv_aload_n hx hb d_L_law_161 rfl (lv_at hl 4 rfl) ?_
        refine lv_iload hx hb d_L_law_162 (lv_at hl 0 rfl) ?_
        refine lv_iconst (v := nI 1) hx hb d_L_law_164 (by decide) ?_
        refine lv_iadd hx hb d_L_law_165 ?_
        refine lv_topi (fun v79 ev79 => ?_)
        obtain rfl : v79 = nI (i + 1) := ev79.trans (nI_add _ _)
        refine mp_sld hx hb hX hK hI (vp_in_nI (show (i + 1) < L by omega) (by omega)) d_L_law_166 ?_
        refine lv_topi (fun v80 ev80 => ?_)
        obtain rfl : v80 = xs (i + 1) := ev80.trans (by rw [nI_clamp (by omega)])
        refine lv_topi (fun v81 ev81 => ?_)
        obtain rfl : v81 = nI k9 := ev81.trans (hxk)
        refine lv_aload_n hx hb d_L_law_167 rfl (lv_at hl 4 rfl) ?_
        refine lv_iload hx hb d_L_law_168 (lv_at hl 0 rfl) ?_
        refine lv_iconst (v := nI 2) hx hb d_L_law_170 (by decide) ?_
        refine lv_iadd hx hb d_L_law_171 ?_
        refine lv_topi (fun v82 ev82 => ?_)
        obtain rfl : v82 = nI (i + 2) := ev82.trans (nI_add _ _)
        refine mp_sld hx hb hX hK hI (vp_in_nI (show (i + 2) < L by omega) (by omega)) d_L_law_172 ?_
        refine lv_topi (fun v83 ev83 => ?_)
        obtain rfl : v83 = xs (i + 2) := ev83.trans (by rw [nI_clamp (by omega)])
        refine lv_i2l (v := (xs (i + 2)).toInt64) hx hb d_L_law_173 rfl ?_
        refine lv_bipush (v := nI 32) hx hb d_L_law_174 (by decide) ?_
        refine lv_lshl (v := ((xs (i + 2)).toInt64 <<< ((nI 32).toInt64 &&& 63))) hx hb d_L_law_176 rfl ?_
        refine lv_aload_n hx hb d_L_law_177 rfl (lv_at hl 4 rfl) ?_
        refine lv_iload hx hb d_L_law_178 (lv_at hl 0 rfl) ?_
        refine lv_iconst (v := nI 3) hx hb d_L_law_180 (by decide) ?_
        refine lv_iadd hx hb d_L_law_181 ?_
        refine lv_topi (fun v84 ev84 => ?_)
        obtain rfl : v84 = nI (i + 3) := ev84.trans (nI_add _ _)
        refine mp_sld hx hb hX hK hI (vp_in_nI (show (i + 3) < L by omega) (by omega)) d_L_law_182 ?_
        refine lv_topi (fun v85 ev85 => ?_)
        obtain rfl : v85 = xs (i + 3) := ev85.trans (by rw [nI_clamp (by omega)])
        refine lv_i2l (v := (xs (i + 3)).toInt64) hx hb d_L_law_183 rfl ?_
        refine lv_ldc2 (v := lN 4294967295) hx hb hown (hg _ q_1107) d_L_law_184 ?_
        refine lv_land hx hb d_L_law_187 ?_
        refine lv_lor hx hb d_L_law_188 ?_
        refine lv_aload_n hx hb d_L_law_189 rfl (lv_at hl 4 rfl) ?_
        refine lv_iload hx hb d_L_law_190 (lv_at hl 0 rfl) ?_
        refine lv_iconst (v := nI 4) hx hb d_L_law_192 (by decide) ?_
        refine lv_iadd hx hb d_L_law_193 ?_
        refine lv_topi (fun v86 ev86 => ?_)
        obtain rfl : v86 = nI (i + 4) := ev86.trans (nI_add _ _)
        refine mp_sld hx hb hX hK hI (vp_in_nI (show (i + 4) < L by omega) (by omega)) d_L_law_194 ?_
        refine lv_topi (fun v87 ev87 => ?_)
        obtain rfl : v87 = xs (i + 4) := ev87.trans (by rw [nI_clamp (by omega)])
        refine lv_i2l (v := (xs (i + 4)).toInt64) hx hb d_L_law_195 rfl ?_
        refine lv_bipush (v := nI 32) hx hb d_L_law_196 (by decide) ?_
        refine lv_lshl (v := ((xs (i + 4)).toInt64 <<< ((nI 32).toInt64 &&& 63))) hx hb d_L_law_198 rfl ?_
        refine lv_aload_n hx hb d_L_law_199 rfl (lv_at hl 4 rfl) ?_
        refine lv_iload hx hb d_L_law_200 (lv_at hl 0 rfl) ?_
        refine lv_iconst (v := nI 5) hx hb d_L_law_202 (by decide) ?_
        refine lv_iadd hx hb d_L_law_203 ?_
        refine lv_topi (fun v88 ev88 => ?_)
        obtain rfl : v88 = nI (i + 5) := ev88.trans (nI_add _ _)
        refine mp_sld hx hb hX hK hI (vp_in_nI (show (i + 5) < L by omega) (by omega)) d_L_law_204 ?_
        refine lv_topi (fun v89 ev89 => ?_)
        obtain rfl : v89 = xs (i + 5) := ev89.trans (by rw [nI_clamp (by omega)])
        refine lv_i2l (v := (xs (i + 5)).toInt64) hx hb d_L_law_205 rfl ?_
        refine lv_ldc2 (v := lN 4294967295) hx hb hown (hg _ q_1107) d_L_law_206 ?_
        refine lv_land hx hb d_L_law_209 ?_
        refine lv_lor hx hb d_L_law_210 ?_
        refine lv_aload_n hx hb d_L_law_211 rfl (lv_at hl 4 rfl) ?_
        refine lv_iload hx hb d_L_law_212 (lv_at hl 0 rfl) ?_
        refine lv_bipush (v := nI 6) hx hb d_L_law_214 (by decide) ?_
        refine lv_iadd hx hb d_L_law_216 ?_
        refine lv_topi (fun v90 ev90 => ?_)
        obtain rfl : v90 = nI (i + 6) := ev90.trans (nI_add _ _)
        refine mp_sld hx hb hX hK hI (vp_in_nI (show (i + 6) < L by omega) (by omega)) d_L_law_217 ?_
        refine lv_topi (fun v91 ev91 => ?_)
        obtain rfl : v91 = xs (i + 6) := ev91.trans (by rw [nI_clamp (by omega)])
        refine lv_topi (fun v92 ev92 => ?_)
        obtain rfl : v92 = nI v := ev92.trans (hxv)
        refine lv_aload_n hx hb d_L_law_218 rfl (lv_at hl 1 rfl) ?_
        refine mp_calli hI (lw_runS (As := [.ref o, .int (nI k9), .long (((xs (i + 2)).toInt64 <<< ((nI 32).toInt64 &&& 63)) ||| ((xs (i + 3)).toInt64 &&& lN 4294967295)), .long (((xs (i + 4)).toInt64 <<< ((nI 32).toInt64 &&& 63)) ||| ((xs (i + 5)).toInt64 &&& lN 4294967295)), .int (nI v), .ref oa]) (rest := []) ⟨hx, hb, hml, hown, hg⟩ (c_L_termA l D g S _ o pa nl eo (.ref lo) (.ref fa0) (.int (nI gv)) (.int (nI tk)) (.int fq) (.int an) (.int av) (sv) k9 v (((xs (i + 2)).toInt64 <<< ((nI 32).toInt64 &&& 63)) ||| ((xs (i + 3)).toInt64 &&& lN 4294967295)) (((xs (i + 4)).toInt64 <<< ((nI 32).toInt64 &&& 63)) ||| ((xs (i + 5)).toInt64 &&& lN 4294967295)) oa of h_o h_pa h_oa hl9 hk9 hv (by omega) (by omega) hp) ⟨callBW_of 6 hg (hts _ q_621) rfl rfl (hg _ q_0) (hg _ q_619) (by decide +kernel) ⟨Nat.le_of_ble_eq_true rfl, Nat.le_of_ble_eq_true rfl⟩, hg _ q_620⟩ (mp_pre hI hK [.ref o, .int (nI k9), .long (((xs (i + 2)).toInt64 <<< ((nI 32).toInt64 &&& 63)) ||| ((xs (i + 3)).toInt64 &&& lN 4294967295)), .long (((xs (i + 4)).toInt64 <<< ((nI 32).toInt64 &&& 63)) ||| ((xs (i + 5)).toInt64 &&& lN 4294967295)), .int (nI v), .ref oa]) rfl rfl hl.1 rfl (lv_room (Nat.le_of_ble_eq_true rfl)) d_L_law_219 ⟨by omega, by omega⟩) (fun r96 S93 H94 locs p_95 hI => ?_)
        obtain ⟨er96, eS97⟩ := p_95
        rw [eS97] at hI
        have er96 : r96 = nI 2 := er96
        subst er96
        refine lv_istore (lv' := [(5, .int (nI 2)), (4, .int (nI i)), (3, .ref oa), (2, .ref mo), (1, .ref o), (0, .ref b)]) hx hb d_L_law_222 hl (by decide) rfl (fun ls hl => ?_)
        refine lv_aload_n hx hb d_L_law_224 rfl (lv_at hl 3 rfl) ?_
        refine lv_aload_n hx hb d_L_law_225 rfl (lv_at hl 5 rfl) ?_
        refine lv_iload hx hb d_L_law_226 (lv_at hl 1 rfl) ?_
        refine lv_iconst (v := nI 1) hx hb d_L_law_228 (by decide) ?_
        refine lv_iadd hx hb d_L_law_229 ?_
        refine lv_topi (fun v98 ev98 => ?_)
        obtain rfl : v98 = nI (i + 1) := ev98.trans (nI_add _ _)
        refine mp_sld hx hb hX hK hI (vp_in_nI (show (i + 1) < L by omega) (by omega)) d_L_law_230 ?_
        refine lv_topi (fun v99 ev99 => ?_)
        obtain rfl : v99 = xs (i + 1) := ev99.trans (by rw [nI_clamp (by omega)])
        refine lv_topi (fun v100 ev100 => ?_)
        obtain rfl : v100 = nI k9 := ev100.trans (hxk)
        refine lv_aload_n hx hb d_L_law_231 rfl (lv_at hl 5 rfl) ?_
        refine lv_iload hx hb d_L_law_232 (lv_at hl 1 rfl) ?_
        refine lv_iconst (v := nI 2) hx hb d_L_law_234 (by decide) ?_
        refine lv_iadd hx hb d_L_law_235 ?_
        refine lv_topi (fun v101 ev101 => ?_)
        obtain rfl : v101 = nI (i + 2) := ev101.trans (nI_add _ _)
        refine mp_sld hx hb hX hK hI (vp_in_nI (show (i + 2) < L by omega) (by omega)) d_L_law_236 ?_
        refine lv_topi (fun v102 ev102 => ?_)
        obtain rfl : v102 = xs (i + 2) := ev102.trans (by rw [nI_clamp (by omega)])
        refine lv_i2l (v := (xs (i + 2)).toInt64) hx hb d_L_law_237 rfl ?_
        refine lv_bipush (v := nI 32) hx hb d_L_law_238 (by decide) ?_
        refine lv_lshl (v := ((xs (i + 2)).toInt64 <<< ((nI 32).toInt64 &&& 63))) hx hb d_L_law_240 rfl ?_
        refine lv_aload_n hx hb d_L_law_241 rfl (lv_at hl 5 rfl) ?_
        refine lv_iload hx hb d_L_law_242 (lv_at hl 1 rfl) ?_
        refine lv_iconst (v := nI 3) hx hb d_L_law_244 (by decide) ?_
        refine lv_iadd hx hb d_L_law_245 ?_
        refine lv_topi (fun v103 ev103 => ?_)
        obtain rfl : v103 = nI (i + 3) := ev103.trans (nI_add _ _)
        refine mp_sld hx hb hX hK hI (vp_in_nI (show (i + 3) < L by omega) (by omega)) d_L_law_246 ?_
        refine lv_topi (fun v104 ev104 => ?_)
        obtain rfl : v104 = xs (i + 3) := ev104.trans (by rw [nI_clamp (by omega)])
        refine lv_i2l (v := (xs (i + 3)).toInt64) hx hb d_L_law_247 rfl ?_
        refine lv_ldc2 (v := lN 4294967295) hx hb hown (hg _ q_1107) d_L_law_248 ?_
        refine lv_land hx hb d_L_law_251 ?_
        refine lv_lor hx hb d_L_law_252 ?_
        refine lv_aload_n hx hb d_L_law_253 rfl (lv_at hl 5 rfl) ?_
        refine lv_iload hx hb d_L_law_254 (lv_at hl 1 rfl) ?_
        refine lv_iconst (v := nI 4) hx hb d_L_law_256 (by decide) ?_
        refine lv_iadd hx hb d_L_law_257 ?_
        refine lv_topi (fun v105 ev105 => ?_)
        obtain rfl : v105 = nI (i + 4) := ev105.trans (nI_add _ _)
        refine mp_sld hx hb hX hK hI (vp_in_nI (show (i + 4) < L by omega) (by omega)) d_L_law_258 ?_
        refine lv_topi (fun v106 ev106 => ?_)
        obtain rfl : v106 = xs (i + 4) := ev106.trans (by rw [nI_clamp (by omega)])
        refine lv_i2l (v := (xs (i + 4)).toInt64) hx hb d_L_law_259 rfl ?_
        refine lv_bipush (v := nI 32) hx hb d_L_law_260 (by decide) ?_
        refine lv_lshl (v := ((xs (i + 4)).toInt64 <<< ((nI 32).toInt64 &&& 63))) hx hb d_L_law_262 rfl ?_
        refine lv_aload_n hx hb d_L_law_263 rfl (lv_at hl 5 rfl) ?_
        refine lv_iload hx hb d_L_law_264 (lv_at hl 1 rfl) ?_
        refine lv_iconst (v := nI 5) hx hb d_L_law_266 (by decide) ?_
        refine lv_iadd hx hb d_L_law_267 ?_
        refine lv_topi (fun v107 ev107 => ?_)
        obtain rfl : v107 = nI (i + 5) := ev107.trans (nI_add _ _)
        refine mp_sld hx hb hX hK hI (vp_in_nI (show (i + 5) < L by omega) (by omega)) d_L_law_268 ?_
        refine lv_topi (fun v108 ev108 => ?_)
        obtain rfl : v108 = xs (i + 5) := ev108.trans (by rw [nI_clamp (by omega)])
        refine lv_i2l (v := (xs (i + 5)).toInt64) hx hb d_L_law_269 rfl ?_
        refine lv_ldc2 (v := lN 4294967295) hx hb hown (hg _ q_1107) d_L_law_270 ?_
        refine lv_land hx hb d_L_law_273 ?_
        refine lv_lor hx hb d_L_law_274 ?_
        refine lv_aload_n hx hb d_L_law_275 rfl (lv_at hl 5 rfl) ?_
        refine lv_iload hx hb d_L_law_276 (lv_at hl 1 rfl) ?_
        refine lv_bipush (v := nI 6) hx hb d_L_law_278 (by decide) ?_
        refine lv_iadd hx hb d_L_law_280 ?_
        refine lv_topi (fun v109 ev109 => ?_)
        obtain rfl : v109 = nI (i + 6) := ev109.trans (nI_add _ _)
        refine mp_sld hx hb hX hK hI (vp_in_nI (show (i + 6) < L by omega) (by omega)) d_L_law_281 ?_
        refine lv_topi (fun v110 ev110 => ?_)
        obtain rfl : v110 = xs (i + 6) := ev110.trans (by rw [nI_clamp (by omega)])
        refine lv_topi (fun v111 ev111 => ?_)
        obtain rfl : v111 = nI v := ev111.trans (hxv)
        refine mp_calli hI (va_runV (As := [.int (nI k9), .long (((xs (i + 2)).toInt64 <<< ((nI 32).toInt64 &&& 63)) ||| ((xs (i + 3)).toInt64 &&& lN 4294967295)), .long (((xs (i + 4)).toInt64 <<< ((nI 32).toInt64 &&& 63)) ||| ((xs (i + 5)).toInt64 &&& lN 4294967295)), .int (nI v)]) (rest := []) ⟨hx, hb, hml, hown, hg⟩ (c_M_termA l D g S _ mo nl k9 v (.int (nI gv)) (.int (nI tk)) (.ref (ad 2001)) (.int (nI n)) (.ref (ad 2002)) (.ref (ad 2003)) (.ref (ad 2004)) (.ref (ad 2005)) (.ref (ad 2006)) (.ref (ad 2007)) (.int kn) (.int ak) (.int s0) (.ref (ad 2008)) (.ref (ad 2009)) (.ref (ad 2010)) (.ref (ad 2011)) (.ref (ad 2012)) (.ref (ad 2013)) (.int z0) (.ref (ad 2014)) (.ref (ad 2015)) (.ref (ad 2016)) (.ref (ad 2017)) (.ref (ad 2018)) (.ref (ad 2019)) (.ref (ad 2020)) (.ref (ad 2021)) (.ref (ad 2022)) th (((xs (i + 2)).toInt64 <<< ((nI 32).toInt64 &&& 63)) ||| ((xs (i + 3)).toInt64 &&& lN 4294967295)) (((xs (i + 4)).toInt64 <<< ((nI 32).toInt64 &&& 63)) ||| ((xs (i + 5)).toInt64 &&& lN 4294967295)) h_mo hk9 hv (by omega) (by omega) hp) ⟨(callB_of 4 hg (wd_goodG q_910) rfl rfl rfl (hg _ q_5) (hg _ q_907) (by decide +kernel) ⟨Nat.le_of_ble_eq_true rfl, Nat.le_of_ble_eq_true rfl⟩), hg _ q_908, hg _ q_909⟩ (mp_preV (C := R_M) (T := F_M) hI hK h_mo rfl [.int (nI k9), .long (((xs (i + 2)).toInt64 <<< ((nI 32).toInt64 &&& 63)) ||| ((xs (i + 3)).toInt64 &&& lN 4294967295)), .long (((xs (i + 4)).toInt64 <<< ((nI 32).toInt64 &&& 63)) ||| ((xs (i + 5)).toInt64 &&& lN 4294967295)), .int (nI v)]) rfl rfl hl.1 rfl (lv_room (Nat.le_of_ble_eq_true rfl)) d_L_law_282 ⟨by omega, by omega⟩) (fun r115 S112 H113 locs p_114 hI => ?_)
        obtain ⟨q_mo, fr⟩ := p_114
        have h_o : S112 o = some (0, .inr (0, [.int (nI nl), .ref pa, .ref lo, .ref fa0, .int (nI gv), .int (nI tk), .int fq, .int an, .int av, sv])) := (fr o (mp_in h_o) (mp_ne h_o h_mo (by omega))).trans h_o
        have h_pa : S112 pa = some (1, .inl ((g 2), 40, .inr (.inr (.inr (.inr (rfs eo 40)))))) := (fr pa (mp_in h_pa) (mp_ne h_pa h_mo (by omega))).trans h_pa
        have h_fa0 : S112 fa0 = some (3, .inl ((g 0), 3, .inl ff)) := (fr fa0 (mp_in h_fa0) (mp_ne h_fa0 h_mo (by omega))).trans h_fa0
        have h_oa : S112 oa = some (9, .inl ((g 4), 1, .inr (.inl of))) := (fr oa (mp_in h_oa) (mp_ne h_oa h_mo (by omega))).trans h_oa
        have h_mp : S112 (ad 2001) = some (2001, .inl ((g 0), 40000, .inl (fun j => nI (PO j).val))) := (fr (ad 2001) (mp_in h_mp) (mp_ne h_mp h_mo (by omega))).trans h_mp
        have h_le : S112 (ad 2008) = some (2008, .inl ((g 0), 17, .inl (fun j => nI (LF j)))) := (fr (ad 2008) (mp_in h_le) (mp_ne h_le h_mo (by omega))).trans h_le
        have h_dg : S112 (ad 2010) = some (2010, .inl ((g 0), 3, .inl (fun j => nI (DG j)))) := (fr (ad 2010) (mp_in h_dg) (mp_ne h_dg h_mo (by omega))).trans h_dg
        have h_lt : S112 (ad 2011) = some (2011, .inl ((g 0), 51, .inl (fun j => nI (LE j).val))) := (fr (ad 2011) (mp_in h_lt) (mp_ne h_lt h_mo (by omega))).trans h_lt
        have h_ze : S112 (ad 2014) = some (2014, .inl ((g 0), 51, .inl (fun j => nI (ZM j).val))) := (fr (ad 2014) (mp_in h_ze) (mp_ne h_ze h_mo (by omega))).trans h_ze
        have h_oq : S112 (ad 2015) = some (2015, .inl ((g 0), 17, .inl (fun j => nI (OF j)))) := (fr (ad 2015) (mp_in h_oq) (mp_ne h_oq h_mo (by omega))).trans h_oq
        have h_fv : S112 (ad 2016) = some (2016, .inl ((g 5), 3, .inl FV)) := (fr (ad 2016) (mp_in h_fv) (mp_ne h_fv h_mo (by omega))).trans h_fv
        have hP := gPs_kept hP (S1 := S112) (fun b t9 e9 hb9 h1 h2 => by have h8 : S112 b = some (t9, e9) := (fr b (mp_in hb9) (mp_ne hb9 h_mo (by omega))).trans hb9; rw [h8, hb9])
        have hL := gLs_kept hL (S1 := S112) (fun b t9 e9 hb9 h1 h2 => by have h8 : S112 b = some (t9, e9) := (fr b (mp_in hb9) (mp_ne hb9 h_mo (by omega))).trans hb9; rw [h8, hb9])
        have hM := gMs_kept hM (S1 := S112) (fun b t9 e9 hb9 h1 h2 => by have h8 : S112 b = some (t9, e9) := (fr b (mp_in hb9) (mp_ne hb9 h_mo (by omega))).trans hb9; rw [h8, hb9])
        have hWk := gWs_kept hWk (S1 := S112) (fun b t9 e9 hb9 h1 h2 => by have h8 : S112 b = some (t9, e9) := (fr b (mp_in hb9) (mp_ne hb9 h_mo (by omega))).trans hb9; rw [h8, hb9])
        have hA := anP_kept hA (S1 := S112) (fun b t9 e9 hb9 h1 h2 => by have h8 : S112 b = some (t9, e9) := (fr b (mp_in hb9) (mp_ne hb9 h_mo (by omega))).trans hb9; rw [h8, hb9])
        have h_mo := q_mo
        refine lv_istore (lv' := [(6, .int r115), (5, .int (nI 2)), (4, .int (nI i)), (3, .ref oa), (2, .ref mo), (1, .ref o), (0, .ref b)]) hx hb d_L_law_285 hl (by decide) rfl (fun ls hl => ?_)
        refine lv_aload_n hx hb d_L_law_287 rfl (lv_at hl 4 rfl) ?_
        refine mp_calli hI (va_runV (As := []) (rest := []) ⟨hx, hb, hml, hown, hg⟩ (c_M_thrown l D g S112 _ mo (.int (nI nl)) (.int (nI gv)) (.int (nI tk)) (.ref (ad 2001)) (.int (nI n)) (.ref (ad 2002)) (.ref (ad 2003)) (.ref (ad 2004)) (.ref (ad 2005)) (.ref (ad 2006)) (.ref (ad 2007)) (.int kn) (.int ak) (.int s0) (.ref (ad 2008)) (.ref (ad 2009)) (.ref (ad 2010)) (.ref (ad 2011)) (.ref (ad 2012)) (.ref (ad 2013)) (.int z0) (.ref (ad 2014)) (.ref (ad 2015)) (.ref (ad 2016)) (.ref (ad 2017)) (.ref (ad 2018)) (.ref (ad 2019)) (.ref (ad 2020)) (.ref (ad 2021)) (.ref (ad 2022)) (nI 2) h_mo) ⟨(callB_of 0 hg (wd_goodG q_902) rfl rfl rfl (hg _ q_5) (hg _ q_899) (by decide +kernel) ⟨Nat.le_of_ble_eq_true rfl, Nat.le_of_ble_eq_true rfl⟩), hg _ q_900, hg _ q_901⟩ (mp_preV (C := R_M) (T := F_M) hI hK h_mo rfl []) rfl rfl hl.1 rfl (lv_room (Nat.le_of_ble_eq_true rfl)) d_L_law_288 ⟨by omega, by omega⟩) (fun r119 S116 H117 locs p_118 hI => ?_)
        obtain ⟨er119, eS120⟩ := p_118
        rw [eS120] at hI
        have er119 : r119 = nI 2 := er119
        subst er119
        refine lv_iload hx hb d_L_law_291 (lv_at hl 1 rfl) ?_
        refine lv_icmp_eq (tgt := 298) hx hb d_L_law_293 (by decide) (fun _ => ?_) (fun h9 => absurd (rfl) h9)
        refine lv_iload hx hb d_L_law_298 (lv_at hl 1 rfl) ?_
        refine lv_if_ne (tgt := 322) hx hb d_L_law_300 (by decide) (fun _ => ?_) (fun h9 => absurd h9 (by decide))
        refine lv_goto (tgt := 822) hx hb d_L_law_322 (by decide) ?_
        refine W.widen (k := cells + 189) (n := slots + 11130) (by omega) (by omega) ?_
        exact kx S112 _ _ ls ⟨(pa), (lo), (fa0), (ma), (hd), (eo), (me), (ad), (cf), (gv), (tk), (n), (fq), (an), (av), (sv), (ff), (hq), (zq), (mq), (cq), (nI 2), (kn), (ak), (s0), (z0), (PO), (LF), (DG), (LE), (ZM), (OF), (FV), (of), h_o, h_pa, h_fa0, h_oa, h_mo, h_mp, h_le, h_dg, h_lt, h_ze, h_oq, h_fv, hP, hL, hM, hWk, hA, hgv, htk, hnt, hR, hI9, hIn, hF9⟩ hI (lv_sub hl [2, 3, 4, 5, 6] rfl)
set_option maxHeartbeats 8000000 in
set_option maxRecDepth 100000 in
/-- take -/
theorem lk_take {p : Program} {l : Launch} {e : Env} {s : State} {m : MethodId} {below : List Frame} {meth : Method} {c : Code} {Q : State → Prop} {D : mp_G} {g : Nat → ClassId} {A : Nat → Prop} {b L i : Nat} {xs : Nat → Int32} {cells slots : Nat} {S : mp_M} {H : Heap} {locs : List Loc} {ls : Array Slot} (hx : p.tables.exec = Jvm.exec) (hb : c.code = b_L_law) (hml : c.maxLocals = 7) (hts : ∀ w ∈ lw_tbl, w.before #[Value.ref b] s = true) (hg : ∀ w ∈ gw, w.before #[Value.ref b] s = true) (hown : s.vm.findClass R_L = some m.cls) (hK : mp_K D classes (tys g) s) (hX : va_X b L xs D.2.1 D.2.1.heap) (hL9 : L ≤ 3585) (hi : i + 6 < L) (hc : cells + 189 ≤ room_1.cells) (hs9 : slots + 11130 ≤ room_1.slots) (hl9 : l.stackTraces = false) {nl oa mo o : Nat} (hnl : nl ≤ 3) (hn1 : 1 ≤ nl) (hV : lawI g nl o mo oa S) (hI : mp_I D classes A s.heap S H locs) (hl : lv_has ls 7 [(4, .int (nI i)), (3, .ref oa), (2, .ref mo), (1, .ref o), (0, .ref b)]) (kx : ∀ (S : mp_M) (H : Heap) (locs : List Loc) (ls : Array Slot), lawI g nl o mo oa S → mp_I D classes A s.heap S H locs → lv_has ls 7 [(4, .int (nI i)), (3, .ref oa), (2, .ref mo), (1, .ref o), (0, .ref b)] → W p l e room_1 s m #[Value.ref b] below meth c H locs (cells + 189) (slots + 11130) Q (F0 m 822 ls [])) : W p l e room_1 s m #[Value.ref b] below meth c H locs (cells) (slots) Q (F0 m 325 ls []) := by
  have hc : cells + 189 ≤ 164015 := hc
  have hs9 : slots + 11130 ≤ 8604026 := hs9
  obtain ⟨pa, lo, fa0, ma, hd, eo, me, ad, cf, gv, tk, n, fq, an, av, sv, ff, hq, zq, mq, cq, th, kn, ak, s0, z0, PO, LF, DG, LE, ZM, OF, FV, of, h_o, h_pa, h_fa0, h_oa, h_mo, h_mp, h_le, h_dg, h_lt, h_ze, h_oq, h_fv, hP, hL, hM, hWk, hA, hgv, htk, hnt, hR, hI9, hIn, hF9⟩ := hV
  rcases i32_40 (xs (i + 1)) with hx9 | ⟨k9, hk9, hxk⟩
  · refine lv_aload_n hx hb d_L_law_325 rfl (lv_at hl 3 rfl) ?_
    refine lv_aload_n hx hb d_L_law_326 rfl (lv_at hl 4 rfl) ?_
    refine lv_iload hx hb d_L_law_327 (lv_at hl 0 rfl) ?_
    refine lv_iconst (v := nI 1) hx hb d_L_law_329 (by decide) ?_
    refine lv_iadd hx hb d_L_law_330 ?_
    refine lv_topi (fun v1 ev1 => ?_)
    obtain rfl : v1 = nI (i + 1) := ev1.trans (nI_add _ _)
    refine mp_sld hx hb hX hK hI (vp_in_nI (show (i + 1) < L by omega) (by omega)) d_L_law_331 ?_
    refine lv_topi (fun v2 ev2 => ?_)
    obtain rfl : v2 = xs (i + 1) := ev2.trans (by rw [nI_clamp (by omega)])
    refine lv_aload_n hx hb d_L_law_332 rfl (lv_at hl 1 rfl) ?_
    refine mp_calli hI (lw_runS (As := [.ref o, .int (xs (i + 1)), .ref oa]) (rest := []) ⟨hx, hb, hml, hown, hg⟩ (c_L_takeX l D g S _ o pa nl (.ref lo) (.ref fa0) (.int (nI gv)) (.int (nI tk)) (.int fq) (.int an) (.int av) (sv) (xs (i + 1)) oa of h_o h_oa hl9 hx9) ⟨callBW_of 3 hg (hts _ q_718) rfl rfl (hg _ q_0) (hg _ q_716) (by decide +kernel) ⟨Nat.le_of_ble_eq_true rfl, Nat.le_of_ble_eq_true rfl⟩, hg _ q_717⟩ (mp_pre hI hK [.ref o, .int (xs (i + 1)), .ref oa]) rfl rfl hl.1 rfl (lv_room (Nat.le_of_ble_eq_true rfl)) d_L_law_333 ⟨by omega, by omega⟩) (fun r6 S3 H4 locs p_5 hI => ?_)
    obtain ⟨er6, eS7⟩ := p_5
    rw [eS7] at hI
    have er6 : r6 = nI 1 := er6
    subst er6
    refine lv_istore (lv' := [(5, .int (nI 1)), (4, .int (nI i)), (3, .ref oa), (2, .ref mo), (1, .ref o), (0, .ref b)]) hx hb d_L_law_336 hl (by decide) rfl (fun ls hl => ?_)
    refine lv_aload_n hx hb d_L_law_338 rfl (lv_at hl 3 rfl) ?_
    refine lv_aload_n hx hb d_L_law_339 rfl (lv_at hl 5 rfl) ?_
    refine lv_iload hx hb d_L_law_340 (lv_at hl 1 rfl) ?_
    refine lv_iconst (v := nI 1) hx hb d_L_law_342 (by decide) ?_
    refine lv_iadd hx hb d_L_law_343 ?_
    refine lv_topi (fun v8 ev8 => ?_)
    obtain rfl : v8 = nI (i + 1) := ev8.trans (nI_add _ _)
    refine mp_sld hx hb hX hK hI (vp_in_nI (show (i + 1) < L by omega) (by omega)) d_L_law_344 ?_
    refine lv_topi (fun v9 ev9 => ?_)
    obtain rfl : v9 = xs (i + 1) := ev9.trans (by rw [nI_clamp (by omega)])
    refine mp_calli hI (va_runV (As := [.int (xs (i + 1))]) (rest := []) ⟨hx, hb, hml, hown, hg⟩ (c_M_takeN l D g S _ mo (.int (nI nl)) (.int (nI gv)) (.int (nI tk)) (.ref (ad 2001)) (.int (nI n)) (.ref (ad 2002)) (.ref (ad 2003)) (.ref (ad 2004)) (.ref (ad 2005)) (.ref (ad 2006)) (.ref (ad 2007)) (.int kn) (.int ak) (.int s0) (.ref (ad 2008)) (.ref (ad 2009)) (.ref (ad 2010)) (.ref (ad 2011)) (.ref (ad 2012)) (.ref (ad 2013)) (.int z0) (.ref (ad 2014)) (.ref (ad 2015)) (.ref (ad 2016)) (.ref (ad 2017)) (.ref (ad 2018)) (.ref (ad 2019)) (.ref (ad 2020)) (.ref (ad 2021)) (.ref (ad 2022)) th (xs (i + 1)) h_mo hx9) ⟨(callB_of 1 hg (wd_goodG q_934) rfl rfl rfl (hg _ q_5) (hg _ q_931) (by decide +kernel) ⟨Nat.le_of_ble_eq_true rfl, Nat.le_of_ble_eq_true rfl⟩), hg _ q_932, hg _ q_933⟩ (mp_preV (C := R_M) (T := F_M) hI hK h_mo rfl [.int (xs (i + 1))]) rfl rfl hl.1 rfl (lv_room (Nat.le_of_ble_eq_true rfl)) d_L_law_345 ⟨by omega, by omega⟩) (fun r13 S10 H11 locs p_12 hI => ?_)
    obtain ⟨q_mo, fr⟩ := p_12
    have h_o : S10 o = some (0, .inr (0, [.int (nI nl), .ref pa, .ref lo, .ref fa0, .int (nI gv), .int (nI tk), .int fq, .int an, .int av, sv])) := (fr o (mp_in h_o) (mp_ne h_o h_mo (by omega))).trans h_o
    have h_pa : S10 pa = some (1, .inl ((g 2), 40, .inr (.inr (.inr (.inr (rfs eo 40)))))) := (fr pa (mp_in h_pa) (mp_ne h_pa h_mo (by omega))).trans h_pa
    have h_fa0 : S10 fa0 = some (3, .inl ((g 0), 3, .inl ff)) := (fr fa0 (mp_in h_fa0) (mp_ne h_fa0 h_mo (by omega))).trans h_fa0
    have h_oa : S10 oa = some (9, .inl ((g 4), 1, .inr (.inl of))) := (fr oa (mp_in h_oa) (mp_ne h_oa h_mo (by omega))).trans h_oa
    have h_mp : S10 (ad 2001) = some (2001, .inl ((g 0), 40000, .inl (fun j => nI (PO j).val))) := (fr (ad 2001) (mp_in h_mp) (mp_ne h_mp h_mo (by omega))).trans h_mp
    have h_le : S10 (ad 2008) = some (2008, .inl ((g 0), 17, .inl (fun j => nI (LF j)))) := (fr (ad 2008) (mp_in h_le) (mp_ne h_le h_mo (by omega))).trans h_le
    have h_dg : S10 (ad 2010) = some (2010, .inl ((g 0), 3, .inl (fun j => nI (DG j)))) := (fr (ad 2010) (mp_in h_dg) (mp_ne h_dg h_mo (by omega))).trans h_dg
    have h_lt : S10 (ad 2011) = some (2011, .inl ((g 0), 51, .inl (fun j => nI (LE j).val))) := (fr (ad 2011) (mp_in h_lt) (mp_ne h_lt h_mo (by omega))).trans h_lt
    have h_ze : S10 (ad 2014) = some (2014, .inl ((g 0), 51, .inl (fun j => nI (ZM j).val))) := (fr (ad 2014) (mp_in h_ze) (mp_ne h_ze h_mo (by omega))).trans h_ze
    have h_oq : S10 (ad 2015) = some (2015, .inl ((g 0), 17, .inl (fun j => nI (OF j)))) := (fr (ad 2015) (mp_in h_oq) (mp_ne h_oq h_mo (by omega))).trans h_oq
    have h_fv : S10 (ad 2016) = some (2016, .inl ((g 5), 3, .inl FV)) := (fr (ad 2016) (mp_in h_fv) (mp_ne h_fv h_mo (by omega))).trans h_fv
    have hP := gPs_kept hP (S1 := S10) (fun b t9 e9 hb9 h1 h2 => by have h8 : S10 b = some (t9, e9) := (fr b (mp_in hb9) (mp_ne hb9 h_mo (by omega))).trans hb9; rw [h8, hb9])
    have hL := gLs_kept hL (S1 := S10) (fun b t9 e9 hb9 h1 h2 => by have h8 : S10 b = some (t9, e9) := (fr b (mp_in hb9) (mp_ne hb9 h_mo (by omega))).trans hb9; rw [h8, hb9])
    have hM := gMs_kept hM (S1 := S10) (fun b t9 e9 hb9 h1 h2 => by have h8 : S10 b = some (t9, e9) := (fr b (mp_in hb9) (mp_ne hb9 h_mo (by omega))).trans hb9; rw [h8, hb9])
    have hWk := gWs_kept hWk (S1 := S10) (fun b t9 e9 hb9 h1 h2 => by have h8 : S10 b = some (t9, e9) := (fr b (mp_in hb9) (mp_ne hb9 h_mo (by omega))).trans hb9; rw [h8, hb9])
    have hA := anP_kept hA (S1 := S10) (fun b t9 e9 hb9 h1 h2 => by have h8 : S10 b = some (t9, e9) := (fr b (mp_in hb9) (mp_ne hb9 h_mo (by omega))).trans hb9; rw [h8, hb9])
    have h_mo := q_mo
    refine lv_istore (lv' := [(6, .int r13), (5, .int (nI 1)), (4, .int (nI i)), (3, .ref oa), (2, .ref mo), (1, .ref o), (0, .ref b)]) hx hb d_L_law_348 hl (by decide) rfl (fun ls hl => ?_)
    refine lv_aload_n hx hb d_L_law_350 rfl (lv_at hl 4 rfl) ?_
    refine mp_calli hI (va_runV (As := []) (rest := []) ⟨hx, hb, hml, hown, hg⟩ (c_M_thrown l D g S10 _ mo (.int (nI nl)) (.int (nI gv)) (.int (nI tk)) (.ref (ad 2001)) (.int (nI n)) (.ref (ad 2002)) (.ref (ad 2003)) (.ref (ad 2004)) (.ref (ad 2005)) (.ref (ad 2006)) (.ref (ad 2007)) (.int kn) (.int ak) (.int s0) (.ref (ad 2008)) (.ref (ad 2009)) (.ref (ad 2010)) (.ref (ad 2011)) (.ref (ad 2012)) (.ref (ad 2013)) (.int z0) (.ref (ad 2014)) (.ref (ad 2015)) (.ref (ad 2016)) (.ref (ad 2017)) (.ref (ad 2018)) (.ref (ad 2019)) (.ref (ad 2020)) (.ref (ad 2021)) (.ref (ad 2022)) (nI 1) h_mo) ⟨(callB_of 0 hg (wd_goodG q_902) rfl rfl rfl (hg _ q_5) (hg _ q_899) (by decide +kernel) ⟨Nat.le_of_ble_eq_true rfl, Nat.le_of_ble_eq_true rfl⟩), hg _ q_900, hg _ q_901⟩ (mp_preV (C := R_M) (T := F_M) hI hK h_mo rfl []) rfl rfl hl.1 rfl (lv_room (Nat.le_of_ble_eq_true rfl)) d_L_law_351 ⟨by omega, by omega⟩) (fun r17 S14 H15 locs p_16 hI => ?_)
    obtain ⟨er17, eS18⟩ := p_16
    rw [eS18] at hI
    have er17 : r17 = nI 1 := er17
    subst er17
    refine lv_iload hx hb d_L_law_354 (lv_at hl 1 rfl) ?_
    refine lv_icmp_eq (tgt := 361) hx hb d_L_law_356 (by decide) (fun _ => ?_) (fun h9 => absurd (rfl) h9)
    refine lv_iload hx hb d_L_law_361 (lv_at hl 1 rfl) ?_
    refine lv_if_ne (tgt := 385) hx hb d_L_law_363 (by decide) (fun _ => ?_) (fun h9 => absurd h9 (by decide))
    refine lv_goto (tgt := 822) hx hb d_L_law_385 (by decide) ?_
    refine W.widen (k := cells + 189) (n := slots + 11130) (by omega) (by omega) ?_
    exact kx S10 _ _ ls ⟨(pa), (lo), (fa0), (ma), (hd), (eo), (me), (ad), (cf), (gv), (tk), (n), (fq), (an), (av), (sv), (ff), (hq), (zq), (mq), (cq), (nI 1), (kn), (ak), (s0), (z0), (PO), (LF), (DG), (LE), (ZM), (OF), (FV), (of), h_o, h_pa, h_fa0, h_oa, h_mo, h_mp, h_le, h_dg, h_lt, h_ze, h_oq, h_fv, hP, hL, hM, hWk, hA, hgv, htk, hnt, hR, hI9, hIn, hF9⟩ hI (lv_sub hl [2, 3, 4, 5, 6] rfl)
  · by_cases ht9 : tk = 12
    · subst ht9
      refine lv_aload_n hx hb d_L_law_325 rfl (lv_at hl 3 rfl) ?_
      refine lv_aload_n hx hb d_L_law_326 rfl (lv_at hl 4 rfl) ?_
      refine lv_iload hx hb d_L_law_327 (lv_at hl 0 rfl) ?_
      refine lv_iconst (v := nI 1) hx hb d_L_law_329 (by decide) ?_
      refine lv_iadd hx hb d_L_law_330 ?_
      refine lv_topi (fun v19 ev19 => ?_)
      obtain rfl : v19 = nI (i + 1) := ev19.trans (nI_add _ _)
      refine mp_sld hx hb hX hK hI (vp_in_nI (show (i + 1) < L by omega) (by omega)) d_L_law_331 ?_
      refine lv_topi (fun v20 ev20 => ?_)
      obtain rfl : v20 = xs (i + 1) := ev20.trans (by rw [nI_clamp (by omega)])
      refine lv_topi (fun v21 ev21 => ?_)
      obtain rfl : v21 = nI k9 := ev21.trans (hxk)
      refine lv_aload_n hx hb d_L_law_332 rfl (lv_at hl 1 rfl) ?_
      refine mp_calli hI (lw_runS (As := [.ref o, .int (nI k9), .ref oa]) (rest := []) ⟨hx, hb, hml, hown, hg⟩ (c_L_takeF l D g S _ o pa lo nl eo (.ref fa0) (.int (nI gv)) (.int fq) (.int av) (sv) an k9 oa of h_o h_pa h_oa hk9) ⟨callBW_of 3 hg (hts _ q_718) rfl rfl (hg _ q_0) (hg _ q_716) (by decide +kernel) ⟨Nat.le_of_ble_eq_true rfl, Nat.le_of_ble_eq_true rfl⟩, hg _ q_717⟩ (mp_pre hI hK [.ref o, .int (nI k9), .ref oa]) rfl rfl hl.1 rfl (lv_room (Nat.le_of_ble_eq_true rfl)) d_L_law_333 ⟨by omega, by omega⟩) (fun r25 S22 H23 locs p_24 hI => ?_)
      obtain ⟨er25, ⟨f1, q_oa, hf1⟩, fr⟩ := p_24
      subst er25
      have h_o : S22 o = some (0, .inr (0, [.int (nI nl), .ref pa, .ref lo, .ref fa0, .int (nI gv), .int (nI 12), .int fq, .int an, .int av, sv])) := fr o _ _ h_o (by omega)
      have h_pa : S22 pa = some (1, .inl ((g 2), 40, .inr (.inr (.inr (.inr (rfs eo 40)))))) := fr pa _ _ h_pa (by omega)
      have h_fa0 : S22 fa0 = some (3, .inl ((g 0), 3, .inl ff)) := fr fa0 _ _ h_fa0 (by omega)
      have h_mo : S22 mo = some (2000, .inr (10, [.int (nI nl), .int (nI gv), .int (nI 12), .int th, .ref (ad 2001), .int (nI n), .ref (ad 2002), .ref (ad 2003), .ref (ad 2004), .ref (ad 2005), .ref (ad 2006), .ref (ad 2007), .int kn, .int ak, .int s0, .ref (ad 2008), .ref (ad 2009), .ref (ad 2010), .ref (ad 2011), .ref (ad 2012), .ref (ad 2013), .int z0, .ref (ad 2014), .ref (ad 2015), .ref (ad 2016), .ref (ad 2017), .ref (ad 2018), .ref (ad 2019), .ref (ad 2020), .ref (ad 2021), .ref (ad 2022)])) := fr mo _ _ h_mo (by omega)
      have h_mp : S22 (ad 2001) = some (2001, .inl ((g 0), 40000, .inl (fun j => nI (PO j).val))) := fr (ad 2001) _ _ h_mp (by omega)
      have h_le : S22 (ad 2008) = some (2008, .inl ((g 0), 17, .inl (fun j => nI (LF j)))) := fr (ad 2008) _ _ h_le (by omega)
      have h_dg : S22 (ad 2010) = some (2010, .inl ((g 0), 3, .inl (fun j => nI (DG j)))) := fr (ad 2010) _ _ h_dg (by omega)
      have h_lt : S22 (ad 2011) = some (2011, .inl ((g 0), 51, .inl (fun j => nI (LE j).val))) := fr (ad 2011) _ _ h_lt (by omega)
      have h_ze : S22 (ad 2014) = some (2014, .inl ((g 0), 51, .inl (fun j => nI (ZM j).val))) := fr (ad 2014) _ _ h_ze (by omega)
      have h_oq : S22 (ad 2015) = some (2015, .inl ((g 0), 17, .inl (fun j => nI (OF j)))) := fr (ad 2015) _ _ h_oq (by omega)
      have h_fv : S22 (ad 2016) = some (2016, .inl ((g 5), 3, .inl FV)) := fr (ad 2016) _ _ h_fv (by omega)
      have hP := gPs_kept hP (S1 := S22) (fun b t9 e9 hb9 h1 h2 => by have h8 : S22 b = some (t9, e9) := fr b _ _ hb9 (by omega); rw [h8, hb9])
      have hL := gLs_kept hL (S1 := S22) (fun b t9 e9 hb9 h1 h2 => by have h8 : S22 b = some (t9, e9) := fr b _ _ hb9 (by omega); rw [h8, hb9])
      have hM := gMs_kept hM (S1 := S22) (fun b t9 e9 hb9 h1 h2 => by have h8 : S22 b = some (t9, e9) := fr b _ _ hb9 (by omega); rw [h8, hb9])
      have hWk := gWs_kept hWk (S1 := S22) (fun b t9 e9 hb9 h1 h2 => by have h8 : S22 b = some (t9, e9) := fr b _ _ hb9 (by omega); rw [h8, hb9])
      have hA := anP_kept hA (S1 := S22) (fun b t9 e9 hb9 h1 h2 => by have h8 : S22 b = some (t9, e9) := fr b _ _ hb9 (by omega); rw [h8, hb9])
      have h_oa := q_oa
      refine lv_istore (lv' := [(5, .int (nI 0)), (4, .int (nI i)), (3, .ref oa), (2, .ref mo), (1, .ref o), (0, .ref b)]) hx hb d_L_law_336 hl (by decide) rfl (fun ls hl => ?_)
      refine lv_aload_n hx hb d_L_law_338 rfl (lv_at hl 3 rfl) ?_
      refine lv_aload_n hx hb d_L_law_339 rfl (lv_at hl 5 rfl) ?_
      refine lv_iload hx hb d_L_law_340 (lv_at hl 1 rfl) ?_
      refine lv_iconst (v := nI 1) hx hb d_L_law_342 (by decide) ?_
      refine lv_iadd hx hb d_L_law_343 ?_
      refine lv_topi (fun v26 ev26 => ?_)
      obtain rfl : v26 = nI (i + 1) := ev26.trans (nI_add _ _)
      refine mp_sld hx hb hX hK hI (vp_in_nI (show (i + 1) < L by omega) (by omega)) d_L_law_344 ?_
      refine lv_topi (fun v27 ev27 => ?_)
      obtain rfl : v27 = xs (i + 1) := ev27.trans (by rw [nI_clamp (by omega)])
      refine lv_topi (fun v28 ev28 => ?_)
      obtain rfl : v28 = nI k9 := ev28.trans (hxk)
      refine mp_calli hI (va_runV (As := [.int (nI k9)]) (rest := []) ⟨hx, hb, hml, hown, hg⟩ (c_M_takeF l D g S22 _ mo k9 (.int (nI nl)) (.int (nI gv)) (.ref (ad 2001)) (.int (nI n)) (.ref (ad 2002)) (.ref (ad 2003)) (.ref (ad 2004)) (.ref (ad 2005)) (.ref (ad 2006)) (.ref (ad 2007)) (.int kn) (.int ak) (.int s0) (.ref (ad 2008)) (.ref (ad 2009)) (.ref (ad 2010)) (.ref (ad 2011)) (.ref (ad 2012)) (.ref (ad 2013)) (.int z0) (.ref (ad 2014)) (.ref (ad 2015)) (.ref (ad 2016)) (.ref (ad 2017)) (.ref (ad 2018)) (.ref (ad 2019)) (.ref (ad 2020)) (.ref (ad 2021)) (.ref (ad 2022)) th h_mo hk9) ⟨(callB_of 1 hg (wd_goodG q_934) rfl rfl rfl (hg _ q_5) (hg _ q_931) (by decide +kernel) ⟨Nat.le_of_ble_eq_true rfl, Nat.le_of_ble_eq_true rfl⟩), hg _ q_932, hg _ q_933⟩ (mp_preV (C := R_M) (T := F_M) hI hK h_mo rfl [.int (nI k9)]) rfl rfl hl.1 rfl (lv_room (Nat.le_of_ble_eq_true rfl)) d_L_law_345 ⟨by omega, by omega⟩) (fun r32 S29 H30 locs p_31 hI => ?_)
      obtain ⟨er32, q_mo, fr⟩ := p_31
      subst er32
      have h_o : S29 o = some (0, .inr (0, [.int (nI nl), .ref pa, .ref lo, .ref fa0, .int (nI gv), .int (nI 12), .int fq, .int an, .int av, sv])) := fr o _ _ h_o (by omega)
      have h_pa : S29 pa = some (1, .inl ((g 2), 40, .inr (.inr (.inr (.inr (rfs eo 40)))))) := fr pa _ _ h_pa (by omega)
      have h_fa0 : S29 fa0 = some (3, .inl ((g 0), 3, .inl ff)) := fr fa0 _ _ h_fa0 (by omega)
      have h_oa : S29 oa = some (9, .inl ((g 4), 1, .inr (.inl f1))) := fr oa _ _ h_oa (by omega)
      have h_mp : S29 (ad 2001) = some (2001, .inl ((g 0), 40000, .inl (fun j => nI (PO j).val))) := fr (ad 2001) _ _ h_mp (by omega)
      have h_le : S29 (ad 2008) = some (2008, .inl ((g 0), 17, .inl (fun j => nI (LF j)))) := fr (ad 2008) _ _ h_le (by omega)
      have h_dg : S29 (ad 2010) = some (2010, .inl ((g 0), 3, .inl (fun j => nI (DG j)))) := fr (ad 2010) _ _ h_dg (by omega)
      have h_lt : S29 (ad 2011) = some (2011, .inl ((g 0), 51, .inl (fun j => nI (LE j).val))) := fr (ad 2011) _ _ h_lt (by omega)
      have h_ze : S29 (ad 2014) = some (2014, .inl ((g 0), 51, .inl (fun j => nI (ZM j).val))) := fr (ad 2014) _ _ h_ze (by omega)
      have h_oq : S29 (ad 2015) = some (2015, .inl ((g 0), 17, .inl (fun j => nI (OF j)))) := fr (ad 2015) _ _ h_oq (by omega)
      have h_fv : S29 (ad 2016) = some (2016, .inl ((g 5), 3, .inl FV)) := fr (ad 2016) _ _ h_fv (by omega)
      have hP := gPs_kept hP (S1 := S29) (fun b t9 e9 hb9 h1 h2 => by have h8 : S29 b = some (t9, e9) := fr b _ _ hb9 (by omega); rw [h8, hb9])
      have hL := gLs_kept hL (S1 := S29) (fun b t9 e9 hb9 h1 h2 => by have h8 : S29 b = some (t9, e9) := fr b _ _ hb9 (by omega); rw [h8, hb9])
      have hM := gMs_kept hM (S1 := S29) (fun b t9 e9 hb9 h1 h2 => by have h8 : S29 b = some (t9, e9) := fr b _ _ hb9 (by omega); rw [h8, hb9])
      have hWk := gWs_kept hWk (S1 := S29) (fun b t9 e9 hb9 h1 h2 => by have h8 : S29 b = some (t9, e9) := fr b _ _ hb9 (by omega); rw [h8, hb9])
      have hA := anP_kept hA (S1 := S29) (fun b t9 e9 hb9 h1 h2 => by have h8 : S29 b = some (t9, e9) := fr b _ _ hb9 (by omega); rw [h8, hb9])
      have h_mo := q_mo
      refine lv_istore (lv' := [(6, .int 0), (5, .int (nI 0)), (4, .int (nI i)), (3, .ref oa), (2, .ref mo), (1, .ref o), (0, .ref b)]) hx hb d_L_law_348 hl (by decide) rfl (fun ls hl => ?_)
      refine lv_aload_n hx hb d_L_law_350 rfl (lv_at hl 4 rfl) ?_
      refine mp_calli hI (va_runV (As := []) (rest := []) ⟨hx, hb, hml, hown, hg⟩ (c_M_thrown l D g S29 _ mo (.int (nI nl)) (.int (nI gv)) (.int (nI 12)) (.ref (ad 2001)) (.int (nI n)) (.ref (ad 2002)) (.ref (ad 2003)) (.ref (ad 2004)) (.ref (ad 2005)) (.ref (ad 2006)) (.ref (ad 2007)) (.int kn) (.int ak) (.int s0) (.ref (ad 2008)) (.ref (ad 2009)) (.ref (ad 2010)) (.ref (ad 2011)) (.ref (ad 2012)) (.ref (ad 2013)) (.int z0) (.ref (ad 2014)) (.ref (ad 2015)) (.ref (ad 2016)) (.ref (ad 2017)) (.ref (ad 2018)) (.ref (ad 2019)) (.ref (ad 2020)) (.ref (ad 2021)) (.ref (ad 2022)) (nI 0) h_mo) ⟨(callB_of 0 hg (wd_goodG q_902) rfl rfl rfl (hg _ q_5) (hg _ q_899) (by decide +kernel) ⟨Nat.le_of_ble_eq_true rfl, Nat.le_of_ble_eq_true rfl⟩), hg _ q_900, hg _ q_901⟩ (mp_preV (C := R_M) (T := F_M) hI hK h_mo rfl []) rfl rfl hl.1 rfl (lv_room (Nat.le_of_ble_eq_true rfl)) d_L_law_351 ⟨by omega, by omega⟩) (fun r36 S33 H34 locs p_35 hI => ?_)
      obtain ⟨er36, eS37⟩ := p_35
      rw [eS37] at hI
      have er36 : r36 = nI 0 := er36
      subst er36
      refine lv_iload hx hb d_L_law_354 (lv_at hl 1 rfl) ?_
      refine lv_icmp_eq (tgt := 361) hx hb d_L_law_356 (by decide) (fun _ => ?_) (fun h9 => absurd (rfl) h9)
      refine lv_iload hx hb d_L_law_361 (lv_at hl 1 rfl) ?_
      refine lv_if_ne (tgt := 385) hx hb d_L_law_363 (by decide) (fun h9 => absurd h9 (by decide)) (fun _ => ?_)
      refine lv_aload_n hx hb d_L_law_366 rfl (lv_at hl 3 rfl) ?_
      refine lv_iconst (v := nI 0) hx hb d_L_law_367 (by decide) ?_
      refine mp_lald hx hb hK.va hI 4 h_oa rfl (vp_in_nI (by decide) (by decide)) d_L_law_368 ?_
      refine lv_topl (fun v38 ev38 => ?_)
      obtain rfl : v38 = lN 0 := ev38.trans (hf1)
      refine lv_iload hx hb d_L_law_369 (lv_at hl 0 rfl) ?_
      refine lv_if_eq (tgt := 378) hx hb d_L_law_371 (by decide) (fun _ => ?_) (fun h9 => absurd (by decide) h9)
      refine lv_lconst (v := lN 0) hx hb d_L_law_378 (by decide) ?_
      refine W.lcmp hx hb d_L_law_379 ?_
      refine lv_if_eq (tgt := 385) hx hb d_L_law_380 (by decide) (fun _ => ?_) (fun h9 => absurd (lg_same rfl) h9)
      refine lv_goto (tgt := 822) hx hb d_L_law_385 (by decide) ?_
      refine W.widen (k := cells + 189) (n := slots + 11130) (by omega) (by omega) ?_
      exact kx S29 _ _ ls ⟨(pa), (lo), (fa0), (ma), (hd), (eo), (me), (ad), (cf), (gv), (12), (n), (fq), (an), (av), (sv), (ff), (hq), (zq), (mq), (cq), (nI 0), (kn), (ak), (s0), (z0), (PO), (LF), (DG), (LE), (ZM), (OF), (FV), (f1), h_o, h_pa, h_fa0, h_oa, h_mo, h_mp, h_le, h_dg, h_lt, h_ze, h_oq, h_fv, hP, hL, hM, hWk, hA, hgv, htk, hnt, hR, hI9, hIn, hF9⟩ hI (lv_sub hl [2, 3, 4, 5, 6] rfl)
    · have htk9 : tk < 12 := by omega
      obtain ⟨ek, en, cap, pz, kf, nf, hE, hG⟩ := id hP
      obtain ⟨mu, X9, u1, u2, u3⟩ := pG_mo hG hk9
      have u4 : ∀ i, i < pz k9 → 0 < X9 i ∧ X9 i < 32003 ∧ e9 (mu i) ∧ cf k9 (kT (mu i)) = X9 i := fun i hi => ⟨(u1 i hi).2.2.1, (u1 i hi).2.2.2.1, (u1 i hi).2.2.2.2.1, (u1 i hi).2.2.2.2.2⟩
      obtain ⟨_, hvk, hpc, _, hcap⟩ := hG k9 hk9
      have hpz : pz k9 ≤ 1000 := pY_le (hG k9 hk9).1 hvk
      have hsv := an_sv hA
      by_cases hz0 : pz k9 = 0
      · obtain ⟨mk, mn, mcap, mz, mkf, mnf, hf, h_lo, h_ma, h_hd, hY, hmc, hB⟩ := id hL
        refine lv_aload_n hx hb d_L_law_325 rfl (lv_at hl 3 rfl) ?_
        refine lv_aload_n hx hb d_L_law_326 rfl (lv_at hl 4 rfl) ?_
        refine lv_iload hx hb d_L_law_327 (lv_at hl 0 rfl) ?_
        refine lv_iconst (v := nI 1) hx hb d_L_law_329 (by decide) ?_
        refine lv_iadd hx hb d_L_law_330 ?_
        refine lv_topi (fun v39 ev39 => ?_)
        obtain rfl : v39 = nI (i + 1) := ev39.trans (nI_add _ _)
        refine mp_sld hx hb hX hK hI (vp_in_nI (show (i + 1) < L by omega) (by omega)) d_L_law_331 ?_
        refine lv_topi (fun v40 ev40 => ?_)
        obtain rfl : v40 = xs (i + 1) := ev40.trans (by rw [nI_clamp (by omega)])
        refine lv_topi (fun v41 ev41 => ?_)
        obtain rfl : v41 = nI k9 := ev41.trans (hxk)
        refine lv_aload_n hx hb d_L_law_332 rfl (lv_at hl 1 rfl) ?_
        refine mp_calli hI (lw_runS (As := [.ref o, .int (nI k9), .ref oa]) (rest := []) ⟨hx, hb, hml, hown, hg⟩ (c_L_take0 l D g S _ o pa lo nl tk eo ek en cap pz kf nf (.ref fa0) (.int (nI gv)) (.int fq) (.int av) (sv) (.ref ma) (.ref hd) (.int (nI n)) an k9 oa of h_o h_pa h_lo h_oa hE hz0 hk9 htk9) ⟨callBW_of 3 hg (hts _ q_718) rfl rfl (hg _ q_0) (hg _ q_716) (by decide +kernel) ⟨Nat.le_of_ble_eq_true rfl, Nat.le_of_ble_eq_true rfl⟩, hg _ q_717⟩ (mp_pre hI hK [.ref o, .int (nI k9), .ref oa]) rfl rfl hl.1 rfl (lv_room (Nat.le_of_ble_eq_true rfl)) d_L_law_333 ⟨by omega, by omega⟩) (fun r45 S42 H43 locs p_44 hI => ?_)
        obtain ⟨er45, q_o, fr, f1, q_oa, hf1⟩ := p_44
        subst er45
        have h_pa : S42 pa = some (1, .inl ((g 2), 40, .inr (.inr (.inr (.inr (rfs eo 40)))))) := (fr pa (mp_in h_pa) (mp_ne h_pa h_o (by omega)) (mp_ne h_pa h_oa (by omega))).trans h_pa
        have h_fa0 : S42 fa0 = some (3, .inl ((g 0), 3, .inl ff)) := (fr fa0 (mp_in h_fa0) (mp_ne h_fa0 h_o (by omega)) (mp_ne h_fa0 h_oa (by omega))).trans h_fa0
        have h_mo : S42 mo = some (2000, .inr (10, [.int (nI nl), .int (nI gv), .int (nI tk), .int th, .ref (ad 2001), .int (nI n), .ref (ad 2002), .ref (ad 2003), .ref (ad 2004), .ref (ad 2005), .ref (ad 2006), .ref (ad 2007), .int kn, .int ak, .int s0, .ref (ad 2008), .ref (ad 2009), .ref (ad 2010), .ref (ad 2011), .ref (ad 2012), .ref (ad 2013), .int z0, .ref (ad 2014), .ref (ad 2015), .ref (ad 2016), .ref (ad 2017), .ref (ad 2018), .ref (ad 2019), .ref (ad 2020), .ref (ad 2021), .ref (ad 2022)])) := (fr mo (mp_in h_mo) (mp_ne h_mo h_o (by omega)) (mp_ne h_mo h_oa (by omega))).trans h_mo
        have h_mp : S42 (ad 2001) = some (2001, .inl ((g 0), 40000, .inl (fun j => nI (PO j).val))) := (fr (ad 2001) (mp_in h_mp) (mp_ne h_mp h_o (by omega)) (mp_ne h_mp h_oa (by omega))).trans h_mp
        have h_le : S42 (ad 2008) = some (2008, .inl ((g 0), 17, .inl (fun j => nI (LF j)))) := (fr (ad 2008) (mp_in h_le) (mp_ne h_le h_o (by omega)) (mp_ne h_le h_oa (by omega))).trans h_le
        have h_dg : S42 (ad 2010) = some (2010, .inl ((g 0), 3, .inl (fun j => nI (DG j)))) := (fr (ad 2010) (mp_in h_dg) (mp_ne h_dg h_o (by omega)) (mp_ne h_dg h_oa (by omega))).trans h_dg
        have h_lt : S42 (ad 2011) = some (2011, .inl ((g 0), 51, .inl (fun j => nI (LE j).val))) := (fr (ad 2011) (mp_in h_lt) (mp_ne h_lt h_o (by omega)) (mp_ne h_lt h_oa (by omega))).trans h_lt
        have h_ze : S42 (ad 2014) = some (2014, .inl ((g 0), 51, .inl (fun j => nI (ZM j).val))) := (fr (ad 2014) (mp_in h_ze) (mp_ne h_ze h_o (by omega)) (mp_ne h_ze h_oa (by omega))).trans h_ze
        have h_oq : S42 (ad 2015) = some (2015, .inl ((g 0), 17, .inl (fun j => nI (OF j)))) := (fr (ad 2015) (mp_in h_oq) (mp_ne h_oq h_o (by omega)) (mp_ne h_oq h_oa (by omega))).trans h_oq
        have h_fv : S42 (ad 2016) = some (2016, .inl ((g 5), 3, .inl FV)) := (fr (ad 2016) (mp_in h_fv) (mp_ne h_fv h_o (by omega)) (mp_ne h_fv h_oa (by omega))).trans h_fv
        have hP := gPs_kept hP (S1 := S42) (fun b t9 e9 hb9 h1 h2 => by have h8 : S42 b = some (t9, e9) := (fr b (mp_in hb9) (mp_ne hb9 h_o (by omega)) (mp_ne hb9 h_oa (by omega))).trans hb9; rw [h8, hb9])
        have hL := gLs_kept hL (S1 := S42) (fun b t9 e9 hb9 h1 h2 => by have h8 : S42 b = some (t9, e9) := (fr b (mp_in hb9) (mp_ne hb9 h_o (by omega)) (mp_ne hb9 h_oa (by omega))).trans hb9; rw [h8, hb9])
        have hM := gMs_kept hM (S1 := S42) (fun b t9 e9 hb9 h1 h2 => by have h8 : S42 b = some (t9, e9) := (fr b (mp_in hb9) (mp_ne hb9 h_o (by omega)) (mp_ne hb9 h_oa (by omega))).trans hb9; rw [h8, hb9])
        have hWk := gWs_kept hWk (S1 := S42) (fun b t9 e9 hb9 h1 h2 => by have h8 : S42 b = some (t9, e9) := (fr b (mp_in hb9) (mp_ne hb9 h_o (by omega)) (mp_ne hb9 h_oa (by omega))).trans hb9; rw [h8, hb9])
        have hsv := svS_kept hsv (S1 := S42) (fun b t9 e9 hb9 h1 h2 => by have h8 : S42 b = some (t9, e9) := (fr b (mp_in hb9) (mp_ne hb9 h_o (by omega)) (mp_ne hb9 h_oa (by omega))).trans hb9; rw [h8, hb9])
        have h_o := q_o
        have h_oa := q_oa
        obtain ⟨tf, tpf, tnf, hf2, hif, z2, mo2, co2, ld, m_te, m_tp, m_tn, m_hd, m_hv, hlM⟩ := hM
        refine lv_istore (lv' := [(5, .int (nI 0)), (4, .int (nI i)), (3, .ref oa), (2, .ref mo), (1, .ref o), (0, .ref b)]) hx hb d_L_law_336 hl (by decide) rfl (fun ls hl => ?_)
        refine lv_aload_n hx hb d_L_law_338 rfl (lv_at hl 3 rfl) ?_
        refine lv_aload_n hx hb d_L_law_339 rfl (lv_at hl 5 rfl) ?_
        refine lv_iload hx hb d_L_law_340 (lv_at hl 1 rfl) ?_
        refine lv_iconst (v := nI 1) hx hb d_L_law_342 (by decide) ?_
        refine lv_iadd hx hb d_L_law_343 ?_
        refine lv_topi (fun v46 ev46 => ?_)
        obtain rfl : v46 = nI (i + 1) := ev46.trans (nI_add _ _)
        refine mp_sld hx hb hX hK hI (vp_in_nI (show (i + 1) < L by omega) (by omega)) d_L_law_344 ?_
        refine lv_topi (fun v47 ev47 => ?_)
        obtain rfl : v47 = xs (i + 1) := ev47.trans (by rw [nI_clamp (by omega)])
        refine lv_topi (fun v48 ev48 => ?_)
        obtain rfl : v48 = nI k9 := ev48.trans (hxk)
        refine mp_calli hI (va_runV (As := [.int (nI k9)]) (rest := []) ⟨hx, hb, hml, hown, hg⟩ (c_M_take l D g S42 _ mo (ad 2001) (ad 2002) (ad 2003) (ad 2004) (ad 2005) (ad 2006) k9 tk n (.int (nI nl)) (.int (nI gv)) (.ref (ad 2007)) (.int ak) (.int s0) (.ref (ad 2008)) (.ref (ad 2009)) (.ref (ad 2010)) (.ref (ad 2011)) (.ref (ad 2012)) (.ref (ad 2013)) (.int z0) (.ref (ad 2014)) (.ref (ad 2015)) (.ref (ad 2016)) (.ref (ad 2017)) (.ref (ad 2018)) (.ref (ad 2019)) (.ref (ad 2020)) (.ref (ad 2021)) (.ref (ad 2022)) PO tf tpf tnf hf2 hif th kn h_mo h_mp m_te m_tp m_tn m_hd m_hv hk9 htk9 (by omega)) ⟨(callB_of 1 hg (wd_goodG q_934) rfl rfl rfl (hg _ q_5) (hg _ q_931) (by decide +kernel) ⟨Nat.le_of_ble_eq_true rfl, Nat.le_of_ble_eq_true rfl⟩), hg _ q_932, hg _ q_933⟩ (mp_preV (C := R_M) (T := F_M) hI hK h_mo rfl [.int (nI k9)]) rfl rfl hl.1 rfl (lv_room (Nat.le_of_ble_eq_true rfl)) d_L_law_345 ⟨by omega, by omega⟩) (fun r52 S49 H50 locs p_51 hI => ?_)
        obtain ⟨er52, n9, L1, pj, tf1, tp1, tn1, hf1b, hv1, hTk, q_mo, m_te, m_tp, m_tn, m_hd, m_hv, fr⟩ := p_51
        subst er52
        have hn0 : n9 = 0 := (tk_0 hR hk9 hTk.1 u4 u2 u3).mpr hz0
        have hL1 : L1 = n := by rcases hTk.2.2.2.2 with ⟨_, q⟩ | ⟨_, t, ht, _⟩; exact q; omega
        rw [hL1] at q_mo
        have h_o : S49 o = some (0, .inr (0, [.int (nI nl), .ref pa, .ref lo, .ref fa0, .int (nI gv), .int (nI (tk + 1)), .int fq, .int 0, .int av, sv])) := fr o _ _ h_o (by omega) (by omega) (by omega) (by omega) (by omega) (by omega)
        have h_pa : S49 pa = some (1, .inl ((g 2), 40, .inr (.inr (.inr (.inr (rfs eo 40)))))) := fr pa _ _ h_pa (by omega) (by omega) (by omega) (by omega) (by omega) (by omega)
        have h_fa0 : S49 fa0 = some (3, .inl ((g 0), 3, .inl ff)) := fr fa0 _ _ h_fa0 (by omega) (by omega) (by omega) (by omega) (by omega) (by omega)
        have h_oa : S49 oa = some (9, .inl ((g 4), 1, .inr (.inl f1))) := fr oa _ _ h_oa (by omega) (by omega) (by omega) (by omega) (by omega) (by omega)
        have h_mp : S49 (ad 2001) = some (2001, .inl ((g 0), 40000, .inl (fun j => nI (PO j).val))) := fr (ad 2001) _ _ h_mp (by omega) (by omega) (by omega) (by omega) (by omega) (by omega)
        have h_le : S49 (ad 2008) = some (2008, .inl ((g 0), 17, .inl (fun j => nI (LF j)))) := fr (ad 2008) _ _ h_le (by omega) (by omega) (by omega) (by omega) (by omega) (by omega)
        have h_dg : S49 (ad 2010) = some (2010, .inl ((g 0), 3, .inl (fun j => nI (DG j)))) := fr (ad 2010) _ _ h_dg (by omega) (by omega) (by omega) (by omega) (by omega) (by omega)
        have h_lt : S49 (ad 2011) = some (2011, .inl ((g 0), 51, .inl (fun j => nI (LE j).val))) := fr (ad 2011) _ _ h_lt (by omega) (by omega) (by omega) (by omega) (by omega) (by omega)
        have h_ze : S49 (ad 2014) = some (2014, .inl ((g 0), 51, .inl (fun j => nI (ZM j).val))) := fr (ad 2014) _ _ h_ze (by omega) (by omega) (by omega) (by omega) (by omega) (by omega)
        have h_oq : S49 (ad 2015) = some (2015, .inl ((g 0), 17, .inl (fun j => nI (OF j)))) := fr (ad 2015) _ _ h_oq (by omega) (by omega) (by omega) (by omega) (by omega) (by omega)
        have h_fv : S49 (ad 2016) = some (2016, .inl ((g 5), 3, .inl FV)) := fr (ad 2016) _ _ h_fv (by omega) (by omega) (by omega) (by omega) (by omega) (by omega)
        have hP := gPs_kept hP (S1 := S49) (fun b t9 e9 hb9 h1 h2 => by have h8 : S49 b = some (t9, e9) := fr b _ _ hb9 (by omega) (by omega) (by omega) (by omega) (by omega) (by omega); rw [h8, hb9])
        have hL := gLs_kept hL (S1 := S49) (fun b t9 e9 hb9 h1 h2 => by have h8 : S49 b = some (t9, e9) := fr b _ _ hb9 (by omega) (by omega) (by omega) (by omega) (by omega) (by omega); rw [h8, hb9])
        have hWk := gWs_kept hWk (S1 := S49) (fun b t9 e9 hb9 h1 h2 => by have h8 : S49 b = some (t9, e9) := fr b _ _ hb9 (by omega) (by omega) (by omega) (by omega) (by omega) (by omega); rw [h8, hb9])
        have hsv := svS_kept hsv (S1 := S49) (fun b t9 e9 hb9 h1 h2 => by have h8 : S49 b = some (t9, e9) := fr b _ _ hb9 (by omega) (by omega) (by omega) (by omega) (by omega) (by omega); rw [h8, hb9])
        have h_mo := q_mo
        have hM : gMs g ad n hq zq mq cq S49 := ⟨tf1, tp1, tn1, hf1b, hv1, z2, mo2, co2, ld, m_te, m_tp, m_tn, m_hd, m_hv, lsM_cg hlM hTk.2.2.1 hTk.2.2.2.1⟩
        refine lv_istore (lv' := [(6, .int 1), (5, .int (nI 0)), (4, .int (nI i)), (3, .ref oa), (2, .ref mo), (1, .ref o), (0, .ref b)]) hx hb d_L_law_348 hl (by decide) rfl (fun ls hl => ?_)
        refine lv_aload_n hx hb d_L_law_350 rfl (lv_at hl 4 rfl) ?_
        refine mp_calli hI (va_runV (As := []) (rest := []) ⟨hx, hb, hml, hown, hg⟩ (c_M_thrown l D g S49 _ mo (.int (nI nl)) (.int (nI gv)) (.int (nI (tk + 1))) (.ref (ad 2001)) (.int (nI n)) (.ref (ad 2002)) (.ref (ad 2003)) (.ref (ad 2004)) (.ref (ad 2005)) (.ref (ad 2006)) (.ref (ad 2007)) (.int (nI 0)) (.int ak) (.int s0) (.ref (ad 2008)) (.ref (ad 2009)) (.ref (ad 2010)) (.ref (ad 2011)) (.ref (ad 2012)) (.ref (ad 2013)) (.int z0) (.ref (ad 2014)) (.ref (ad 2015)) (.ref (ad 2016)) (.ref (ad 2017)) (.ref (ad 2018)) (.ref (ad 2019)) (.ref (ad 2020)) (.ref (ad 2021)) (.ref (ad 2022)) (nI 0) h_mo) ⟨(callB_of 0 hg (wd_goodG q_902) rfl rfl rfl (hg _ q_5) (hg _ q_899) (by decide +kernel) ⟨Nat.le_of_ble_eq_true rfl, Nat.le_of_ble_eq_true rfl⟩), hg _ q_900, hg _ q_901⟩ (mp_preV (C := R_M) (T := F_M) hI hK h_mo rfl []) rfl rfl hl.1 rfl (lv_room (Nat.le_of_ble_eq_true rfl)) d_L_law_351 ⟨by omega, by omega⟩) (fun r56 S53 H54 locs p_55 hI => ?_)
        obtain ⟨er56, eS57⟩ := p_55
        rw [eS57] at hI
        have er56 : r56 = nI 0 := er56
        subst er56
        refine lv_iload hx hb d_L_law_354 (lv_at hl 1 rfl) ?_
        refine lv_icmp_eq (tgt := 361) hx hb d_L_law_356 (by decide) (fun _ => ?_) (fun h9 => absurd (rfl) h9)
        refine lv_iload hx hb d_L_law_361 (lv_at hl 1 rfl) ?_
        refine lv_if_ne (tgt := 385) hx hb d_L_law_363 (by decide) (fun h9 => absurd h9 (by decide)) (fun _ => ?_)
        refine lv_aload_n hx hb d_L_law_366 rfl (lv_at hl 3 rfl) ?_
        refine lv_iconst (v := nI 0) hx hb d_L_law_367 (by decide) ?_
        refine mp_lald hx hb hK.va hI 4 h_oa rfl (vp_in_nI (by decide) (by decide)) d_L_law_368 ?_
        refine lv_topl (fun v58 ev58 => ?_)
        obtain rfl : v58 = lN 1 := ev58.trans (hf1)
        refine lv_iload hx hb d_L_law_369 (lv_at hl 0 rfl) ?_
        refine lv_if_eq (tgt := 378) hx hb d_L_law_371 (by decide) (fun h9 => absurd h9 (by decide)) (fun _ => ?_)
        refine lv_lconst (v := lN 1) hx hb d_L_law_374 (by decide) ?_
        refine lv_goto (tgt := 379) hx hb d_L_law_375 (by decide) ?_
        refine W.lcmp hx hb d_L_law_379 ?_
        refine lv_if_eq (tgt := 385) hx hb d_L_law_380 (by decide) (fun _ => ?_) (fun h9 => absurd (lg_same rfl) h9)
        refine lv_goto (tgt := 822) hx hb d_L_law_385 (by decide) ?_
        refine W.widen (k := cells + 189) (n := slots + 11130) (by omega) (by omega) ?_
        exact kx S49 _ _ ls ⟨(pa), (lo), (fa0), (ma), (hd), (eo), (me), (ad), (cf), (gv), ((tk + 1)), (n), (fq), (0), (av), (sv), (ff), (hq), (zq), (mq), (cq), (nI 0), (nI 0), (ak), (s0), (z0), (PO), (LF), (DG), (LE), (ZM), (OF), (FV), (f1), h_o, h_pa, h_fa0, h_oa, h_mo, h_mp, h_le, h_dg, h_lt, h_ze, h_oq, h_fv, hP, hL, hM, hWk, (Or.inl ⟨rfl, rfl, hsv⟩), hgv, (by omega), (by omega), hR, hI9, hIn, (frR_0 hF9)⟩ hI (lv_sub hl [2, 3, 4, 5, 6] rfl)
      · obtain ⟨mk, mn, mcap, mz, mkf, mnf, hf, h_lo, h_ma, h_hd, hY, hmc, hB⟩ := hL
        refine lv_aload_n hx hb d_L_law_325 rfl (lv_at hl 3 rfl) ?_
        refine lv_aload_n hx hb d_L_law_326 rfl (lv_at hl 4 rfl) ?_
        refine lv_iload hx hb d_L_law_327 (lv_at hl 0 rfl) ?_
        refine lv_iconst (v := nI 1) hx hb d_L_law_329 (by decide) ?_
        refine lv_iadd hx hb d_L_law_330 ?_
        refine lv_topi (fun v59 ev59 => ?_)
        obtain rfl : v59 = nI (i + 1) := ev59.trans (nI_add _ _)
        refine mp_sld hx hb hX hK hI (vp_in_nI (show (i + 1) < L by omega) (by omega)) d_L_law_331 ?_
        refine lv_topi (fun v60 ev60 => ?_)
        obtain rfl : v60 = xs (i + 1) := ev60.trans (by rw [nI_clamp (by omega)])
        refine lv_topi (fun v61 ev61 => ?_)
        obtain rfl : v61 = nI k9 := ev61.trans (hxk)
        refine lv_aload_n hx hb d_L_law_332 rfl (lv_at hl 1 rfl) ?_
        refine mp_calli hI (lw_runS (As := [.ref o, .int (nI k9), .ref oa]) (rest := []) ⟨hx, hb, hml, hown, hg⟩ (c_L_takeA l D g S _ o pa lo ma hd nl tk n eo ek en cap pz kf nf me mk mn mcap mz mkf mnf hf X9 (.ref fa0) (.int (nI gv)) (.int fq) (.int av) (sv) an k9 oa of h_o h_pa h_lo h_ma h_hd h_oa hE hY (fun i hi => ⟨(u1 i hi).2.1, (u1 i hi).2.2.2.1⟩) (by omega) hpc hpz hcap hmc (by omega) hk9 htk9) ⟨callBW_of 3 hg (hts _ q_718) rfl rfl (hg _ q_0) (hg _ q_716) (by decide +kernel) ⟨Nat.le_of_ble_eq_true rfl, Nat.le_of_ble_eq_true rfl⟩, hg _ q_717⟩ (mp_pre hI hK [.ref o, .int (nI k9), .ref oa]) rfl rfl hl.1 rfl (lv_room (Nat.le_of_ble_eq_true rfl)) d_L_law_333 ⟨by omega, by omega⟩) (fun r65 S62 H63 locs p_64 hI => ?_)
        obtain ⟨er65, ⟨f1, q_oa, hf1⟩, q_o, mk1, mn1, mcap1, mz1, mkf1, mnf1, q_lo, q_hd, q_Y, g0, g1, g2, g3, g4, g5, fr⟩ := p_64
        subst er65
        have q_ma := fr _ _ _ h_ma (by decide) (by decide) (by decide) (by decide) (by decide)
        have h_pa : S62 pa = some (1, .inl ((g 2), 40, .inr (.inr (.inr (.inr (rfs eo 40)))))) := fr pa _ _ h_pa (by omega) (by omega) (by omega) (by omega) (by omega)
        have h_fa0 : S62 fa0 = some (3, .inl ((g 0), 3, .inl ff)) := fr fa0 _ _ h_fa0 (by omega) (by omega) (by omega) (by omega) (by omega)
        have h_mo : S62 mo = some (2000, .inr (10, [.int (nI nl), .int (nI gv), .int (nI tk), .int th, .ref (ad 2001), .int (nI n), .ref (ad 2002), .ref (ad 2003), .ref (ad 2004), .ref (ad 2005), .ref (ad 2006), .ref (ad 2007), .int kn, .int ak, .int s0, .ref (ad 2008), .ref (ad 2009), .ref (ad 2010), .ref (ad 2011), .ref (ad 2012), .ref (ad 2013), .int z0, .ref (ad 2014), .ref (ad 2015), .ref (ad 2016), .ref (ad 2017), .ref (ad 2018), .ref (ad 2019), .ref (ad 2020), .ref (ad 2021), .ref (ad 2022)])) := fr mo _ _ h_mo (by omega) (by omega) (by omega) (by omega) (by omega)
        have h_mp : S62 (ad 2001) = some (2001, .inl ((g 0), 40000, .inl (fun j => nI (PO j).val))) := fr (ad 2001) _ _ h_mp (by omega) (by omega) (by omega) (by omega) (by omega)
        have h_le : S62 (ad 2008) = some (2008, .inl ((g 0), 17, .inl (fun j => nI (LF j)))) := fr (ad 2008) _ _ h_le (by omega) (by omega) (by omega) (by omega) (by omega)
        have h_dg : S62 (ad 2010) = some (2010, .inl ((g 0), 3, .inl (fun j => nI (DG j)))) := fr (ad 2010) _ _ h_dg (by omega) (by omega) (by omega) (by omega) (by omega)
        have h_lt : S62 (ad 2011) = some (2011, .inl ((g 0), 51, .inl (fun j => nI (LE j).val))) := fr (ad 2011) _ _ h_lt (by omega) (by omega) (by omega) (by omega) (by omega)
        have h_ze : S62 (ad 2014) = some (2014, .inl ((g 0), 51, .inl (fun j => nI (ZM j).val))) := fr (ad 2014) _ _ h_ze (by omega) (by omega) (by omega) (by omega) (by omega)
        have h_oq : S62 (ad 2015) = some (2015, .inl ((g 0), 17, .inl (fun j => nI (OF j)))) := fr (ad 2015) _ _ h_oq (by omega) (by omega) (by omega) (by omega) (by omega)
        have h_fv : S62 (ad 2016) = some (2016, .inl ((g 5), 3, .inl FV)) := fr (ad 2016) _ _ h_fv (by omega) (by omega) (by omega) (by omega) (by omega)
        have hP := gPs_kept hP (S1 := S62) (fun b t9 e9 hb9 h1 h2 => by have h8 : S62 b = some (t9, e9) := fr b _ _ hb9 (by omega) (by omega) (by omega) (by omega) (by omega); rw [h8, hb9])
        have hM := gMs_kept hM (S1 := S62) (fun b t9 e9 hb9 h1 h2 => by have h8 : S62 b = some (t9, e9) := fr b _ _ hb9 (by omega) (by omega) (by omega) (by omega) (by omega); rw [h8, hb9])
        have hWk := gWs_kept hWk (S1 := S62) (fun b t9 e9 hb9 h1 h2 => by have h8 : S62 b = some (t9, e9) := fr b _ _ hb9 (by omega) (by omega) (by omega) (by omega) (by omega); rw [h8, hb9])
        have hsv := svS_kept hsv (S1 := S62) (fun b t9 e9 hb9 h1 h2 => by have h8 : S62 b = some (t9, e9) := fr b _ _ hb9 (by omega) (by omega) (by omega) (by omega) (by omega); rw [h8, hb9])
        have h_o := q_o
        have h_oa := q_oa
        have hL : gLs g lo ma hd me (n + 1) (va_up hq n (mu 0)) (va_up zq n (pz k9)) (va_up mq n mu) (va_up cq n (fun j => fc (X9 j) * iv (fc (X9 0)))) S62 := ⟨mk1, mn1, mcap1, mz1, mkf1, mnf1, _, q_lo, q_ma, q_hd, q_Y, g0, lsB_up hB (by omega) (by omega) g0 g1 g2 g3 g4 g5 (fun i hi => ⟨(u1 i hi).1, (u1 i hi).2.2.1, (u1 i hi).2.2.2.1, (u1 i hi).2.2.2.2.1⟩) u2⟩
        obtain ⟨tf, tpf, tnf, hf2, hif, z2, mo2, co2, ld, m_te, m_tp, m_tn, m_hd, m_hv, hlM⟩ := hM
        refine lv_istore (lv' := [(5, .int (nI 0)), (4, .int (nI i)), (3, .ref oa), (2, .ref mo), (1, .ref o), (0, .ref b)]) hx hb d_L_law_336 hl (by decide) rfl (fun ls hl => ?_)
        refine lv_aload_n hx hb d_L_law_338 rfl (lv_at hl 3 rfl) ?_
        refine lv_aload_n hx hb d_L_law_339 rfl (lv_at hl 5 rfl) ?_
        refine lv_iload hx hb d_L_law_340 (lv_at hl 1 rfl) ?_
        refine lv_iconst (v := nI 1) hx hb d_L_law_342 (by decide) ?_
        refine lv_iadd hx hb d_L_law_343 ?_
        refine lv_topi (fun v66 ev66 => ?_)
        obtain rfl : v66 = nI (i + 1) := ev66.trans (nI_add _ _)
        refine mp_sld hx hb hX hK hI (vp_in_nI (show (i + 1) < L by omega) (by omega)) d_L_law_344 ?_
        refine lv_topi (fun v67 ev67 => ?_)
        obtain rfl : v67 = xs (i + 1) := ev67.trans (by rw [nI_clamp (by omega)])
        refine lv_topi (fun v68 ev68 => ?_)
        obtain rfl : v68 = nI k9 := ev68.trans (hxk)
        refine mp_calli hI (va_runV (As := [.int (nI k9)]) (rest := []) ⟨hx, hb, hml, hown, hg⟩ (c_M_take l D g S62 _ mo (ad 2001) (ad 2002) (ad 2003) (ad 2004) (ad 2005) (ad 2006) k9 tk n (.int (nI nl)) (.int (nI gv)) (.ref (ad 2007)) (.int ak) (.int s0) (.ref (ad 2008)) (.ref (ad 2009)) (.ref (ad 2010)) (.ref (ad 2011)) (.ref (ad 2012)) (.ref (ad 2013)) (.int z0) (.ref (ad 2014)) (.ref (ad 2015)) (.ref (ad 2016)) (.ref (ad 2017)) (.ref (ad 2018)) (.ref (ad 2019)) (.ref (ad 2020)) (.ref (ad 2021)) (.ref (ad 2022)) PO tf tpf tnf hf2 hif th kn h_mo h_mp m_te m_tp m_tn m_hd m_hv hk9 htk9 (by omega)) ⟨(callB_of 1 hg (wd_goodG q_934) rfl rfl rfl (hg _ q_5) (hg _ q_931) (by decide +kernel) ⟨Nat.le_of_ble_eq_true rfl, Nat.le_of_ble_eq_true rfl⟩), hg _ q_932, hg _ q_933⟩ (mp_preV (C := R_M) (T := F_M) hI hK h_mo rfl [.int (nI k9)]) rfl rfl hl.1 rfl (lv_room (Nat.le_of_ble_eq_true rfl)) d_L_law_345 ⟨by omega, by omega⟩) (fun r72 S69 H70 locs p_71 hI => ?_)
        obtain ⟨er72, n9, L1, pj, tf1, tp1, tn1, hf1b, hv1, hTk, q_mo, m_te, m_tp, m_tn, m_hd, m_hv, fr⟩ := p_71
        subst er72
        have h_o : S69 o = some (0, .inr (0, [.int (nI nl), .ref pa, .ref lo, .ref fa0, .int (nI gv), .int (nI (tk + 1)), .int fq, .int 0, .int av, sv])) := fr o _ _ h_o (by omega) (by omega) (by omega) (by omega) (by omega) (by omega)
        have h_pa : S69 pa = some (1, .inl ((g 2), 40, .inr (.inr (.inr (.inr (rfs eo 40)))))) := fr pa _ _ h_pa (by omega) (by omega) (by omega) (by omega) (by omega) (by omega)
        have h_fa0 : S69 fa0 = some (3, .inl ((g 0), 3, .inl ff)) := fr fa0 _ _ h_fa0 (by omega) (by omega) (by omega) (by omega) (by omega) (by omega)
        have h_oa : S69 oa = some (9, .inl ((g 4), 1, .inr (.inl f1))) := fr oa _ _ h_oa (by omega) (by omega) (by omega) (by omega) (by omega) (by omega)
        have h_mp : S69 (ad 2001) = some (2001, .inl ((g 0), 40000, .inl (fun j => nI (PO j).val))) := fr (ad 2001) _ _ h_mp (by omega) (by omega) (by omega) (by omega) (by omega) (by omega)
        have h_le : S69 (ad 2008) = some (2008, .inl ((g 0), 17, .inl (fun j => nI (LF j)))) := fr (ad 2008) _ _ h_le (by omega) (by omega) (by omega) (by omega) (by omega) (by omega)
        have h_dg : S69 (ad 2010) = some (2010, .inl ((g 0), 3, .inl (fun j => nI (DG j)))) := fr (ad 2010) _ _ h_dg (by omega) (by omega) (by omega) (by omega) (by omega) (by omega)
        have h_lt : S69 (ad 2011) = some (2011, .inl ((g 0), 51, .inl (fun j => nI (LE j).val))) := fr (ad 2011) _ _ h_lt (by omega) (by omega) (by omega) (by omega) (by omega) (by omega)
        have h_ze : S69 (ad 2014) = some (2014, .inl ((g 0), 51, .inl (fun j => nI (ZM j).val))) := fr (ad 2014) _ _ h_ze (by omega) (by omega) (by omega) (by omega) (by omega) (by omega)
        have h_oq : S69 (ad 2015) = some (2015, .inl ((g 0), 17, .inl (fun j => nI (OF j)))) := fr (ad 2015) _ _ h_oq (by omega) (by omega) (by omega) (by omega) (by omega) (by omega)
        have h_fv : S69 (ad 2016) = some (2016, .inl ((g 5), 3, .inl FV)) := fr (ad 2016) _ _ h_fv (by omega) (by omega) (by omega) (by omega) (by omega) (by omega)
        have hP := gPs_kept hP (S1 := S69) (fun b t9 e9 hb9 h1 h2 => by have h8 : S69 b = some (t9, e9) := fr b _ _ hb9 (by omega) (by omega) (by omega) (by omega) (by omega) (by omega); rw [h8, hb9])
        have hWk := gWs_kept hWk (S1 := S69) (fun b t9 e9 hb9 h1 h2 => by have h8 : S69 b = some (t9, e9) := fr b _ _ hb9 (by omega) (by omega) (by omega) (by omega) (by omega) (by omega); rw [h8, hb9])
        have hsv := svS_kept hsv (S1 := S69) (fun b t9 e9 hb9 h1 h2 => by have h8 : S69 b = some (t9, e9) := fr b _ _ hb9 (by omega) (by omega) (by omega) (by omega) (by omega) (by omega); rw [h8, hb9])
        have hL := gLs_kept hL (S1 := S69) (fun b t9 e9 hb9 h1 h2 => by have h8 : S69 b = some (t9, e9) := fr b _ _ hb9 (by omega) (by omega) (by omega) (by omega) (by omega) (by omega); rw [h8, hb9])
        have h_mo := q_mo
        have hn0 : n9 ≠ 0 := fun q => hz0 ((tk_0 hR hk9 hTk.1 u4 u2 u3).mp q)
        obtain rfl : L1 = n + 1 := by rcases hTk.2.2.2.2 with ⟨q, _⟩ | ⟨q, _⟩; exact absurd q hn0; exact q
        obtain ⟨z2b, mo2b, co2b, ldb, hlM2⟩ := lsM_up hlM (by omega) hR hk9 hTk (by omega) u4 u2 u3
        have hM : gMs g ad (n + 1) (va_up hq n (mu 0)) (va_up zq n (pz k9)) (va_up mq n mu) (va_up cq n (fun j => fc (X9 j) * iv (fc (X9 0)))) S69 := ⟨tf1, tp1, tn1, hf1b, hv1, z2b, mo2b, co2b, ldb, m_te, m_tp, m_tn, m_hd, m_hv, hlM2⟩
        refine lv_istore (lv' := [(6, .int 1), (5, .int (nI 0)), (4, .int (nI i)), (3, .ref oa), (2, .ref mo), (1, .ref o), (0, .ref b)]) hx hb d_L_law_348 hl (by decide) rfl (fun ls hl => ?_)
        refine lv_aload_n hx hb d_L_law_350 rfl (lv_at hl 4 rfl) ?_
        refine mp_calli hI (va_runV (As := []) (rest := []) ⟨hx, hb, hml, hown, hg⟩ (c_M_thrown l D g S69 _ mo (.int (nI nl)) (.int (nI gv)) (.int (nI (tk + 1))) (.ref (ad 2001)) (.int (nI (n + 1))) (.ref (ad 2002)) (.ref (ad 2003)) (.ref (ad 2004)) (.ref (ad 2005)) (.ref (ad 2006)) (.ref (ad 2007)) (.int (nI 0)) (.int ak) (.int s0) (.ref (ad 2008)) (.ref (ad 2009)) (.ref (ad 2010)) (.ref (ad 2011)) (.ref (ad 2012)) (.ref (ad 2013)) (.int z0) (.ref (ad 2014)) (.ref (ad 2015)) (.ref (ad 2016)) (.ref (ad 2017)) (.ref (ad 2018)) (.ref (ad 2019)) (.ref (ad 2020)) (.ref (ad 2021)) (.ref (ad 2022)) (nI 0) h_mo) ⟨(callB_of 0 hg (wd_goodG q_902) rfl rfl rfl (hg _ q_5) (hg _ q_899) (by decide +kernel) ⟨Nat.le_of_ble_eq_true rfl, Nat.le_of_ble_eq_true rfl⟩), hg _ q_900, hg _ q_901⟩ (mp_preV (C := R_M) (T := F_M) hI hK h_mo rfl []) rfl rfl hl.1 rfl (lv_room (Nat.le_of_ble_eq_true rfl)) d_L_law_351 ⟨by omega, by omega⟩) (fun r76 S73 H74 locs p_75 hI => ?_)
        obtain ⟨er76, eS77⟩ := p_75
        rw [eS77] at hI
        have er76 : r76 = nI 0 := er76
        subst er76
        refine lv_iload hx hb d_L_law_354 (lv_at hl 1 rfl) ?_
        refine lv_icmp_eq (tgt := 361) hx hb d_L_law_356 (by decide) (fun _ => ?_) (fun h9 => absurd (rfl) h9)
        refine lv_iload hx hb d_L_law_361 (lv_at hl 1 rfl) ?_
        refine lv_if_ne (tgt := 385) hx hb d_L_law_363 (by decide) (fun h9 => absurd h9 (by decide)) (fun _ => ?_)
        refine lv_aload_n hx hb d_L_law_366 rfl (lv_at hl 3 rfl) ?_
        refine lv_iconst (v := nI 0) hx hb d_L_law_367 (by decide) ?_
        refine mp_lald hx hb hK.va hI 4 h_oa rfl (vp_in_nI (by decide) (by decide)) d_L_law_368 ?_
        refine lv_topl (fun v78 ev78 => ?_)
        obtain rfl : v78 = lN 1 := ev78.trans (hf1)
        refine lv_iload hx hb d_L_law_369 (lv_at hl 0 rfl) ?_
        refine lv_if_eq (tgt := 378) hx hb d_L_law_371 (by decide) (fun h9 => absurd h9 (by decide)) (fun _ => ?_)
        refine lv_lconst (v := lN 1) hx hb d_L_law_374 (by decide) ?_
        refine lv_goto (tgt := 379) hx hb d_L_law_375 (by decide) ?_
        refine W.lcmp hx hb d_L_law_379 ?_
        refine lv_if_eq (tgt := 385) hx hb d_L_law_380 (by decide) (fun _ => ?_) (fun h9 => absurd (lg_same rfl) h9)
        refine lv_goto (tgt := 822) hx hb d_L_law_385 (by decide) ?_
        refine W.widen (k := cells + 189) (n := slots + 11130) (by omega) (by omega) ?_
        exact kx S69 _ _ ls ⟨(pa), (lo), (fa0), (ma), (hd), (eo), (me), (ad), (cf), (gv), ((tk + 1)), ((n + 1)), (fq), (0), (av), (sv), (ff), ((va_up hq n (mu 0))), ((va_up zq n (pz k9))), ((va_up mq n mu)), ((va_up cq n (fun j => fc (X9 j) * iv (fc (X9 0))))), (nI 0), (nI 0), (ak), (s0), (z0), (PO), (LF), (DG), (LE), (ZM), (OF), (FV), (f1), h_o, h_pa, h_fa0, h_oa, h_mo, h_mp, h_le, h_dg, h_lt, h_ze, h_oq, h_fv, hP, hL, hM, hWk, (Or.inl ⟨rfl, rfl, hsv⟩), hgv, (by omega), (by omega), hR, hI9, (in_up hIn (fun j hj => hI9 k9 hk9 _ (u4 j hj).2.2.1 (by have := (u4 j hj); omega))), (frR_0 hF9)⟩ hI (lv_sub hl [2, 3, 4, 5, 6] rfl)
