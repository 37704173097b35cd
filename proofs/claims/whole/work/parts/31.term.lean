theorem vK_pw {n v : Nat} (h : pwOk n v) : vK (kN (v % 16) (v / 16 % 16) (v / 256)) := ⟨_, _, _, h.2.1, h.2.2.1, h.2.2.2, rfl⟩
theorem kN_pw2 {n v : Nat} (h : pwOk n v) : kN (v % 16) (v / 16 % 16) (v / 256) < 131072 := by obtain ⟨_, h1, h2, h3⟩ := h; exact kN_lt (by omega) (by omega) (by omega)
set_option maxHeartbeats 4000000 in
set_option maxRecDepth 100000 in
/-- term -/
theorem c_B_term (l : Launch) (D : mp_G) (g : Nat → ClassId) (S : mp_M) (sz : Nat) (o pa n : Nat) (eo ek en cap pz : Nat → Nat) (kf nf : Nat → Nat → Int32) (cf : Nat → Nat → Nat) (v2 v3 v4 v5 v6 v7 v8 v9 : Value) (k v : Nat) (ab be : Int64) (h_o : S o = some (0, .inr (0, [.int (nI n), .ref pa, v2, v3, v4, v5, v6, v7, v8, v9]))) (h_pa : S pa = some (1, .inl ((g 2), 40, .inr (.inr (.inr (.inr (rfs eo 40))))))) (hE : yS g 100 40 eo ek en cap pz kf nf S) (hG : pG 40 cap pz kf nf cf) (hk : k < 40) (hv : v < 2 ^ 31) (hn : n < 4) (hn0 : 0 < n) (hp : pwOk n v) (hq : rsN be ≠ 0) : Met l y_B_term w_B_term ({ frames := 4, cells := 2, slots := 4096, locals := 129 }) (va_Pc [.ref o, .int (nI k), .long ab, .long be, .int (nI v)] (mp_B0 D classes (tys g) S sz)) (va_Qi (fun (r : Int32) (S1 : mp_M) => ((cf k (kN (v % 16) (v / 16 % 16) (v / 256)) = (rsN ab * (rsN be ^ 32001 % 32003) % 32003) ∧ r = 0) ∨ (cf k (kN (v % 16) (v / 16 % 16) (v / 256)) ≠ (rsN ab * (rsN be ^ 32001 % 32003) % 32003) ∧ r = 1)) ∧ ∃ (ek1 en1 cap1 pz1 : Nat → Nat) (kf1 nf1 : Nat → Nat → Int32), yS g 100 40 eo ek1 en1 cap1 pz1 kf1 nf1 S1 ∧ pG 40 cap1 pz1 kf1 nf1 (va_up cf k (va_up (cf k) (kN (v % 16) (v / 16 % 16) (v / 256)) (rsN ab * (rsN be ^ 32001 % 32003) % 32003))) ∧ (∀ b t e9, S b = some (t, e9) → (t < 100 ∨ 220 ≤ t) → S1 b = S b)) (mp_B1 D classes S sz) (mp_A S sz)) 2 4096 (mp_A S sz) := by
  refine Met.ofW (cc := b_B_term) (maxL := 10) (ret := (some .boolean)) (by decide) rfl ?_
  intro p e s m args below meth c s₁ B hml hv
  obtain ⟨rfl, hsz, hH, hK⟩ := hv
  have hx := B.exec
  have hb := B.bytes
  have hr := B.returns
  have hts := atoms_spec (ws := w_B_term) B.pre
  have hg : ∀ w ∈ gw, w.before _ s = true := fun w h => hts w (List.mem_cons_of_mem _ h)
  have hown : s.vm.findClass R_B = some m.cls := findClass_of_methodNamed B.named
  have hlocks := B.notSynchronized
  subst hsz
  have hI := mp_I.start hH
  have hl := lv_entry ([.ref o, .int (nI k), .long ab, .long be, .int (nI v)]) (n := 10) (Nat.le_of_ble_eq_true rfl)
  rw [lg_entry_eq]
  generalize (lg_sl ([.ref o, .int (nI k), .long ab, .long be, .int (nI v)]) ++ List.replicate (10 - (lg_sl ([.ref o, .int (nI k), .long ab, .long be, .int (nI v)])).length) Slot.unset).toArray = ls at hl ⊢
  have hl : lv_has ls 10 [(0, .ref o), (1, .int (nI k)), (2, .long ab), (4, .long be), (6, .int (nI v))] := hl
  refine lv_aload_n hx hb d_B_term_0 rfl (lv_at hl 0 rfl) ?_
  refine lv_iload_n hx hb d_B_term_1 rfl (lv_at hl 1 rfl) ?_
  refine pp_callr (va_runV (As := [.int (nI k)]) (rest := []) ⟨hx, hb, hml, hown, hg⟩ (p_B_polynomialOf l D g S _ o pa eo (.int (nI n)) v2 v3 v4 v5 v6 v7 v8 v9 k h_o h_pa hk) ⟨(callB_of 1 hg (wd_goodG q_632) rfl rfl rfl (hg _ q_1) (hg _ q_629) (by decide +kernel) ⟨Nat.le_of_ble_eq_true rfl, Nat.le_of_ble_eq_true rfl⟩), hg _ q_631, hg _ qs_20⟩ (mp_preV (C := R_B) (T := F_B) hI hK h_o rfl [.int (nI k)]) rfl rfl hl.1 rfl (lv_room (Nat.le_of_ble_eq_true rfl)) d_B_term_2 ⟨Nat.le_of_ble_eq_true rfl, Nat.le_of_ble_eq_true rfl⟩) (fun r1 er1 => ?_)
  have er1 : r1 = eo k := er1
  subst er1
  refine lv_astore (lv' := [(7, .ref (eo k)), (0, .ref o), (1, .int (nI k)), (2, .long ab), (4, .long be), (6, .int (nI v))]) hx hb d_B_term_5 hl (by decide) rfl (fun ls hl => ?_)
  refine lv_iload hx hb d_B_term_7 (lv_at hl 5 rfl) ?_
  refine lv_aload_n hx hb d_B_term_9 rfl (lv_at hl 1 rfl) ?_
  refine mp_get (C := R_B) (T := F_B) (N := 10) (v := .int (nI n)) hx hb hg i_B hown hK.va hI h_o rfl 0 (by decide) (hg _ q_82) (fun _ h9 => h9) rfl d_B_term_10 ?_
  refine pp_calli (va_runS (As := [.int (nI v), .int (nI n)]) (rest := []) ⟨hx, hb, hml, hown, hg⟩ (p_W_keyOf l D g S _ v n hv hn hn0) ⟨(callB_of 2 hg (wd_goodG q_651) rfl rfl rfl (hg _ q_11) (hg _ q_649) (by decide +kernel) ⟨Nat.le_of_ble_eq_true rfl, Nat.le_of_ble_eq_true rfl⟩), hg _ q_650⟩ (mp_pre hI hK [.int (nI v), .int (nI n)]) rfl rfl hl.1 rfl (lv_room (Nat.le_of_ble_eq_true rfl)) d_B_term_13 ⟨Nat.le_of_ble_eq_true rfl, Nat.le_of_ble_eq_true rfl⟩) (fun r2 er2 => ?_)
  obtain rfl : r2 = nI (kN (v % 16) (v / 16 % 16) (v / 256)) := by rcases er2 with ⟨_, h9⟩ | ⟨h9, _⟩; exact h9; exact absurd hp h9
  have hkb := kN_pw (v := v) hp
  refine lv_istore (lv' := [(8, .int (nI (kN (v % 16) (v / 16 % 16) (v / 256)))), (7, .ref (eo k)), (0, .ref o), (1, .int (nI k)), (2, .long ab), (4, .long be), (6, .int (nI v))]) hx hb d_B_term_16 hl (by decide) rfl (fun ls hl => ?_)
  refine lv_iload hx hb d_B_term_18 (lv_at hl 0 rfl) ?_
  refine lv_if_ge (tgt := 33) hx hb d_B_term_20 (by decide) (fun _ => ?_) (fun h9 => absurd (nI_pos9 hkb) h9)
  refine lv_lload hx hb d_B_term_33 (lv_at hl 5 rfl) ?_
  refine pp_calli (va_runS (As := [.long be]) (rest := []) ⟨hx, hb, hml, hown, hg⟩ (p_B_numberOf l D g S _ be) ⟨(callB_of 1 hg (wd_goodG q_670) rfl rfl rfl (hg _ q_1) (hg _ q_668) (by decide +kernel) ⟨Nat.le_of_ble_eq_true rfl, Nat.le_of_ble_eq_true rfl⟩), hg _ q_669⟩ (mp_pre hI hK [.long be]) rfl rfl hl.1 rfl (lv_room (Nat.le_of_ble_eq_true rfl)) d_B_term_35 ⟨Nat.le_of_ble_eq_true rfl, Nat.le_of_ble_eq_true rfl⟩) (fun r3 er3 => ?_)
  have er3 : r3 = nI (rsN be) := er3
  subst er3
  refine lv_istore (lv' := [(9, .int (nI (rsN be))), (8, .int (nI (kN (v % 16) (v / 16 % 16) (v / 256)))), (7, .ref (eo k)), (0, .ref o), (1, .int (nI k)), (2, .long ab), (4, .long be), (6, .int (nI v))]) hx hb d_B_term_38 hl (by decide) rfl (fun ls hl => ?_)
  refine lv_iload hx hb d_B_term_40 (lv_at hl 0 rfl) ?_
  have hrb := rsN_lt be
  have hra := rsN_lt ab
  refine lv_if_ne (tgt := 55) hx hb d_B_term_42 (by decide) (fun _ => ?_) (fun h9 => absurd h9 (nI_ne9 (by omega) hq))
  refine lv_aload hx hb d_B_term_55 (lv_at hl 2 rfl) ?_
  refine lv_iload hx hb d_B_term_57 (lv_at hl 1 rfl) ?_
  refine lv_lload_n hx hb d_B_term_59 rfl (lv_at hl 5 rfl) ?_
  refine pp_calli (va_runS (As := [.long ab]) (rest := [.int (nI (kN (v % 16) (v / 16 % 16) (v / 256))), .ref (eo k)]) ⟨hx, hb, hml, hown, hg⟩ (p_B_numberOf l D g S _ ab) ⟨(callB_of 1 hg (wd_goodG q_670) rfl rfl rfl (hg _ q_1) (hg _ q_668) (by decide +kernel) ⟨Nat.le_of_ble_eq_true rfl, Nat.le_of_ble_eq_true rfl⟩), hg _ q_669⟩ (mp_pre hI hK [.long ab]) rfl rfl hl.1 rfl (lv_room (Nat.le_of_ble_eq_true rfl)) d_B_term_60 ⟨Nat.le_of_ble_eq_true rfl, Nat.le_of_ble_eq_true rfl⟩) (fun r4 er4 => ?_)
  have er4 : r4 = nI (rsN ab) := er4
  subst er4
  refine lv_iload hx hb d_B_term_63 (lv_at hl 0 rfl) ?_
  refine mp_calli hI (va_runS (As := [.int (nI (rsN be))]) (rest := [.int (nI (rsN ab)), .int (nI (kN (v % 16) (v / 16 % 16) (v / 256))), .ref (eo k)]) ⟨hx, hb, hml, hown, hg⟩ (c_B_inverse l D g S _ (rsN be) (rsN_lt be)) ⟨(callB_of 1 hg (wd_goodG q_414) rfl rfl rfl (hg _ q_1) (hg _ q_691) (by decide +kernel) ⟨Nat.le_of_ble_eq_true rfl, Nat.le_of_ble_eq_true rfl⟩), hg _ q_413⟩ (mp_pre hI hK [.int (nI (rsN be))]) rfl rfl hl.1 rfl (lv_room (Nat.le_of_ble_eq_true rfl)) d_B_term_65 ⟨Nat.le_of_ble_eq_true rfl, Nat.le_of_ble_eq_true rfl⟩) (fun r8 S5 H6 locs p_7 hI => ?_)
  obtain ⟨er8, eS9⟩ := p_7
  rw [eS9] at hI
  have er8 : r8 = nI (rsN be ^ 32001 % 32003) := er8
  subst er8
  have hib : rsN be ^ 32001 % 32003 < 32003 := Nat.mod_lt _ (show 0 < 32003 by decide)
  refine lv_imul hx hb d_B_term_68 ?_
  refine lv_topi (fun v10 ev10 => ?_)
  obtain rfl : v10 = nI ((rsN ab) * (rsN be ^ 32001 % 32003)) := ev10.trans (pk_mul _ _)
  refine lv_sipush (v := nI 32003) hx hb d_B_term_69 (by decide) ?_
  refine lv_irem hx hb d_B_term_72 (by decide) ?_
  refine lv_topi (fun v11 ev11 => ?_)
  obtain rfl : v11 = nI (((rsN ab) * (rsN be ^ 32001 % 32003)) % 32003) := ev11.trans (pk_rem (m2_lt hra hib) (by omega) (by omega))
  obtain ⟨y1, y2, y3⟩ := hE k hk
  obtain ⟨g1, g2, g3, g4, g5⟩ := hG k hk
  refine mp_calli hI (va_runV (As := [.int (nI (kN (v % 16) (v / 16 % 16) (v / 256))), .int (nI (((rsN ab) * (rsN be ^ 32001 % 32003)) % 32003))]) (rest := []) ⟨hx, hb, hml, hown, hg⟩ (c_Y_put l D g S _ (eo k) (ek k) (en k) (100 + 3 * k) (cap k) (pz k) (kN (v % 16) (v / 16 % 16) (v / 256)) (rsN ab * (rsN be ^ 32001 % 32003) % 32003) (kf k) (nf k) (cf k) y1 y2 y3 g1 g3 g5 g4 (pY_le g1 g2) (kN_pw2 hp) (Nat.mod_lt _ (show 0 < 32003 by decide))) ⟨(callB_of 2 hg (wd_goodG q_695) rfl rfl rfl (hg _ q_3) (hg _ q_692) (by decide +kernel) ⟨Nat.le_of_ble_eq_true rfl, Nat.le_of_ble_eq_true rfl⟩), hg _ q_693, hg _ q_694⟩ (mp_preV (C := R_Y) (T := F_Y) hI hK y1 rfl [.int (nI (kN (v % 16) (v / 16 % 16) (v / 256))), .int (nI (((rsN ab) * (rsN be ^ 32001 % 32003)) % 32003))]) rfl rfl hl.1 rfl (lv_room (Nat.le_of_ble_eq_true rfl)) d_B_term_73 ⟨Nat.le_of_ble_eq_true rfl, Nat.le_of_ble_eq_true rfl⟩) (fun r15 S12 H13 locs p_14 hI => ?_)
  obtain ⟨er15, ka1, na1, c1, z1, kf1, nf1, q1, q2, q3, q4, q5, q6, q7, fq⟩ := p_14
  have hE1 := yS_put hE hk q1 q2 q3 fq
  have hG1 := pG_put hG q4 (vK_pw hp) q5 q6 q7
  have hfr : ∀ b t e9, S b = some (t, e9) → (t < 100 ∨ 220 ≤ t) → S12 b = S b := fun b t e9 h9 h8 => fq b (mp_in h9) (mp_ne h9 y1 (by omega)) (mp_ne h9 y2 (by omega)) (mp_ne h9 y3 (by omega))
  rcases er15 with ⟨hz9, rfl⟩ | ⟨hz9, rfl⟩
  · refine mp_zret hx hb hr hlocks hI (Nat.le_of_ble_eq_true rfl) (Nat.le_of_ble_eq_true rfl) ?_ (by decide) d_B_term_76
    exact ⟨Or.inl ⟨hz9, rfl⟩, _, _, _, _, _, _, hE1, hG1, hfr⟩
  · refine mp_zret hx hb hr hlocks hI (Nat.le_of_ble_eq_true rfl) (Nat.le_of_ble_eq_true rfl) ?_ (by decide) d_B_term_76
    exact ⟨Or.inr ⟨hz9, rfl⟩, _, _, _, _, _, _, hE1, hG1, hfr⟩
