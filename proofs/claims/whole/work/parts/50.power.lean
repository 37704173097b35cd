theorem met_v {l : Launch} {y : MethodName} {ws : List Cond} {rm : Room} {Pc : Array Value → State → Prop} {T : Type} {post1 post2 : T → Prop} {B : T → State → Prop} {A : Nat → Prop} {mc ms : Nat} {fr : Addr → Prop} (h : Met l y ws rm Pc (va_Qv post1 B A) mc ms fr) (hp : ∀ u, post1 u → post2 u) : Met l y ws rm Pc (va_Qv post2 B A) mc ms fr := by
  refine MetFree.imp h (fun a s o t q => ?_)
  obtain ⟨⟨⟨u, h1, h2, h3⟩, h4⟩, h5⟩ := q
  exact ⟨⟨⟨u, h1, hp u h2, h3⟩, h4⟩, h5⟩
theorem met_i {l : Launch} {y : MethodName} {ws : List Cond} {rm : Room} {Pc : Array Value → State → Prop} {T : Type} {post1 post2 : Int32 → T → Prop} {B : T → State → Prop} {A : Nat → Prop} {mc ms : Nat} {fr : Addr → Prop} (h : Met l y ws rm Pc (va_Qi post1 B A) mc ms fr) (hp : ∀ r u, post1 r u → post2 r u) : Met l y ws rm Pc (va_Qi post2 B A) mc ms fr := by
  refine MetFree.imp h (fun a s o t q => ?_)
  obtain ⟨⟨⟨r, u, h1, h2, h3⟩, h4⟩, h5⟩ := q
  exact ⟨⟨⟨r, u, h1, hp r u h2, h3⟩, h4⟩, h5⟩
/-- the monic polynomial of degree m with the numbers b below -/
def mfN (m : Nat) (b : Nat → fF) (a : fF) : fF := pe m b a + a ^ m
theorem mf_PM (m : Nat) (b : Nat → fF) : PM m (mfN m b) := ⟨b, fun _ => rfl⟩
theorem ol_PL {n N : Nat} {c : Nat → fF} (h : olP n c) (hN : n ≤ N) : PL N (fun a => pe 33 c a) := PL_le hN ⟨c, fun a => pe_ol h.2.1 h.1 a⟩
/-- a power of the letter plus s, less multiples of the monic one of degree dm: n numbers c -/
def bpS (dm : Nat) (b : Nat → fF) (s : fF) (t n : Nat) (c : Nat → fF) : Prop := olP n c ∧ n ≤ dm ∧ ∃ w : fF → fF, (∀ a, (a + s) ^ t = w a * mfN dm b a + pe 33 c a) ∧ (dm ≤ t → PM (t - dm) w) ∧ (t < dm → (∀ a, w a = 0) ∧ n = t + 1 ∧ c t = 1)
theorem ol_e0 : olP 1 (eK 0) := ⟨by decide, fun k hk => by unfold eK; rw [if_neg (by omega)], fun _ => by unfold eK; rw [if_pos rfl]; decide⟩
theorem bpS_0 {dm : Nat} {b : Nat → fF} {s : fF} (hd : 1 ≤ dm) : bpS dm b s 0 1 (eK 0) := by
  refine ⟨ol_e0, hd, fun _ => 0, fun a => ?_, fun h => absurd h (by omega), fun _ => ⟨fun _ => rfl, rfl, by unfold eK; rw [if_pos rfl]⟩⟩
  rw [pe_ol ol_e0.2.1 (by decide), pe_s]; unfold pe; rw [sm_0]; unfold eK; rw [if_pos rfl]; grind
theorem bpS_sq {dm : Nat} {b : Nat → fF} {s : fF} {t n : Nat} {c : Nat → fF} (h : bpS dm b s t n c) (hd : 1 ≤ dm) {n1 n9 : Nat} {c1 c9 : Nat → fF} (hsq : ∀ a, pe 33 c1 a = pe 33 c a * pe 33 c a) (h0 : n = 0 → n1 = 0) (h1 : 0 < n → n1 = 2 * (n - 1) + 1 ∧ c1 (n1 - 1) = c (n - 1) * c (n - 1))
    (ho : olP n9 c9) (he : n1 ≤ dm → n9 = n1 ∧ c9 = c1) (hlt : dm < n1 → n9 ≤ dm) (hQ : ∃ Q : fF → fF, (∀ a, pe 33 c1 a = Q a * (pe dm b a + a ^ dm) + pe 33 c9 a) ∧ PL (n1 - dm) Q ∧ (dm < n1 → c1 (n1 - 1) = 1 → PM (n1 - 1 - dm) Q) ∧ (n1 ≤ dm → ∀ a, Q a = 0)) : bpS dm b s (2 * t) n9 c9 := by
  obtain ⟨hol, hn, w, w1, w2, w3⟩ := h
  obtain ⟨Q, q1, q2, q3, q4⟩ := hQ
  have hn1 : n1 ≤ 2 * dm - 1 := by
    rcases Nat.eq_zero_or_pos n with e | e
    · rw [h0 e]; omega
    · rw [(h1 e).1]; omega
  obtain ⟨w', k1, k2, k3⟩ := bp_sq (s := s) (t := t) (w := w) (q := Q) (o := fun a => pe 33 c a) (o' := fun a => pe 33 c9 a) (mf_PM dm b) hd w1 (ol_PL hol hn) (fun a => by show pe 33 c a * pe 33 c a = _; rw [← hsq, q1]; rfl) (PL_le (by omega) q2) w2 (fun e => (w3 e).1)
    (fun e1 e2 => by
      obtain ⟨_, r1, r2⟩ := w3 e1
      obtain ⟨r3, r4⟩ := h1 (by omega)
      have r5 := q3 (by omega) (by rw [r4, show n - 1 = t by omega, r2]; grind)
      rw [show n1 - 1 - dm = 2 * t - dm by omega] at r5; exact r5)
    (fun e1 e2 => by
      obtain ⟨_, r1, r2⟩ := w3 e1
      obtain ⟨r3, r4⟩ := h1 (by omega)
      exact q4 (by omega))
  refine ⟨ho, ?_, w', k1, k2, fun e => ⟨k3 e, ?_⟩⟩
  · by_cases e : n1 ≤ dm
    · rw [(he e).1]; exact e
    · exact hlt (by omega)
  · obtain ⟨_, r1, r2⟩ := w3 (by omega)
    obtain ⟨r3, r4⟩ := h1 (by omega)
    obtain ⟨e1, e2⟩ := he (by omega)
    refine ⟨by omega, ?_⟩
    rw [e2, show 2 * t = n1 - 1 by omega, r4, show n - 1 = t by omega, r2]; grind
theorem bpS_mul {dm : Nat} {b : Nat → fF} {s : fF} {t n : Nat} {c : Nat → fF} (h : bpS dm b s t n c) (hd : 1 ≤ dm) {n1 n9 : Nat} {c1 c9 : Nat → fF} (hsq : ∀ a, pe 33 c1 a = (a + s) * pe 33 c a) (h0 : n = 0 → n1 = 0) (h1 : 0 < n → n1 = n + 1 ∧ c1 n = c (n - 1))
    (ho : olP n9 c9) (he : n1 ≤ dm → n9 = n1 ∧ c9 = c1) (hlt : dm < n1 → n9 ≤ dm) (hQ : ∃ Q : fF → fF, (∀ a, pe 33 c1 a = Q a * (pe dm b a + a ^ dm) + pe 33 c9 a) ∧ PL (n1 - dm) Q ∧ (dm < n1 → c1 (n1 - 1) = 1 → PM (n1 - 1 - dm) Q) ∧ (n1 ≤ dm → ∀ a, Q a = 0)) : bpS dm b s (t + 1) n9 c9 := by
  obtain ⟨hol, hn, w, w1, w2, w3⟩ := h
  obtain ⟨Q, q1, q2, q3, q4⟩ := hQ
  have hn1 : n1 ≤ dm + 1 := by
    rcases Nat.eq_zero_or_pos n with e | e
    · rw [h0 e]; omega
    · rw [(h1 e).1]; omega
  obtain ⟨w', k1, k2, k3⟩ := bp_mul (s := s) (t := t) (m := mfN dm b) (w := w) (q := Q) (o := fun a => pe 33 c a) (o' := fun a => pe 33 c9 a) hd w1 (fun a => by show (a + s) * pe 33 c a = _; rw [← hsq, q1]; rfl) (PL_le (by omega) q2) w2 (fun e => (w3 e).1)
    (fun e1 e2 => by
      obtain ⟨_, r1, r2⟩ := w3 e1
      obtain ⟨r3, r4⟩ := h1 (by omega)
      have r5 := q3 (by omega) (by rw [show n1 - 1 = n by omega, r4, show n - 1 = t by omega, r2])
      rw [show n1 - 1 - dm = 0 by omega] at r5; exact r5)
    (fun e1 e2 => by
      obtain ⟨_, r1, r2⟩ := w3 e1
      obtain ⟨r3, r4⟩ := h1 (by omega)
      exact q4 (by omega))
  refine ⟨ho, ?_, w', k1, k2, fun e => ⟨k3 e, ?_⟩⟩
  · by_cases e : n1 ≤ dm
    · rw [(he e).1]; exact e
    · exact hlt (by omega)
  · obtain ⟨_, r1, r2⟩ := w3 (by omega)
    obtain ⟨r3, r4⟩ := h1 (by omega)
    obtain ⟨e1, e2⟩ := he (by omega)
    refine ⟨by omega, ?_⟩
    rw [e2, show t + 1 = n by omega, r4, show n - 1 = t by omega, r2]

theorem d_O_becomePower_0 : decode b_O_becomePower 0 = .ok (.aload_n 0, 1) := by decide +kernel
theorem d_O_becomePower_1 : decode b_O_becomePower 1 = .ok (.getfield 9, 3) := by decide +kernel
theorem d_O_becomePower_4 : decode b_O_becomePower 4 = .ok (.iconst 0, 1) := by decide +kernel
theorem d_O_becomePower_5 : decode b_O_becomePower 5 = .ok (.invokestatic 46, 3) := by decide +kernel
theorem d_O_becomePower_8 : decode b_O_becomePower 8 = .ok (.aload_n 0, 1) := by decide +kernel
theorem d_O_becomePower_9 : decode b_O_becomePower 9 = .ok (.getfield 9, 3) := by decide +kernel
theorem d_O_becomePower_12 : decode b_O_becomePower 12 = .ok (.iconst 0, 1) := by decide +kernel
theorem d_O_becomePower_13 : decode b_O_becomePower 13 = .ok (.iconst 1, 1) := by decide +kernel
theorem d_O_becomePower_14 : decode b_O_becomePower 14 = .ok (.iastore, 1) := by decide +kernel
theorem d_O_becomePower_15 : decode b_O_becomePower 15 = .ok (.aload_n 0, 1) := by decide +kernel
theorem d_O_becomePower_16 : decode b_O_becomePower 16 = .ok (.iconst 0, 1) := by decide +kernel
theorem d_O_becomePower_17 : decode b_O_becomePower 17 = .ok (.putfield 15, 3) := by decide +kernel
theorem d_O_becomePower_20 : decode b_O_becomePower 20 = .ok (.bipush 14, 2) := by decide +kernel
theorem d_O_becomePower_22 : decode b_O_becomePower 22 = .ok (.istore 4, 2) := by decide +kernel
theorem d_O_becomePower_24 : decode b_O_becomePower 24 = .ok (.iload 4, 2) := by decide +kernel
theorem d_O_becomePower_26 : decode b_O_becomePower 26 = .ok (.ifCond .lt 38, 3) := by decide +kernel
theorem d_O_becomePower_29 : decode b_O_becomePower 29 = .ok (.aload_n 0, 1) := by decide +kernel
theorem d_O_becomePower_30 : decode b_O_becomePower 30 = .ok (.invokevirtual 52, 3) := by decide +kernel
theorem d_O_becomePower_33 : decode b_O_becomePower 33 = .ok (.aload_n 0, 1) := by decide +kernel
theorem d_O_becomePower_34 : decode b_O_becomePower 34 = .ok (.aload_n 3, 1) := by decide +kernel
theorem d_O_becomePower_35 : decode b_O_becomePower 35 = .ok (.invokevirtual 55, 3) := by decide +kernel
theorem d_O_becomePower_38 : decode b_O_becomePower 38 = .ok (.iload_n 2, 1) := by decide +kernel
theorem d_O_becomePower_39 : decode b_O_becomePower 39 = .ok (.iload 4, 2) := by decide +kernel
theorem d_O_becomePower_41 : decode b_O_becomePower 41 = .ok (.ishr, 1) := by decide +kernel
theorem d_O_becomePower_42 : decode b_O_becomePower 42 = .ok (.iconst 1, 1) := by decide +kernel
theorem d_O_becomePower_43 : decode b_O_becomePower 43 = .ok (.iand, 1) := by decide +kernel
theorem d_O_becomePower_44 : decode b_O_becomePower 44 = .ok (.iconst 1, 1) := by decide +kernel
theorem d_O_becomePower_45 : decode b_O_becomePower 45 = .ok (.if_icmp .ne 13, 3) := by decide +kernel
theorem d_O_becomePower_48 : decode b_O_becomePower 48 = .ok (.aload_n 0, 1) := by decide +kernel
theorem d_O_becomePower_49 : decode b_O_becomePower 49 = .ok (.iload_n 1, 1) := by decide +kernel
theorem d_O_becomePower_50 : decode b_O_becomePower 50 = .ok (.invokevirtual 58, 3) := by decide +kernel
theorem d_O_becomePower_53 : decode b_O_becomePower 53 = .ok (.aload_n 0, 1) := by decide +kernel
theorem d_O_becomePower_54 : decode b_O_becomePower 54 = .ok (.aload_n 3, 1) := by decide +kernel
theorem d_O_becomePower_55 : decode b_O_becomePower 55 = .ok (.invokevirtual 55, 3) := by decide +kernel
theorem d_O_becomePower_58 : decode b_O_becomePower 58 = .ok (.iinc 4 (-1), 3) := by decide +kernel
theorem d_O_becomePower_61 : decode b_O_becomePower 61 = .ok (.goto (-37), 3) := by decide +kernel
theorem d_O_becomePower_64 : decode b_O_becomePower 64 = .ok (.return_, 1) := by decide +kernel
theorem d_O_multiplyByShifted_21 : decode b_O_multiplyByShifted 21 = .ok (.return_, 1) := by decide +kernel
theorem d_O_square_21 : decode b_O_square 21 = .ok (.return_, 1) := by decide +kernel
set_option maxHeartbeats 4000000 in
set_option maxRecDepth 100000 in
/-- the square, 0 too -/
theorem c_O_sqG (l : Launch) (D : mp_G) (g : Nat → ClassId) (S : mp_M) (sz : Nat) (oo oa TO : Nat) (cf : Nat → fF) (n : Nat) (h_oo : S oo = some (TO, .inr (1, [.ref oa, .int (nI n + -1)]))) (h_oa : S oa = some ((TO + 1), .inl ((g 0), 33, .inl (fun j => nI (cf j).val)))) (hc : olP n cf) (hn : n ≤ 16) : Met l y_O_square w_O_square ({ frames := 1, cells := 0, slots := 0, locals := 21 }) (va_Pc [.ref oo] (mp_B0 D classes (tys g) S sz)) (va_Qv (fun (S1 : mp_M) => ∃ (n1 : Nat) (c1 : Nat → fF), S1 oo = some (TO, .inr (1, [.ref oa, .int (nI n1 + -1)])) ∧ S1 oa = some ((TO + 1), .inl ((g 0), 33, .inl (fun j => nI (c1 j).val))) ∧ olP n1 c1 ∧ (∀ a, pe 33 c1 a = pe 33 cf a * pe 33 cf a) ∧ (n = 0 → n1 = 0) ∧ (0 < n → n1 = 2 * (n - 1) + 1 ∧ c1 (n1 - 1) = cf (n - 1) * cf (n - 1)) ∧ (∀ b t e9, S b = some (t, e9) → (t ≠ TO) → (t ≠ TO + 1) → S1 b = some (t, e9))) (mp_B1 D classes S sz) (mp_A S sz)) 0 0 (mp_A S sz) := by
  cases n with
  | succ d =>
    rw [nI_dec] at h_oo
    refine met_v (c_O_square l D g S sz oo oa TO cf d h_oo h_oa (by omega) (fun k hk => hc.2.1 k (by omega))) (fun S1 q => ?_)
    obtain ⟨q1, q2, q3⟩ := q
    have hne : cf d ≠ 0 := hc.2.2 (Nat.succ_pos d)
    refine ⟨2 * d + 1, _, by rw [nI_dec]; exact q1, q2, ⟨by omega, fun k hk => sqN_hi (by omega), fun _ => ?_⟩, fun a => ?_, fun e9 => absurd e9 (Nat.succ_ne_zero d), fun _ => ⟨rfl, sq_top⟩, q3⟩
    · rw [show 2 * d + 1 - 1 = 2 * d by omega, sq_top]; intro e9; rcases fF_nz e9 with e9 | e9 <;> exact hne e9
    · rw [pe_ol (n := 2 * d + 1) (fun k hk => sqN_hi (by omega)) (by omega), sq_eq, pe_ol hc.2.1 hc.1]
  | zero =>
    refine Met.ofW (cc := b_O_square) (maxL := 5) (ret := none) (by decide) rfl ?_
    intro p e s m args below meth c s₁ B hml hv
    obtain ⟨rfl, hsz, hH, hK⟩ := hv
    have hx := B.exec
    have hb := B.bytes
    have hr := B.returns
    have hts := atoms_spec (ws := w_O_square) B.pre
    have hg : ∀ w ∈ gw, w.before _ s = true := fun w h => hts w (List.mem_cons_of_mem _ h)
    have hown : s.vm.findClass R_O = some m.cls := findClass_of_methodNamed B.named
    have hlocks := B.notSynchronized
    subst hsz
    have hI := mp_I.start hH
    have hl := lv_entry ([.ref oo]) (n := 5) (Nat.le_of_ble_eq_true rfl)
    rw [lg_entry_eq]
    generalize (lg_sl ([.ref oo]) ++ List.replicate (5 - (lg_sl ([.ref oo])).length) Slot.unset).toArray = ls at hl ⊢
    have hl : lv_has ls 5 [(0, .ref oo)] := hl
    have hfr : ∀ b t e9, S b = some (t, e9) → (t ≠ TO) → (t ≠ TO + 1) → S b = some (t, e9) := fun _ _ _ h9 _ _ => h9
    refine lv_aload_n hx hb d_O_square_0 rfl (lv_at hl 0 rfl) ?_
    refine mp_get (C := R_O) (T := F_O) (N := 2) (v := .int (nI 0 + -1)) hx hb hg i_O hown hK.va hI h_oo rfl 1 (by decide) (hg _ q_138) (fun _ h9 => h9) rfl d_O_square_1 ?_
    refine lv_if_lt (tgt := 21) hx hb d_O_square_4 (by decide) (fun _ => ?_) (fun h9 => absurd (by decide) h9)
    have hz : ∀ a, pe 33 cf a = 0 := fun a => by rw [pe_ol hc.2.1 hc.1]; rfl
    refine mp_vret hx hb hr hlocks hI (Nat.le_of_ble_eq_true rfl) (Nat.le_of_ble_eq_true rfl) ?_ d_O_square_21
    exact ⟨0, cf, h_oo, h_oa, hc, fun a => by rw [hz]; grind, fun _ => rfl, fun e9 => absurd e9 (Nat.lt_irrefl 0), hfr⟩
set_option maxHeartbeats 4000000 in
set_option maxRecDepth 100000 in
/-- times the shifted letter, 0 too -/
theorem c_O_mulG (l : Launch) (D : mp_G) (g : Nat → ClassId) (S : mp_M) (sz : Nat) (oo oa TO : Nat) (cf : Nat → fF) (n : Nat) (s9 : fF) (h_oo : S oo = some (TO, .inr (1, [.ref oa, .int (nI n + -1)]))) (h_oa : S oa = some ((TO + 1), .inl ((g 0), 33, .inl (fun j => nI (cf j).val)))) (hc : olP n cf) (hn : n ≤ 16) : Met l y_O_multiplyByShifted w_O_multiplyByShifted ({ frames := 0, cells := 0, slots := 0, locals := 0 }) (va_Pc [.ref oo, .int (nI (s9).val)] (mp_B0 D classes (tys g) S sz)) (va_Qv (fun (S1 : mp_M) => ∃ (n1 : Nat) (c1 : Nat → fF), S1 oo = some (TO, .inr (1, [.ref oa, .int (nI n1 + -1)])) ∧ S1 oa = some ((TO + 1), .inl ((g 0), 33, .inl (fun j => nI (c1 j).val))) ∧ olP n1 c1 ∧ (∀ a, pe 33 c1 a = (a + s9) * pe 33 cf a) ∧ (n = 0 → n1 = 0) ∧ (0 < n → n1 = n + 1 ∧ c1 n = cf (n - 1)) ∧ (∀ b t e9, S b = some (t, e9) → (t ≠ TO) → (t ≠ TO + 1) → S1 b = some (t, e9))) (mp_B1 D classes S sz) (mp_A S sz)) 0 0 (mp_A S sz) := by
  cases n with
  | succ d =>
    rw [nI_dec] at h_oo
    refine met_v (c_O_mul l D g S sz oo oa TO cf d s9 h_oo h_oa (by omega) (fun k hk => hc.2.1 k (by omega))) (fun S1 q => ?_)
    obtain ⟨q1, q2, q3⟩ := q
    have hne : cf d ≠ 0 := hc.2.2 (Nat.succ_pos d)
    have hz1 : cf (d + 1) = 0 := hc.2.1 (d + 1) (Nat.le_refl _)
    have hz : ∀ k, d + 2 ≤ k → mbs s9 cf k = 0 := fun k hk => by unfold mbs; rw [if_neg (by omega), hc.2.1 (k - 1) (by omega), hc.2.1 k (by omega)]; grind
    have ht : mbs s9 cf (d + 1) = cf d := by unfold mbs; rw [if_neg (by omega), hz1, Nat.add_sub_cancel]; grind
    refine ⟨d + 2, _, by rw [show d + 2 = d + 1 + 1 from rfl, nI_dec]; exact q1, q2, ⟨by omega, hz, fun _ => by rw [show d + 2 - 1 = d + 1 by omega, ht]; exact hne⟩, fun a => ?_, fun e9 => absurd e9 (Nat.succ_ne_zero d), fun _ => ⟨rfl, ht⟩, q3⟩
    rw [pe_ol hz (by omega), mbs_eq s9 a hz1, pe_ol hc.2.1 hc.1]
  | zero =>
    refine Met.ofW (cc := b_O_multiplyByShifted) (maxL := 3) (ret := none) (by decide) rfl ?_
    intro p e s m args below meth c s₁ B hml hv
    obtain ⟨rfl, hsz, hH, hK⟩ := hv
    have hx := B.exec
    have hb := B.bytes
    have hr := B.returns
    have hts := atoms_spec (ws := w_O_multiplyByShifted) B.pre
    have hg : ∀ w ∈ gw, w.before _ s = true := fun w h => hts w (List.mem_cons_of_mem _ h)
    have hown : s.vm.findClass R_O = some m.cls := findClass_of_methodNamed B.named
    have hlocks := B.notSynchronized
    subst hsz
    have hI := mp_I.start hH
    have hl := lv_entry ([.ref oo, .int (nI (s9).val)]) (n := 3) (Nat.le_of_ble_eq_true rfl)
    rw [lg_entry_eq]
    generalize (lg_sl ([.ref oo, .int (nI (s9).val)]) ++ List.replicate (3 - (lg_sl ([.ref oo, .int (nI (s9).val)])).length) Slot.unset).toArray = ls at hl ⊢
    have hl : lv_has ls 3 [(0, .ref oo), (1, .int (nI (s9).val))] := hl
    have hfr : ∀ b t e9, S b = some (t, e9) → (t ≠ TO) → (t ≠ TO + 1) → S b = some (t, e9) := fun _ _ _ h9 _ _ => h9
    refine lv_aload_n hx hb d_O_multiplyByShifted_0 rfl (lv_at hl 0 rfl) ?_
    refine mp_get (C := R_O) (T := F_O) (N := 2) (v := .int (nI 0 + -1)) hx hb hg i_O hown hK.va hI h_oo rfl 1 (by decide) (hg _ q_138) (fun _ h9 => h9) rfl d_O_multiplyByShifted_1 ?_
    refine lv_if_lt (tgt := 21) hx hb d_O_multiplyByShifted_4 (by decide) (fun _ => ?_) (fun h9 => absurd (by decide) h9)
    have hz : ∀ a, pe 33 cf a = 0 := fun a => by rw [pe_ol hc.2.1 hc.1]; rfl
    refine mp_vret hx hb hr hlocks hI (Nat.le_of_ble_eq_true rfl) (Nat.le_of_ble_eq_true rfl) ?_ d_O_multiplyByShifted_21
    exact ⟨0, cf, h_oo, h_oa, hc, fun a => by rw [hz]; grind, fun _ => rfl, fun e9 => absurd e9 (Nat.lt_irrefl 0), hfr⟩
set_option maxHeartbeats 4000000 in
set_option maxRecDepth 100000 in
theorem lp_O_power {p : Program} {l : Launch} {e : Env} {R : Room} {s : State} {m : MethodId} {args : Array Value} {below : List Frame} {meth : Method} {c : Code} {Q : State → Prop} {D : mp_G} {g : Nat → ClassId} {A : Nat → Prop} {cells slots : Nat} (hx : p.tables.exec = Jvm.exec) (hb : c.code = b_O_becomePower) (hml : c.maxLocals = 5) (hg : ∀ w ∈ gw, w.before args s = true) (hown : s.vm.findClass R_O = some m.cls) (hK : mp_K D classes (tys g) s) (hRf : 3 ≤ R.frames) (hRl : 64 ≤ R.locals) (hRc : cells ≤ R.cells) (hRs : slots ≤ R.slots) {B : mp_M} {oo oa TO E9 : Nat} {s9 : fF} {bo ba TB dm : Nat} {bf : Nat → fF} (hlab : TO + 1 < TB ∨ TB + 1 < TO) (hd1 : 1 ≤ dm) (hd2 : dm ≤ 16) (hE : ∀ k, k < 15 → ((nI E9 >>> (nI k &&& 31)) &&& nI 1) = nI (E9 / 2 ^ k % 2)) (hE2 : E9 < 2 ^ 15) : ∀ (k : Nat) (n : Nat) (cf : Nat → fF) (S : mp_M) (H : Heap) (locs : List Loc) (ls : Array Slot), k ≤ 15 → (bpS dm bf s9 (E9 / 2 ^ k) n cf) → S oo = some (TO, .inr (1, [.ref oa, .int (nI n + -1)])) → S oa = some ((TO + 1), .inl ((g 0), 33, .inl (fun j => nI (cf j).val))) → S bo = some (TB, .inr (1, [.ref ba, .int (nI dm)])) → S ba = some ((TB + 1), .inl ((g 0), 33, .inl (fun j => nI (bf j).val))) → (∀ b t e9, B b = some (t, e9) → (t ≠ TO) → (t ≠ TO + 1) → S b = some (t, e9)) → mp_I D classes A s.heap S H locs → lv_has ls 5 [(4, .int (nI k + -1)), (3, .ref bo), (2, .int (nI E9)), (1, .int (nI (s9).val)), (0, .ref oo)] → (∀ (n : Nat) (cf : Nat → fF) (S : mp_M) (H : Heap) (locs : List Loc) (ls : Array Slot), (bpS dm bf s9 (E9 / 2 ^ 0) n cf) → S oo = some (TO, .inr (1, [.ref oa, .int (nI n + -1)])) → S oa = some ((TO + 1), .inl ((g 0), 33, .inl (fun j => nI (cf j).val))) → S bo = some (TB, .inr (1, [.ref ba, .int (nI dm)])) → S ba = some ((TB + 1), .inl ((g 0), 33, .inl (fun j => nI (bf j).val))) → (∀ b t e9, B b = some (t, e9) → (t ≠ TO) → (t ≠ TO + 1) → S b = some (t, e9)) → mp_I D classes A s.heap S H locs → lv_has ls 5 [(4, .int (nI 0 + -1)), (3, .ref bo), (2, .int (nI E9)), (1, .int (nI (s9).val)), (0, .ref oo)] → W p l e R s m args below meth c H locs cells slots Q (F0 m 64 ls [])) → W p l e R s m args below meth c H locs cells slots Q (F0 m 24 ls []) := by
  intro k
  induction k with
  | zero =>
    intro n cf S H locs ls hi hst h_oo h_oa h_bo h_ba hfr hI hl kx
    refine lv_iload hx hb d_O_becomePower_24 (lv_at hl 0 rfl) ?_
    refine lv_if_lt (tgt := 64) hx hb d_O_becomePower_26 (by decide) (fun _ => ?_) (fun h9 => absurd (by decide) h9)
    exact kx n cf S H locs ls hst h_oo h_oa h_bo h_ba hfr hI (lv_sub hl [0, 1, 2, 3, 4] rfl)
  | succ k ih =>
    intro n cf S H locs ls hi hst h_oo h_oa h_bo h_ba hfr hI hl kx
    rw [nI_dec] at hl
    refine lv_iload hx hb d_O_becomePower_24 (lv_at hl 0 rfl) ?_
    refine lv_if_lt (tgt := 64) hx hb d_O_becomePower_26 (by decide) (fun h9 => absurd h9 (nI_pos (by omega))) (fun _ => ?_)
    refine lv_aload_n hx hb d_O_becomePower_29 rfl (lv_at hl 4 rfl) ?_
    have hnd := hst.2.1
    have hol := hst.1
    refine mp_callv hI (va_runV (As := []) (rest := []) ⟨hx, hb, hml, hown, hg⟩ (c_O_sqG l D g S _ oo oa TO cf n h_oo h_oa hol (by omega)) ⟨(callB_of 0 hg (wd_goodG q_441) rfl rfl rfl (hg _ q_18) (hg _ q_438) (by decide +kernel) ⟨Nat.le_trans (Nat.le_of_ble_eq_true rfl) hRf, Nat.le_trans (Nat.le_of_ble_eq_true rfl) hRl⟩), hg _ q_440, hg _ qs_11⟩ (mp_preV (C := R_O) (T := F_O) hI hK h_oo rfl []) rfl rfl hl.1 rfl (lv_room (Nat.le_of_ble_eq_true rfl)) d_O_becomePower_30 ⟨by omega, by omega⟩) (fun S1 H2 locs p_3 hI => ?_)
    obtain ⟨n1, c1, q_oo, q_oa, ol1, hs1, hs2, hs3, fq⟩ := p_3
    have h_bo : S1 bo = some (TB, .inr (1, [.ref ba, .int (nI dm)])) := fq bo _ _ h_bo (by omega) (by omega)
    have h_ba : S1 ba = some ((TB + 1), .inl ((g 0), 33, .inl (fun j => nI (bf j).val))) := fq ba _ _ h_ba (by omega) (by omega)
    have hfr : ∀ b t e9, B b = some (t, e9) → (t ≠ TO) → (t ≠ TO + 1) → S1 b = some (t, e9) := fun b t e9 h9 k0 k1 => by have h8 := hfr b t e9 h9 k0 k1; exact fq b _ _ h8 (by omega) (by omega)
    have h_oo := q_oo
    have h_oa := q_oa
    refine lv_aload_n hx hb d_O_becomePower_33 rfl (lv_at hl 4 rfl) ?_
    refine lv_aload_n hx hb d_O_becomePower_34 rfl (lv_at hl 1 rfl) ?_
    refine mp_callv hI (va_runV (As := [.ref bo]) (rest := []) ⟨hx, hb, hml, hown, hg⟩ (c_O_rem l D g S1 _ oo oa TO c1 bo ba TB dm bf n1 h_oo h_oa h_bo h_ba hlab ol1 (by omega)) ⟨(callB_of 1 hg (wd_goodG q_447) rfl rfl rfl (hg _ q_18) (hg _ q_444) (by decide +kernel) ⟨Nat.le_trans (Nat.le_of_ble_eq_true rfl) hRf, Nat.le_trans (Nat.le_of_ble_eq_true rfl) hRl⟩), hg _ q_445, hg _ q_446⟩ (mp_preV (C := R_O) (T := F_O) hI hK h_oo rfl [.ref bo]) rfl rfl hl.1 rfl (lv_room (Nat.le_of_ble_eq_true rfl)) d_O_becomePower_35 ⟨by omega, by omega⟩) (fun S5 H6 locs p_7 hI => ?_)
    obtain ⟨n9, c10, q_oo, q_oa, oln9, hen9, hltn9, hQn9, fq⟩ := p_7
    have h_bo : S5 bo = some (TB, .inr (1, [.ref ba, .int (nI dm)])) := fq bo _ _ h_bo (by omega) (by omega)
    have h_ba : S5 ba = some ((TB + 1), .inl ((g 0), 33, .inl (fun j => nI (bf j).val))) := fq ba _ _ h_ba (by omega) (by omega)
    have hfr : ∀ b t e9, B b = some (t, e9) → (t ≠ TO) → (t ≠ TO + 1) → S5 b = some (t, e9) := fun b t e9 h9 k0 k1 => by have h8 := hfr b t e9 h9 k0 k1; exact fq b _ _ h8 (by omega) (by omega)
    have h_oo := q_oo
    have h_oa := q_oa
    have hst2 := bpS_sq hst hd1 hs1 hs2 hs3 oln9 hen9 hltn9 hQn9
    refine lv_iload_n hx hb d_O_becomePower_38 rfl (lv_at hl 2 rfl) ?_
    refine lv_iload hx hb d_O_becomePower_39 (lv_at hl 0 rfl) ?_
    refine lv_ishr hx hb d_O_becomePower_41 ?_
    refine lv_iconst (v := nI 1) hx hb d_O_becomePower_42 (by decide) ?_
    refine lv_iand hx hb d_O_becomePower_43 ?_
    refine lv_topi (fun v11 ev11 => ?_)
    obtain rfl : v11 = nI (E9 / 2 ^ k % 2) := ev11.trans (hE k (by omega))
    refine lv_iconst (v := nI 1) hx hb d_O_becomePower_44 (by decide) ?_
    have hdv : E9 / 2 ^ k = 2 * (E9 / 2 ^ (k + 1)) + E9 / 2 ^ k % 2 := by rw [Nat.pow_succ, ← Nat.div_div_eq_div_mul]; omega
    refine lv_icmp_ne (tgt := 58) hx hb d_O_becomePower_45 (by decide) (fun c1 => ?_) (fun c1 => ?_)
    · rw [nI_eq (by omega) (by omega)] at c1
      refine lv_iinc (v := (nI k + (-1))) (lv' := [(4, .int (nI k + (-1))), (3, .ref bo), (2, .int (nI E9)), (1, .int (nI (s9).val)), (0, .ref oo)]) hx hb d_O_becomePower_58 hl (k := 0) rfl (rfl) (by decide) rfl (fun ls hl => ?_)
      refine lv_goto (tgt := 24) hx hb d_O_becomePower_61 (by decide) ?_
      exact ih n9 c10 S5 H6 locs ls (by omega) (by rw [hdv, show E9 / 2 ^ k % 2 = 0 by omega]; exact hst2) h_oo h_oa h_bo h_ba hfr hI (lv_sub hl [0, 1, 2, 3, 4] rfl) kx
    · rw [nI_eq (by omega) (by omega)] at c1
      refine lv_aload_n hx hb d_O_becomePower_48 rfl (lv_at hl 4 rfl) ?_
      refine lv_iload_n hx hb d_O_becomePower_49 rfl (lv_at hl 3 rfl) ?_
      have hnd2 := hst2.2.1
      refine mp_callv hI (va_runV (As := [.int (nI (s9).val)]) (rest := []) ⟨hx, hb, hml, hown, hg⟩ (c_O_mulG l D g S5 _ oo oa TO c10 n9 s9 h_oo h_oa hst2.1 (by omega)) ⟨(callB_of 1 hg (wd_goodG q_455) rfl rfl rfl (hg _ q_18) (hg _ q_452) (by decide +kernel) ⟨Nat.le_trans (Nat.le_of_ble_eq_true rfl) hRf, Nat.le_trans (Nat.le_of_ble_eq_true rfl) hRl⟩), hg _ q_454, hg _ qs_13⟩ (mp_preV (C := R_O) (T := F_O) hI hK h_oo rfl [.int (nI (s9).val)]) rfl rfl hl.1 rfl (lv_room (Nat.le_of_ble_eq_true rfl)) d_O_becomePower_50 ⟨by omega, by omega⟩) (fun S12 H13 locs p_14 hI => ?_)
      obtain ⟨n3, c3, q_oo, q_oa, ol3, hm1, hm2, hm3, fq⟩ := p_14
      have h_bo : S12 bo = some (TB, .inr (1, [.ref ba, .int (nI dm)])) := fq bo _ _ h_bo (by omega) (by omega)
      have h_ba : S12 ba = some ((TB + 1), .inl ((g 0), 33, .inl (fun j => nI (bf j).val))) := fq ba _ _ h_ba (by omega) (by omega)
      have hfr : ∀ b t e9, B b = some (t, e9) → (t ≠ TO) → (t ≠ TO + 1) → S12 b = some (t, e9) := fun b t e9 h9 k0 k1 => by have h8 := hfr b t e9 h9 k0 k1; exact fq b _ _ h8 (by omega) (by omega)
      have h_oo := q_oo
      have h_oa := q_oa
      refine lv_aload_n hx hb d_O_becomePower_53 rfl (lv_at hl 4 rfl) ?_
      refine lv_aload_n hx hb d_O_becomePower_54 rfl (lv_at hl 1 rfl) ?_
      refine mp_callv hI (va_runV (As := [.ref bo]) (rest := []) ⟨hx, hb, hml, hown, hg⟩ (c_O_rem l D g S12 _ oo oa TO c3 bo ba TB dm bf n3 h_oo h_oa h_bo h_ba hlab ol3 (by omega)) ⟨(callB_of 1 hg (wd_goodG q_447) rfl rfl rfl (hg _ q_18) (hg _ q_444) (by decide +kernel) ⟨Nat.le_trans (Nat.le_of_ble_eq_true rfl) hRf, Nat.le_trans (Nat.le_of_ble_eq_true rfl) hRl⟩), hg _ q_445, hg _ q_446⟩ (mp_preV (C := R_O) (T := F_O) hI hK h_oo rfl [.ref bo]) rfl rfl hl.1 rfl (lv_room (Nat.le_of_ble_eq_true rfl)) d_O_becomePower_55 ⟨by omega, by omega⟩) (fun S16 H17 locs p_18 hI => ?_)
      obtain ⟨n20, c21, q_oo, q_oa, oln20, hen20, hltn20, hQn20, fq⟩ := p_18
      have h_bo : S16 bo = some (TB, .inr (1, [.ref ba, .int (nI dm)])) := fq bo _ _ h_bo (by omega) (by omega)
      have h_ba : S16 ba = some ((TB + 1), .inl ((g 0), 33, .inl (fun j => nI (bf j).val))) := fq ba _ _ h_ba (by omega) (by omega)
      have hfr : ∀ b t e9, B b = some (t, e9) → (t ≠ TO) → (t ≠ TO + 1) → S16 b = some (t, e9) := fun b t e9 h9 k0 k1 => by have h8 := hfr b t e9 h9 k0 k1; exact fq b _ _ h8 (by omega) (by omega)
      have h_oo := q_oo
      have h_oa := q_oa
      have hst3 := bpS_mul hst2 hd1 hm1 hm2 hm3 oln20 hen20 hltn20 hQn20
      refine lv_iinc (v := (nI k + (-1))) (lv' := [(4, .int (nI k + (-1))), (3, .ref bo), (2, .int (nI E9)), (1, .int (nI (s9).val)), (0, .ref oo)]) hx hb d_O_becomePower_58 hl (k := 0) rfl (rfl) (by decide) rfl (fun ls hl => ?_)
      refine lv_goto (tgt := 24) hx hb d_O_becomePower_61 (by decide) ?_
      exact ih n20 c21 S16 H17 locs ls (by omega) (by rw [hdv, show E9 / 2 ^ k % 2 = 1 by omega]; exact hst3) h_oo h_oa h_bo h_ba hfr hI (lv_sub hl [0, 1, 2, 3, 4] rfl) kx
set_option maxHeartbeats 4000000 in
set_option maxRecDepth 100000 in
/-- a power of the shifted letter -/
theorem c_O_power (l : Launch) (D : mp_G) (g : Nat → ClassId) (S : mp_M) (sz : Nat) (oo oa TO : Nat) (cf : Nat → fF) (bo ba TB dm : Nat) (bf : Nat → fF) (E9 : Nat) (s9 : fF) (d0 : Int32) (h_oo : S oo = some (TO, .inr (1, [.ref oa, .int d0]))) (h_oa : S oa = some ((TO + 1), .inl ((g 0), 33, .inl (fun j => nI (cf j).val)))) (h_bo : S bo = some (TB, .inr (1, [.ref ba, .int (nI dm)]))) (h_ba : S ba = some ((TB + 1), .inl ((g 0), 33, .inl (fun j => nI (bf j).val)))) (hlab : TO + 1 < TB ∨ TB + 1 < TO) (hd1 : 1 ≤ dm) (hd2 : dm ≤ 16) (hE : ∀ k, k < 15 → ((nI E9 >>> (nI k &&& 31)) &&& nI 1) = nI (E9 / 2 ^ k % 2)) (hE2 : E9 < 2 ^ 15) (tc : trn 33 cf) : Met l y_O_becomePower w_O_becomePower ({ frames := 3, cells := 0, slots := 0, locals := 64 }) (va_Pc [.ref oo, .int (nI (s9).val), .int (nI E9), .ref bo] (mp_B0 D classes (tys g) S sz)) (va_Qv (fun (S1 : mp_M) => ∃ (n : Nat) (c1 : Nat → fF), S1 oo = some (TO, .inr (1, [.ref oa, .int (nI n + -1)])) ∧ S1 oa = some ((TO + 1), .inl ((g 0), 33, .inl (fun j => nI (c1 j).val))) ∧ bpS dm bf s9 E9 n c1 ∧ (∀ b t e9, S b = some (t, e9) → (t ≠ TO) → (t ≠ TO + 1) → S1 b = some (t, e9))) (mp_B1 D classes S sz) (mp_A S sz)) 0 0 (mp_A S sz) := by
  refine Met.ofW (cc := b_O_becomePower) (maxL := 5) (ret := none) (by decide) rfl ?_
  intro p e s m args below meth c s₁ B hml hv
  obtain ⟨rfl, hsz, hH, hK⟩ := hv
  have hx := B.exec
  have hb := B.bytes
  have hr := B.returns
  have hts := atoms_spec (ws := w_O_becomePower) B.pre
  have hg : ∀ w ∈ gw, w.before _ s = true := fun w h => hts w (List.mem_cons_of_mem _ h)
  have hown : s.vm.findClass R_O = some m.cls := findClass_of_methodNamed B.named
  have hlocks := B.notSynchronized
  subst hsz
  have hI := mp_I.start hH
  have hl := lv_entry ([.ref oo, .int (nI (s9).val), .int (nI E9), .ref bo]) (n := 5) (Nat.le_of_ble_eq_true rfl)
  rw [lg_entry_eq]
  generalize (lg_sl ([.ref oo, .int (nI (s9).val), .int (nI E9), .ref bo]) ++ List.replicate (5 - (lg_sl ([.ref oo, .int (nI (s9).val), .int (nI E9), .ref bo])).length) Slot.unset).toArray = ls at hl ⊢
  have hl : lv_has ls 5 [(0, .ref oo), (1, .int (nI (s9).val)), (2, .int (nI E9)), (3, .ref bo)] := hl
  have hfr : ∀ b t e9, S b = some (t, e9) → (t ≠ TO) → (t ≠ TO + 1) → S b = some (t, e9) := fun _ _ _ h9 _ _ => h9
  refine lv_aload_n hx hb d_O_becomePower_0 rfl (lv_at hl 0 rfl) ?_
  refine mp_get (C := R_O) (T := F_O) (N := 2) (v := .ref oa) hx hb hg i_O hown hK.va hI h_oo rfl 0 (by decide) (hg _ q_136) (fun _ h9 => h9) rfl d_O_becomePower_1 ?_
  refine lv_iconst (v := nI 0) hx hb d_O_becomePower_4 (by decide) ?_
  refine mp_callv hI (va_runS (As := [.ref oa, .int (nI 0)]) (rest := []) ⟨hx, hb, hml, hown, hg⟩ (c_A_fill l D g S _ oa (TO + 1) 33 cf h_oa (by omega)) ⟨(callB_of 2 hg (wd_goodG q_396) rfl rfl rfl (hg _ q_14) (hg _ q_437) (by decide +kernel) ⟨Nat.le_of_ble_eq_true rfl, Nat.le_of_ble_eq_true rfl⟩), hg _ q_395⟩ (mp_pre hI hK [.ref oa, .int (nI 0)]) rfl rfl hl.1 rfl (lv_room (Nat.le_of_ble_eq_true rfl)) d_O_becomePower_5 ⟨Nat.le_of_ble_eq_true rfl, Nat.le_of_ble_eq_true rfl⟩) (fun S1 H2 locs p_3 hI => ?_)
  obtain ⟨q_oa, fq⟩ := p_3
  rw [mgF_t (zR_t 33) tc] at q_oa
  have h_oo : S1 oo = some (TO, .inr (1, [.ref oa, .int d0])) := fq oo _ _ h_oo (by omega)
  have h_bo : S1 bo = some (TB, .inr (1, [.ref ba, .int (nI dm)])) := fq bo _ _ h_bo (by omega)
  have h_ba : S1 ba = some ((TB + 1), .inl ((g 0), 33, .inl (fun j => nI (bf j).val))) := fq ba _ _ h_ba (by omega)
  have hfr : ∀ b t e9, S b = some (t, e9) → (t ≠ TO) → (t ≠ TO + 1) → S1 b = some (t, e9) := fun b t e9 h9 k0 k1 => by have h8 := hfr b t e9 h9 k0 k1; exact fq b _ _ h8 (by omega)
  have h_oa := q_oa
  refine lv_aload_n hx hb d_O_becomePower_8 rfl (lv_at hl 0 rfl) ?_
  refine mp_get (C := R_O) (T := F_O) (N := 2) (v := .ref oa) hx hb hg i_O hown hK.va hI h_oo rfl 0 (by decide) (hg _ q_136) (fun _ h9 => h9) rfl d_O_becomePower_9 ?_
  refine lv_iconst (v := nI 0) hx hb d_O_becomePower_12 (by decide) ?_
  refine lv_iconst (v := nI 1) hx hb d_O_becomePower_13 (by decide) ?_
  refine mp_iast hx hb hK.va hI 0 h_oa rfl (vp_in_nI (show 0 < 33 by omega) (by omega)) d_O_becomePower_14 (fun S5 H6 locs e_7 hI => ?_)
  have h_oa_o := h_oa
  have e_7 : S5 = va_up S1 oa (some ((TO + 1), .inl ((g 0), 33, .inl (upd (fun j => nI (zR j).val) (nI 0).toNatClampNeg (nI 1))))) := e_7
  have h_oo : S5 oo = some (TO, .inr (1, [.ref oa, .int d0])) := by rw [e_7]; exact mp_keep h_oo h_oa (by omega)
  have h_bo : S5 bo = some (TB, .inr (1, [.ref ba, .int (nI dm)])) := by rw [e_7]; exact mp_keep h_bo h_oa (by omega)
  have h_ba : S5 ba = some ((TB + 1), .inl ((g 0), 33, .inl (fun j => nI (bf j).val))) := by rw [e_7]; exact mp_keep h_ba h_oa (by omega)
  have h_oa : S5 oa = some ((TO + 1), .inl ((g 0), 33, .inl (upd (fun j => nI (zR j).val) (nI 0).toNatClampNeg (nI 1)))) := by rw [e_7]; exact mp_us _ _ _
  have hfr : ∀ b t e9, S b = some (t, e9) → (t ≠ TO) → (t ≠ TO + 1) → S5 b = some (t, e9) := fun b t e9 h9 k0 k1 => by rw [e_7]; exact mp_keep (hfr b t e9 h9 k0 k1) h_oa_o (by omega)
  have h_oa := h_oa
  rw [nI_clamp (by omega), nIv_up1] at h_oa
  have e9h_oa : (fun j => nI (va_up zR 0 1 j).val) = (fun j => nI ((eK 0) j).val) := by rw [sO_y (s := 1) (by decide)]; rfl
  rw [e9h_oa] at h_oa
  refine lv_aload_n hx hb d_O_becomePower_15 rfl (lv_at hl 0 rfl) ?_
  refine lv_iconst (v := nI 0) hx hb d_O_becomePower_16 (by decide) ?_
  refine mp_put (C := R_O) (T := F_O) (N := 2) (v := .int (nI 0)) (ty := .int) hx hb hg i_O t_O t_O_ok n_O hown hK.va hI h_oo rfl 1 (by decide) (hg _ q_138) (fun _ h9 => h9) rfl (by decide +kernel) (rfl) rfl (Nat.le_of_ble_eq_true rfl) d_O_becomePower_17 (fun S8 H9 locs e_10 hI => ?_)
  have h_oo_o := h_oo
  have e_10 : S8 = va_up S5 oo (some (TO, .inr (1, [.ref oa, .int (nI 0)]))) := e_10
  have h_oa : S8 oa = some ((TO + 1), .inl ((g 0), 33, .inl (fun j => nI ((eK 0) j).val))) := by rw [e_10]; exact mp_keep h_oa h_oo (by omega)
  have h_bo : S8 bo = some (TB, .inr (1, [.ref ba, .int (nI dm)])) := by rw [e_10]; exact mp_keep h_bo h_oo (by omega)
  have h_ba : S8 ba = some ((TB + 1), .inl ((g 0), 33, .inl (fun j => nI (bf j).val))) := by rw [e_10]; exact mp_keep h_ba h_oo (by omega)
  have h_oo : S8 oo = some (TO, .inr (1, [.ref oa, .int (nI 0)])) := by rw [e_10]; exact mp_us _ _ _
  have hfr : ∀ b t e9, S b = some (t, e9) → (t ≠ TO) → (t ≠ TO + 1) → S8 b = some (t, e9) := fun b t e9 h9 k0 k1 => by rw [e_10]; exact mp_keep (hfr b t e9 h9 k0 k1) h_oo_o (by omega)
  refine lv_bipush (v := nI 14) hx hb d_O_becomePower_20 (by decide) ?_
  have h_oo : S8 oo = some (TO, .inr (1, [.ref oa, .int (nI 1 + -1)])) := h_oo
  refine lv_topi (fun v11 ev11 => ?_)
  obtain rfl : v11 = (nI 15 + -1) := ev11.trans (by decide)
  refine lv_istore (lv' := [(4, .int (nI 15 + -1)), (0, .ref oo), (1, .int (nI (s9).val)), (2, .int (nI E9)), (3, .ref bo)]) hx hb d_O_becomePower_22 hl (by decide) rfl (fun ls hl => ?_)
  refine lp_O_power (B := S) (oo := oo) (oa := oa) (TO := TO) (E9 := E9) (s9 := s9) (bo := bo) (ba := ba) (TB := TB) (dm := dm) (bf := bf) hx hb hml hg hown hK (Nat.le_of_ble_eq_true rfl) (Nat.le_of_ble_eq_true rfl) (Nat.le_of_ble_eq_true rfl) (Nat.le_of_ble_eq_true rfl) hlab hd1 hd2 hE hE2 15 1 (eK 0) S8 H9 _ ls (Nat.le_refl _) (by rw [Nat.div_eq_of_lt hE2]; exact bpS_0 hd1) h_oo h_oa h_bo h_ba hfr hI (lv_sub hl [0, 4, 3, 2, 1] rfl) (fun n c1 S12 H13 locs ls hst j_oo j_oa j_bo j_ba hfr hI hl => ?_)
  rw [Nat.pow_zero, Nat.div_one] at hst
  refine mp_vret hx hb hr hlocks hI (Nat.le_of_ble_eq_true rfl) (Nat.le_of_ble_eq_true rfl) ?_ d_O_becomePower_64
  exact ⟨n, c1, j_oo, j_oa, hst, hfr⟩
