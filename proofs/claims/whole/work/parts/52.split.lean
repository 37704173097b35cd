/-- one letter's polynomials as they are held by the finder -/
def fOK (d : Nat) (c : Nat → fF) : Prop := 1 ≤ d ∧ d ≤ 16 ∧ olP (d + 1) c ∧ c d = 1
def phF (c : Nat → fF) : fF → fF := fun a => pe 33 c a
/-- all roots on one side of a shift -/
def sdN (s : fF) (f : fF → fF) : Prop := ∀ a b, f a = 0 → f b = 0 → ((a + s) ^ 16001 = 1 ↔ (b + s) ^ 16001 = 1)
theorem sd_one {s : fF} {f : fF → fF} (h : PM 1 f) : sdN s f := by
  intro a b ha hb
  by_cases e : a = b
  · rw [e]
  · have := PM_le h (N := 2) (ρ := fun i => if i = 0 then a else b) (fun i _ => by by_cases q : i = 0; simp only [if_pos q]; exact ha; simp only [if_neg q]; exact hb) (fun i j hi hj q => by
      by_cases q1 : i = 0
      · by_cases q2 : j = 0
        · omega
        · simp only [if_pos q1, if_neg q2] at q; exact absurd q e
      · by_cases q2 : j = 0
        · simp only [if_neg q1, if_pos q2] at q; exact absurd q.symm e
        · omega)
    omega
theorem ok_PM {d : Nat} {c : Nat → fF} (h : fOK d c) : PM d (phF c) := PM_cg (fun a => (mon_pe h.2.2.1.2.1 h.2.2.1.1 h.2.2.2 a).symm) (mf_PM d c)
theorem ok_mf {d : Nat} {c : Nat → fF} (h : fOK d c) (a : fF) : mfN d c a = phF c a := (mon_pe h.2.2.1.2.1 h.2.2.1.1 h.2.2.2 a).symm
theorem pe_up0 (c : Nat → fF) (a : fF) : pe 33 (va_up c 0 (c 0 + -1)) a = pe 33 c a - 1 := by
  have h1 : pe 33 (va_up c 0 (c 0 + -1)) a = va_up c 0 (c 0 + -1) 0 + a * pe 32 (fun k => va_up c 0 (c 0 + -1) (k + 1)) a := pe_0 32 _ a
  have h2 : pe 33 c a = c 0 + a * pe 32 (fun k => c (k + 1)) a := pe_0 32 _ a
  rw [h1, h2, mp_us, show (fun k => va_up c 0 (c 0 + -1) (k + 1)) = fun k => c (k + 1) by funext k; rw [mp_un (Nat.succ_ne_zero k)]]; grind
theorem pe_up1 (c : Nat → fF) (a : fF) : pe 33 (va_up c 1 (c 1 + -1)) a = pe 33 c a - a := by
  have h1 : pe 33 (va_up c 1 (c 1 + -1)) a = va_up c 1 (c 1 + -1) 0 + a * (va_up c 1 (c 1 + -1) 1 + a * pe 31 (fun k => va_up c 1 (c 1 + -1) (k + 1 + 1)) a) := by
    rw [show (33 : Nat) = 32 + 1 from rfl, pe_0, show (32 : Nat) = 31 + 1 from rfl, pe_0]
  have h2 : pe 33 c a = c 0 + a * (c 1 + a * pe 31 (fun k => c (k + 1 + 1)) a) := by
    rw [show (33 : Nat) = 32 + 1 from rfl, pe_0, show (32 : Nat) = 31 + 1 from rfl, pe_0]
  rw [h1, h2, mp_us, mp_un (show 0 ≠ 1 by decide), show (fun k => va_up c 1 (c 1 + -1) (k + 1 + 1)) = fun k => c (k + 1 + 1) by funext k; rw [mp_un (by omega)]]; grind
/-- the shift tells which roots the common part has -/
theorem sp_side {d e n : Nat} {b c1 ce : Nat → fF} {s : fF} (hb : fOK d b) (hp : bpS d b s 16001 n c1) (hg : gcP d (phF b) (fun a => pe 33 (va_up c1 0 (c1 0 + -1)) a) e ce) : ∀ a, phF b a = 0 → (pe 33 ce a = 0 ↔ (a + s) ^ 16001 = 1) := by
  obtain ⟨_, _, w, w1, _, _⟩ := hp
  obtain ⟨g1, g2, g3, g4, A, C, g5, g6, g7, g8⟩ := hg
  intro a ha
  have h1 := w1 a
  rw [ok_mf hb, ha] at h1
  constructor
  · intro h
    have h2 : pe 33 (va_up c1 0 (c1 0 + -1)) a = C a * pe 33 ce a := g8 a
    rw [h, pe_up0] at h2
    generalize (a + s) ^ 16001 = y at *
    grind
  · intro h
    refine g4 a ha ?_
    show pe 33 (va_up c1 0 (c1 0 + -1)) a = 0
    rw [pe_up0]
    generalize (a + s) ^ 16001 = y at *
    grind
theorem sp_no {d e n : Nat} {b c1 ce : Nat → fF} {s : fF} (hb : fOK d b) (hp : bpS d b s 16001 n c1) (hg : gcP d (phF b) (fun a => pe 33 (va_up c1 0 (c1 0 + -1)) a) e ce) (h : e = 0 ∨ e = d) : sdN s (phF b) := by
  have hs := sp_side hb hp hg
  obtain ⟨g1, g2, g3, g4, A, C, g5, g6, g7, g8⟩ := hg
  intro x y hx hy
  rw [← hs x hx, ← hs y hy]
  rcases h with h | h
  · subst h
    have h1 : ∀ a, pe 33 ce a = 1 := fun a => by rw [mon_pe g1.2.1 g1.1 g2]; unfold pe; rw [sm_0]; grind
    rw [h1, h1]
  · subst h
    rw [Nat.sub_self] at g5
    obtain ⟨q, hq⟩ := g5
    have hA : ∀ a, A a = 1 := fun a => by rw [hq]; unfold pe; rw [sm_0]; grind
    have h1 : ∀ a, phF b a = pe 33 ce a := fun a => by rw [g7, hA]; grind
    rw [← h1, ← h1, hx, hy]
theorem qt_pe {e d : Nat} {D : Nat → fF} (he : e ≤ d) (hd : d < 33) (hz : ∀ k, d < k → D k = 0) (a : fF) : pe 33 (qtI e d D (d + 1)) a = pe (d + 1 - e) (fun k => D (e + k)) a := by
  rw [pe_ol (n := d + 1 - e) (fun k hk => by
    unfold qtI
    by_cases q : k < d + 1
    · rw [if_pos q, if_neg (by omega)]
    · rw [if_neg q]; exact hz k (by omega)) (by omega)]
  exact pe_cg a (fun k hk => by unfold qtI; rw [if_pos (by omega), if_pos (by omega), Nat.add_comm])
theorem sp_yes {d e n : Nat} {b c1 ce : Nat → fF} {s : fF} (hb : fOK d b) (hS : SPl d (phF b)) (hp : bpS d b s 16001 n c1) (hg : gcP d (phF b) (fun a => pe 33 (va_up c1 0 (c1 0 + -1)) a) e ce) (h0 : 0 < e) (h1 : e < d) :
    fOK e ce ∧ fOK (d - e) (qtI e d (dvA e ce (d + 1 - e) b) (d + 1)) ∧ SPl e (phF ce) ∧ SPl (d - e) (phF (qtI e d (dvA e ce (d + 1 - e) b) (d + 1))) ∧ (∀ a, phF b a = phF (qtI e d (dvA e ce (d + 1 - e) b) (d + 1)) a * phF ce a) ∧
    (∀ a, phF (qtI e d (dvA e ce (d + 1 - e) b) (d + 1)) a = 0 → phF ce a ≠ 0) ∧ sdN s (phF ce) ∧ sdN s (phF (qtI e d (dvA e ce (d + 1 - e) b) (d + 1))) := by
  have hs := sp_side hb hp hg
  obtain ⟨g1, g2, g3, g4, A, C, g5, g6, g7, g8⟩ := hg
  obtain ⟨b1, b2, b3, b4⟩ := hb
  have hce : fOK e ce := ⟨h0, by omega, g1, g2⟩
  have hDz : ∀ k, d < k → dvA e ce (d + 1 - e) b k = 0 := fun k hk => by rw [dvA_hi _ _ _ (by omega)]; exact b3.2.1 k (by omega)
  have hqt : ∀ k, d - e + 1 ≤ k → qtI e d (dvA e ce (d + 1 - e) b) (d + 1) k = 0 := fun k hk => by
    unfold qtI
    by_cases q : k < d + 1
    · rw [if_pos q, if_neg (by omega)]
    · rw [if_neg q]; exact hDz k (by omega)
  have htop : qtI e d (dvA e ce (d + 1 - e) b) (d + 1) (d - e) = 1 := by
    unfold qtI
    rw [if_pos (by omega), if_pos (Nat.le_refl _), dvA_hi _ _ _ (by omega), show d - e + e = d by omega]; exact b4
  have hq : fOK (d - e) (qtI e d (dvA e ce (d + 1 - e) b) (d + 1)) := ⟨by omega, by omega, ⟨by omega, hqt, fun _ => by rw [Nat.add_sub_cancel, htop]; decide⟩, htop⟩
  have hR : PL e (fun a => pe 33 (cut e (dvA e ce (d + 1 - e) b)) a) := ⟨cut e (dvA e ce (d + 1 - e) b), fun a => pe_ol (fun k hk => by unfold cut; rw [if_neg (by omega)]) (by omega) a⟩
  have hdv : ∀ a, phF b a = phF (qtI e d (dvA e ce (d + 1 - e) b) (d + 1)) a * phF ce a + pe 33 (cut e (dvA e ce (d + 1 - e) b)) a := by
    intro a
    have k1 := dv_eq (m := e) (b := ce) a (d + 1 - e) b
    rw [show d + 1 - e + e = d + 1 by omega] at k1
    have k2 : phF b a = pe (d + 1) b a := pe_ol b3.2.1 b3.1 a
    have k3 : phF ce a = pe e ce a + a ^ e := mon_pe g1.2.1 g1.1 g2 a
    have k4 : pe 33 (cut e (dvA e ce (d + 1 - e) b)) a = pe e (dvA e ce (d + 1 - e) b) a := by
      rw [pe_ol (n := e) (fun k hk => by unfold cut; rw [if_neg (by omega)]) (by omega)]
      exact pe_cg a (fun k hk => by unfold cut; rw [if_pos hk])
    rw [k2, k1, k3, k4]
    show _ = pe 33 (qtI e d (dvA e ce (d + 1 - e) b) (d + 1)) a * _ + _
    rw [qt_pe (by omega) (by omega) hDz]
  obtain ⟨r1, r2, r3, r4⟩ := SPl_q hS (ok_PM hce) g5 (by omega) g7 (ok_PM hq) hR hdv
  refine ⟨hce, hq, r1, r2, r3, r4, fun x y hx hy => ?_, fun x y hx hy => ?_⟩
  · have zx : phF b x = 0 := by rw [r3, hx]; grind
    have zy : phF b y = 0 := by rw [r3, hy]; grind
    rw [← hs x zx, ← hs y zy]
    exact ⟨fun _ => hy, fun _ => hx⟩
  · have zx : phF b x = 0 := by rw [r3, hx]; grind
    have zy : phF b y = 0 := by rw [r3, hy]; grind
    rw [← hs x zx, ← hs y zy]
    exact ⟨fun q => absurd q (r4 x hx), fun q => absurd q (r4 y hy)⟩
theorem pw_16001 : ∀ k, k < 15 → ((nI 16001 >>> (nI k &&& 31)) &&& nI 1) = nI (16001 / 2 ^ k % 2) := by decide +kernel
theorem pw_32003 : ∀ k, k < 15 → ((nI 32003 >>> (nI k &&& 31)) &&& nI 1) = nI (32003 / 2 ^ k % 2) := by decide +kernel
/-- the factors as they are held -/
def ZP (k : Nat) (dg : Nat → Int32) (dN : Nat → Nat) (CF : Nat → Nat → fF) (g : fF → fF) : Prop := (∀ i, i < k → dg i = nI (dN i) ∧ fOK (dN i) (CF i)) ∧ (∀ i, trn 33 (CF i)) ∧ FS k (fun i => phF (CF i)) dN g
/-- what a shift does to them -/
def spR (s : fF) (f k : Nat) (CF : Nat → Nat → fF) (k1 : Nat) (CF1 : Nat → Nat → fF) : Prop := k ≤ k1 ∧ k1 ≤ k + 1 ∧ sdN s (phF (CF1 f)) ∧ (∀ i, k ≤ i → i < k1 → sdN s (phF (CF1 i))) ∧ (∀ i, i < k → i ≠ f → CF1 i = CF i) ∧ ∀ i, i < k1 → ∃ j, j < k ∧ ∀ a, phF (CF1 i) a = 0 → phF (CF j) a = 0
theorem spR_no {s : fF} {f k : Nat} {CF : Nat → Nat → fF} (h : sdN s (phF (CF f))) : spR s f k CF k CF := ⟨Nat.le_refl _, Nat.le_succ _, h, fun i h1 h2 => absurd h1 (by omega), fun _ _ _ => rfl, fun i hi => ⟨i, hi, fun _ q => q⟩⟩
theorem oS_up {g : Nat → ClassId} {T0 n : Nat} {eo ea : Nat → Nat} {dg : Nat → Int32} {CF : Nat → Nat → fF} {S S1 : mp_M} {i : Nat} {d1 : Int32} {x : Nat → fF} (h : oS g T0 n eo ea dg (fun i j => nI (CF i j).val) S) (h1 : S1 (eo i) = some (T0 + 2 * i, .inr (1, [.ref (ea i), .int d1]))) (h2 : S1 (ea i) = some (T0 + 2 * i + 1, .inl (g 0, 33, .inl (fun j => nI (x j).val))))
    (fr : ∀ b t e9, S b = some (t, e9) → t ≠ T0 + 2 * i → t ≠ T0 + 2 * i + 1 → T0 ≤ t → t < T0 + 2 * n → S1 b = some (t, e9)) : oS g T0 n eo ea (va_up dg i d1) (fun a j => nI (va_up CF i x a j).val) S1 := by
  intro j hj
  obtain ⟨y1, y2⟩ := h j hj
  by_cases e : j = i
  · subst e
    have : (fun q => nI (va_up CF j x j q).val) = fun q => nI (x q).val := by funext q; rw [mp_us]
    rw [mp_us]
    refine ⟨h1, ?_⟩
    show S1 (ea j) = some (T0 + 2 * j + 1, .inl (g 0, 33, .inl (fun q => nI (va_up CF j x j q).val)))
    rw [this]; exact h2
  · have : (fun q => nI (va_up CF i x j q).val) = fun q => nI (CF j q).val := by funext q; rw [mp_un e]
    rw [mp_un e]
    refine ⟨fr _ _ _ y1 (by omega) (by omega) (by omega) (by omega), ?_⟩
    show S1 (ea j) = some (T0 + 2 * j + 1, .inl (g 0, 33, .inl (fun q => nI (va_up CF i x j q).val)))
    rw [this]; exact fr _ _ _ y2 (by omega) (by omega) (by omega) (by omega)
theorem ZP_yes {k f d e n : Nat} {dg : Nat → Int32} {dN : Nat → Nat} {CF : Nat → Nat → fF} {g : fF → fF} {c1 ce : Nat → fF} {s : fF} (H : ZP k dg dN CF g) (hf : f < k) (hd : d = dN f) (hp : bpS d (CF f) s 16001 n c1) (hg : gcP d (phF (CF f)) (fun a => pe 33 (va_up c1 0 (c1 0 + -1)) a) e ce) (h0 : 0 < e) (h1 : e < d) :
    ZP (k + 1) (va_up (va_up dg k (nI e)) f (nI (d - e))) (va_up (va_up dN k e) f (d - e)) (va_up (va_up CF k ce) f (qtI e d (dvA e ce (d + 1 - e) (CF f)) (d + 1))) g ∧
    spR s f k CF (k + 1) (va_up (va_up CF k ce) f (qtI e d (dvA e ce (d + 1 - e) (CF f)) (d + 1))) := by
  obtain ⟨z1, z2, z3⟩ := H
  have hok := (z1 f hf).2
  rw [← hd] at hok
  have hS : SPl d (phF (CF f)) := by rw [hd]; exact (z3.1 f hf).2
  obtain ⟨m1, m2, m3, m4, m5, m6, m7, m8⟩ := sp_yes hok hS hp hg h0 h1
  have hF := FS_up z3 hf (show 1 ≤ e from h0) (by rw [← hd]; exact h1) m3 (by rw [← hd]; exact m4) m5 m6
  have e1 : (fun i => phF (va_up (va_up CF k ce) f (qtI e d (dvA e ce (d + 1 - e) (CF f)) (d + 1)) i)) = fun i => if i = k then phF ce else if i = f then phF (qtI e d (dvA e ce (d + 1 - e) (CF f)) (d + 1)) else phF (CF i) := by
    funext i
    by_cases q1 : i = f
    · rw [q1, mp_us, if_neg (by omega), if_pos rfl]
    · rw [mp_un q1]
      by_cases q2 : i = k
      · rw [q2, mp_us, if_pos rfl]
      · rw [mp_un q2, if_neg q2, if_neg q1]
  have e2 : va_up (va_up dN k e) f (d - e) = fun i => if i = k then e else if i = f then dN f - e else dN i := by
    funext i
    by_cases q1 : i = f
    · rw [q1, mp_us, if_neg (by omega), if_pos rfl, hd]
    · rw [mp_un q1]
      by_cases q2 : i = k
      · rw [q2, mp_us, if_pos rfl]
      · rw [mp_un q2, if_neg q2, if_neg q1]
  have e3 : ∀ i, i ≠ f → i ≠ k → va_up (va_up CF k ce) f (qtI e d (dvA e ce (d + 1 - e) (CF f)) (d + 1)) i = CF i := fun i q1 q2 => by rw [mp_un q1, mp_un q2]
  refine ⟨⟨fun i hi => ?_, fun i => ?_, ?_⟩, Nat.le_succ _, Nat.le_refl _, ?_, fun i i1 i2 => ?_, fun i i1 i2 => e3 i i2 (by omega), fun i hi => ?_⟩
  · by_cases q1 : i = f
    · rw [q1, mp_us, mp_us, mp_us]; exact ⟨rfl, m2⟩
    · rw [mp_un q1, mp_un q1, mp_un q1]
      by_cases q2 : i = k
      · rw [q2, mp_us, mp_us, mp_us]; exact ⟨rfl, m1⟩
      · rw [mp_un q2, mp_un q2, mp_un q2]; exact z1 i (by omega)
  · by_cases q1 : i = f
    · rw [q1, mp_us]; exact ol_t m2.2.2.1
    · rw [mp_un q1]
      by_cases q2 : i = k
      · rw [q2, mp_us]; exact ol_t m1.2.2.1
      · rw [mp_un q2]; exact z2 i
  · rw [e1, e2]; exact hF
  · rw [mp_us]; exact m8
  · obtain rfl : i = k := by omega
    rw [mp_un (by omega), mp_us]; exact m7
  · by_cases q1 : i = f
    · refine ⟨f, hf, fun a q => ?_⟩
      rw [q1, mp_us] at q
      rw [m5, q]; grind
    · by_cases q2 : i = k
      · refine ⟨f, hf, fun a q => ?_⟩
        rw [mp_un q1, q2, mp_us] at q
        rw [m5, q]; grind
      · rw [e3 i q1 q2]; exact ⟨i, by omega, fun _ q => q⟩

theorem d_Z_split_0 : decode b_Z_split 0 = .ok (.aload_n 0, 1) := by decide +kernel
theorem d_Z_split_1 : decode b_Z_split 1 = .ok (.getfield 11, 3) := by decide +kernel
theorem d_Z_split_4 : decode b_Z_split 4 = .ok (.iload_n 1, 1) := by decide +kernel
theorem d_Z_split_5 : decode b_Z_split 5 = .ok (.aaload, 1) := by decide +kernel
theorem d_Z_split_6 : decode b_Z_split 6 = .ok (.astore_n 3, 1) := by decide +kernel
theorem d_Z_split_7 : decode b_Z_split 7 = .ok (.aload_n 3, 1) := by decide +kernel
theorem d_Z_split_8 : decode b_Z_split 8 = .ok (.getfield 25, 3) := by decide +kernel
theorem d_Z_split_11 : decode b_Z_split 11 = .ok (.iconst 2, 1) := by decide +kernel
theorem d_Z_split_12 : decode b_Z_split 12 = .ok (.if_icmp .lt 12, 3) := by decide +kernel
theorem d_Z_split_15 : decode b_Z_split 15 = .ok (.aload_n 0, 1) := by decide +kernel
theorem d_Z_split_16 : decode b_Z_split 16 = .ok (.getfield 45, 3) := by decide +kernel
theorem d_Z_split_19 : decode b_Z_split 19 = .ok (.bipush 16, 2) := by decide +kernel
theorem d_Z_split_21 : decode b_Z_split 21 = .ok (.if_icmp .lt 4, 3) := by decide +kernel
theorem d_Z_split_24 : decode b_Z_split 24 = .ok (.return_, 1) := by decide +kernel
theorem d_Z_split_25 : decode b_Z_split 25 = .ok (.aload_n 0, 1) := by decide +kernel
theorem d_Z_split_26 : decode b_Z_split 26 = .ok (.getfield 18, 3) := by decide +kernel
theorem d_Z_split_29 : decode b_Z_split 29 = .ok (.iload_n 2, 1) := by decide +kernel
theorem d_Z_split_30 : decode b_Z_split 30 = .ok (.sipush 16001, 3) := by decide +kernel
theorem d_Z_split_33 : decode b_Z_split 33 = .ok (.aload_n 3, 1) := by decide +kernel
theorem d_Z_split_34 : decode b_Z_split 34 = .ok (.invokevirtual 29, 3) := by decide +kernel
theorem d_Z_split_37 : decode b_Z_split 37 = .ok (.aload_n 0, 1) := by decide +kernel
theorem d_Z_split_38 : decode b_Z_split 38 = .ok (.getfield 18, 3) := by decide +kernel
theorem d_Z_split_41 : decode b_Z_split 41 = .ok (.iconst 0, 1) := by decide +kernel
theorem d_Z_split_42 : decode b_Z_split 42 = .ok (.sipush 32002, 3) := by decide +kernel
theorem d_Z_split_45 : decode b_Z_split 45 = .ok (.invokevirtual 33, 3) := by decide +kernel
theorem d_Z_split_48 : decode b_Z_split 48 = .ok (.aload_n 0, 1) := by decide +kernel
theorem d_Z_split_49 : decode b_Z_split 49 = .ok (.getfield 22, 3) := by decide +kernel
theorem d_Z_split_52 : decode b_Z_split 52 = .ok (.aload_n 3, 1) := by decide +kernel
theorem d_Z_split_53 : decode b_Z_split 53 = .ok (.invokevirtual 37, 3) := by decide +kernel
theorem d_Z_split_56 : decode b_Z_split 56 = .ok (.aload_n 0, 1) := by decide +kernel
theorem d_Z_split_57 : decode b_Z_split 57 = .ok (.getfield 22, 3) := by decide +kernel
theorem d_Z_split_60 : decode b_Z_split 60 = .ok (.aload_n 0, 1) := by decide +kernel
theorem d_Z_split_61 : decode b_Z_split 61 = .ok (.getfield 18, 3) := by decide +kernel
theorem d_Z_split_64 : decode b_Z_split 64 = .ok (.invokestatic 41, 3) := by decide +kernel
theorem d_Z_split_67 : decode b_Z_split 67 = .ok (.astore 4, 2) := by decide +kernel
theorem d_Z_split_69 : decode b_Z_split 69 = .ok (.aload 4, 2) := by decide +kernel
theorem d_Z_split_71 : decode b_Z_split 71 = .ok (.getfield 25, 3) := by decide +kernel
theorem d_Z_split_74 : decode b_Z_split 74 = .ok (.ifCond .le 45, 3) := by decide +kernel
theorem d_Z_split_77 : decode b_Z_split 77 = .ok (.aload 4, 2) := by decide +kernel
theorem d_Z_split_79 : decode b_Z_split 79 = .ok (.getfield 25, 3) := by decide +kernel
theorem d_Z_split_82 : decode b_Z_split 82 = .ok (.aload_n 3, 1) := by decide +kernel
theorem d_Z_split_83 : decode b_Z_split 83 = .ok (.getfield 25, 3) := by decide +kernel
theorem d_Z_split_86 : decode b_Z_split 86 = .ok (.if_icmp .ge 33, 3) := by decide +kernel
theorem d_Z_split_89 : decode b_Z_split 89 = .ok (.aload_n 0, 1) := by decide +kernel
theorem d_Z_split_90 : decode b_Z_split 90 = .ok (.getfield 11, 3) := by decide +kernel
theorem d_Z_split_93 : decode b_Z_split 93 = .ok (.aload_n 0, 1) := by decide +kernel
theorem d_Z_split_94 : decode b_Z_split 94 = .ok (.getfield 45, 3) := by decide +kernel
theorem d_Z_split_97 : decode b_Z_split 97 = .ok (.aaload, 1) := by decide +kernel
theorem d_Z_split_98 : decode b_Z_split 98 = .ok (.aload 4, 2) := by decide +kernel
theorem d_Z_split_100 : decode b_Z_split 100 = .ok (.invokevirtual 37, 3) := by decide +kernel
theorem d_Z_split_103 : decode b_Z_split 103 = .ok (.aload_n 0, 1) := by decide +kernel
theorem d_Z_split_104 : decode b_Z_split 104 = .ok (.dup, 1) := by decide +kernel
theorem d_Z_split_105 : decode b_Z_split 105 = .ok (.getfield 45, 3) := by decide +kernel
theorem d_Z_split_108 : decode b_Z_split 108 = .ok (.iconst 1, 1) := by decide +kernel
theorem d_Z_split_109 : decode b_Z_split 109 = .ok (.iadd, 1) := by decide +kernel
theorem d_Z_split_110 : decode b_Z_split 110 = .ok (.putfield 45, 3) := by decide +kernel
theorem d_Z_split_113 : decode b_Z_split 113 = .ok (.aload_n 3, 1) := by decide +kernel
theorem d_Z_split_114 : decode b_Z_split 114 = .ok (.aload 4, 2) := by decide +kernel
theorem d_Z_split_116 : decode b_Z_split 116 = .ok (.invokevirtual 55, 3) := by decide +kernel
theorem d_Z_split_119 : decode b_Z_split 119 = .ok (.return_, 1) := by decide +kernel
set_option maxHeartbeats 4000000 in
set_option maxRecDepth 100000 in
/-- a factor is parted -/
theorem c_Z_split (l : Launch) (D : mp_G) (g : Nat → ClassId) (S : mp_M) (sz : Nat) (zo fs on na ot ta k9 f9 : Nat) (fe fz : Nat → Nat) (dg : Nat → Int32) (dN : Nat → Nat) (CF : Nat → Nat → fF) (dn dt : Int32) (cn ct : Nat → fF) (s9 : fF) (g9 : fF → fF) (h_zo : S zo = some (30, .inr (6, [.ref fs, .int (nI k9), .ref on, .ref ot]))) (h_fs : S fs = some (31, .inl ((g 3), 16, .inr (.inr (.inr (.inr (rfs fe 16))))))) (h_on : S on = some (560, .inr (1, [.ref na, .int dn]))) (h_ona : S na = some ((560 + 1), .inl ((g 0), 33, .inl (fun j => nI (cn j).val)))) (h_ot : S ot = some (562, .inr (1, [.ref ta, .int dt]))) (h_ota : S ta = some ((562 + 1), .inl ((g 0), 33, .inl (fun j => nI (ct j).val)))) (hE : oS g 520 16 fe fz dg (fun ii j => nI (CF ii j).val) S) (hZ : ZP k9 dg dN CF g9) (hf : f9 < k9) (hk : k9 ≤ 16) (hk2 : 2 ≤ dN f9 → k9 < 16) (tcn : trn 33 cn) (tct : trn 33 ct) : Met l y_Z_split w_Z_split ({ frames := 4, cells := 0, slots := 0, locals := 89 }) (va_Pc [.ref zo, .int (nI f9), .int (nI (s9).val)] (mp_B0 D classes (tys g) S sz)) (va_Qv (fun (S1 : mp_M) => ∃ (k1 : Nat) (dg1 : Nat → Int32) (dN1 : Nat → Nat) (CF1 : Nat → Nat → fF) (dn1 dt1 : Int32) (cn1 ct1 : Nat → fF), ZP k1 dg1 dN1 CF1 g9 ∧ spR s9 f9 k9 CF k1 CF1 ∧ trn 33 cn1 ∧ trn 33 ct1 ∧ S1 zo = some (30, .inr (6, [.ref fs, .int (nI k1), .ref on, .ref ot])) ∧ S1 on = some (560, .inr (1, [.ref na, .int dn1])) ∧ S1 na = some ((560 + 1), .inl ((g 0), 33, .inl (fun j => nI (cn1 j).val))) ∧ S1 ot = some (562, .inr (1, [.ref ta, .int dt1])) ∧ S1 ta = some ((562 + 1), .inl ((g 0), 33, .inl (fun j => nI (ct1 j).val))) ∧ (oS g 520 16 fe fz dg1 (fun ii j => nI (CF1 ii j).val) S1) ∧ (∀ b t e9, S b = some (t, e9) → (t ≠ 30) → (t < 520 ∨ 564 ≤ t) → S1 b = some (t, e9))) (mp_B1 D classes S sz) (mp_A S sz)) 0 0 (mp_A S sz) := by
  refine Met.ofW (cc := b_Z_split) (maxL := 5) (ret := none) (by decide) rfl ?_
  intro p e s m args below meth c s₁ B hml hv
  obtain ⟨rfl, hsz, hH, hK⟩ := hv
  have hx := B.exec
  have hb := B.bytes
  have hr := B.returns
  have hts := atoms_spec (ws := w_Z_split) B.pre
  have hg : ∀ w ∈ gw, w.before _ s = true := fun w h => hts w (List.mem_cons_of_mem _ h)
  have hown : s.vm.findClass R_Z = some m.cls := findClass_of_methodNamed B.named
  have hlocks := B.notSynchronized
  subst hsz
  have hI := mp_I.start hH
  have hl := lv_entry ([.ref zo, .int (nI f9), .int (nI (s9).val)]) (n := 5) (Nat.le_of_ble_eq_true rfl)
  rw [lg_entry_eq]
  generalize (lg_sl ([.ref zo, .int (nI f9), .int (nI (s9).val)]) ++ List.replicate (5 - (lg_sl ([.ref zo, .int (nI f9), .int (nI (s9).val)])).length) Slot.unset).toArray = ls at hl ⊢
  have hl : lv_has ls 5 [(0, .ref zo), (1, .int (nI f9)), (2, .int (nI (s9).val))] := hl
  have hfr : ∀ b t e9, S b = some (t, e9) → (t ≠ 30) → (t < 520 ∨ 564 ≤ t) → S b = some (t, e9) := fun _ _ _ h9 _ _ => h9
  obtain ⟨z1, z2⟩ := hZ.1 f9 hf
  have hd16 := z2.2.1
  have hd1 := z2.1
  obtain ⟨h_f, h_fa⟩ := hE f9 (by omega)
  rw [z1] at h_f
  obtain ⟨d, ed⟩ : ∃ d, d = dN f9 := ⟨_, rfl⟩
  rw [← ed] at h_f hd16 hd1 hk2 z2
  refine lv_aload_n hx hb d_Z_split_0 rfl (lv_at hl 0 rfl) ?_
  refine mp_get (C := R_Z) (T := F_Z) (N := 4) (v := .ref fs) hx hb hg i_Z hown hK.va hI h_zo rfl 0 (by decide) (hg _ q_145) (fun _ h9 => h9) rfl d_Z_split_1 ?_
  refine lv_iload_n hx hb d_Z_split_4 rfl (lv_at hl 1 rfl) ?_
  refine mp_aldq (b := fe f9) hx hb hK.va hI 3 h_fs rfl (vp_in_nI (show f9 < 16 by omega) (by omega)) (by rw [nI_clamp (by omega)]; exact rfs_at (by omega)) d_Z_split_5 ?_
  refine lv_astore_n (lv' := [(3, .ref (fe f9)), (0, .ref zo), (1, .int (nI f9)), (2, .int (nI (s9).val))]) hx hb d_Z_split_6 rfl hl (by decide) rfl (fun ls hl => ?_)
  refine lv_aload_n hx hb d_Z_split_7 rfl (lv_at hl 0 rfl) ?_
  refine mp_getN (C := R_O) (T := F_O) (N := 2) (v := .int (nI d)) hx hb hg i_O hown hK.va hI h_f rfl 1 (by decide) (hK.use q_139 rfl) (fun _ h9 => h9) rfl d_Z_split_8 ?_
  refine lv_iconst (v := nI 2) hx hb d_Z_split_11 (by decide) ?_
  refine lv_icmp_lt (tgt := 24) hx hb d_Z_split_12 (by decide) (fun c1 => ?_) (fun c1 => ?_)
  · rw [nI_ltI (by omega) (by omega)] at c1
    have hEx : oS g 520 16 fe fz dg (fun ii j => nI (CF ii j).val) S := hE
    refine mp_vret hx hb hr hlocks hI (Nat.le_of_ble_eq_true rfl) (Nat.le_of_ble_eq_true rfl) ?_ d_Z_split_24
    exact ⟨k9, dg, dN, CF, dn, dt, cn, ct, hZ, spR_no (sd_one (by have := ok_PM z2; rw [show d = 1 by omega] at this; exact this)), tcn, tct, h_zo, h_on, h_ona, h_ot, h_ota, hE, hfr⟩
  · rw [nI_ltI (by omega) (by omega)] at c1
    refine lv_aload_n hx hb d_Z_split_15 rfl (lv_at hl 1 rfl) ?_
    refine mp_get (C := R_Z) (T := F_Z) (N := 4) (v := .int (nI k9)) hx hb hg i_Z hown hK.va hI h_zo rfl 1 (by decide) (hg _ q_146) (fun _ h9 => h9) rfl d_Z_split_16 ?_
    refine lv_bipush (v := nI 16) hx hb d_Z_split_19 (by decide) ?_
    refine lv_icmp_lt (tgt := 25) hx hb d_Z_split_21 (by decide) (fun _ => ?_) (fun h9 => absurd ((nI_ltI (by omega) (by omega)).mpr (by omega)) h9)
    have hk16 := hk2 (by omega)
    refine lv_aload_n hx hb d_Z_split_25 rfl (lv_at hl 1 rfl) ?_
    refine mp_get (C := R_Z) (T := F_Z) (N := 4) (v := .ref on) hx hb hg i_Z hown hK.va hI h_zo rfl 2 (by decide) (hg _ q_147) (fun _ h9 => h9) rfl d_Z_split_26 ?_
    refine lv_iload_n hx hb d_Z_split_29 rfl (lv_at hl 3 rfl) ?_
    refine lv_sipush (v := nI 16001) hx hb d_Z_split_30 (by decide) ?_
    refine lv_aload_n hx hb d_Z_split_33 rfl (lv_at hl 0 rfl) ?_
    refine mp_callv hI (va_runV (As := [.int (nI (s9).val), .int (nI 16001), .ref (fe f9)]) (rest := []) ⟨hx, hb, hml, hown, hg⟩ (c_O_power l D g S _ on na 560 cn (fe f9) (fz f9) (520 + 2 * f9) d (CF f9) 16001 s9 dn h_on h_ona h_f h_fa (by omega) hd1 hd16 pw_16001 (by decide) tcn) ⟨(callB_of 3 hg (wd_goodG q_436) rfl rfl rfl (hg _ q_18) (hg _ q_433) (by decide +kernel) ⟨Nat.le_of_ble_eq_true rfl, Nat.le_of_ble_eq_true rfl⟩), hg _ q_434, hg _ q_435⟩ (mp_preV (C := R_O) (T := F_O) hI hK h_on rfl [.int (nI (s9).val), .int (nI 16001), .ref (fe f9)]) rfl rfl hl.1 rfl (lv_room (Nat.le_of_ble_eq_true rfl)) d_Z_split_34 ⟨Nat.le_of_ble_eq_true rfl, Nat.le_of_ble_eq_true rfl⟩) (fun S1 H2 locs p_3 hI => ?_)
    obtain ⟨n, c1, q_on, q_na, hbp, fq⟩ := p_3
    have h_zo : S1 zo = some (30, .inr (6, [.ref fs, .int (nI k9), .ref on, .ref ot])) := fq zo _ _ h_zo (by omega) (by omega)
    have h_fs : S1 fs = some (31, .inl ((g 3), 16, .inr (.inr (.inr (.inr (rfs fe 16)))))) := fq fs _ _ h_fs (by omega) (by omega)
    have h_ot : S1 ot = some (562, .inr (1, [.ref ta, .int dt])) := fq ot _ _ h_ot (by omega) (by omega)
    have h_ota : S1 ta = some ((562 + 1), .inl ((g 0), 33, .inl (fun j => nI (ct j).val))) := fq ta _ _ h_ota (by omega) (by omega)
    have h_f : S1 (fe f9) = some ((520 + 2 * f9), .inr (1, [.ref (fz f9), .int (nI d)])) := fq (fe f9) _ _ h_f (by omega) (by omega)
    have h_fa : S1 (fz f9) = some (((520 + 2 * f9) + 1), .inl ((g 0), 33, .inl (fun j => nI ((CF f9) j).val))) := fq (fz f9) _ _ h_fa (by omega) (by omega)
    have hfr : ∀ b t e9, S b = some (t, e9) → (t ≠ 30) → (t < 520 ∨ 564 ≤ t) → S1 b = some (t, e9) := fun b t e9 h9 k0 k1 => by have h8 := hfr b t e9 h9 k0 k1; exact fq b _ _ h8 (by omega) (by omega)
    have hE := oS_kept hE (S1 := S1) (fun b t9 e9 hb9 h1 h2 => by have h8 : S1 b = some (t9, e9) := fq b _ _ hb9 (by omega) (by omega); rw [h8, hb9])
    have h_on := q_on
    have h_ona := q_na
    have hnd := hbp.2.1
    refine lv_aload_n hx hb d_Z_split_37 rfl (lv_at hl 1 rfl) ?_
    refine mp_get (C := R_Z) (T := F_Z) (N := 4) (v := .ref on) hx hb hg i_Z hown hK.va hI h_zo rfl 2 (by decide) (hg _ q_147) (fun _ h9 => h9) rfl d_Z_split_38 ?_
    refine lv_iconst (v := nI 0) hx hb d_Z_split_41 (by decide) ?_
    refine lv_sipush (v := nI 32002) hx hb d_Z_split_42 (by decide) ?_
    refine mp_callv hI (va_runV (As := [.int (nI 0), .int (nI 32002)]) (rest := []) ⟨hx, hb, hml, hown, hg⟩ (c_O_addTo l D g S1 _ on na 560 c1 n 0 h_on h_ona hbp.1 (by decide)) ⟨(callB_of 2 hg (wd_goodG q_459) rfl rfl rfl (hg _ q_18) (hg _ q_456) (by decide +kernel) ⟨Nat.le_of_ble_eq_true rfl, Nat.le_of_ble_eq_true rfl⟩), hg _ q_457, hg _ q_458⟩ (mp_preV (C := R_O) (T := F_O) hI hK h_on rfl [.int (nI 0), .int (nI 32002)]) rfl rfl hl.1 rfl (lv_room (Nat.le_of_ble_eq_true rfl)) d_Z_split_45 ⟨Nat.le_of_ble_eq_true rfl, Nat.le_of_ble_eq_true rfl⟩) (fun S5 H6 locs p_7 hI => ?_)
    obtain ⟨n9, hn9, ol9, q_on, q_na, fq⟩ := p_7
    have h_zo : S5 zo = some (30, .inr (6, [.ref fs, .int (nI k9), .ref on, .ref ot])) := fq zo _ _ h_zo (by omega) (by omega)
    have h_fs : S5 fs = some (31, .inl ((g 3), 16, .inr (.inr (.inr (.inr (rfs fe 16)))))) := fq fs _ _ h_fs (by omega) (by omega)
    have h_ot : S5 ot = some (562, .inr (1, [.ref ta, .int dt])) := fq ot _ _ h_ot (by omega) (by omega)
    have h_ota : S5 ta = some ((562 + 1), .inl ((g 0), 33, .inl (fun j => nI (ct j).val))) := fq ta _ _ h_ota (by omega) (by omega)
    have h_f : S5 (fe f9) = some ((520 + 2 * f9), .inr (1, [.ref (fz f9), .int (nI d)])) := fq (fe f9) _ _ h_f (by omega) (by omega)
    have h_fa : S5 (fz f9) = some (((520 + 2 * f9) + 1), .inl ((g 0), 33, .inl (fun j => nI ((CF f9) j).val))) := fq (fz f9) _ _ h_fa (by omega) (by omega)
    have hfr : ∀ b t e9, S b = some (t, e9) → (t ≠ 30) → (t < 520 ∨ 564 ≤ t) → S5 b = some (t, e9) := fun b t e9 h9 k0 k1 => by have h8 := hfr b t e9 h9 k0 k1; exact fq b _ _ h8 (by omega) (by omega)
    have hE := oS_kept hE (S1 := S5) (fun b t9 e9 hb9 h1 h2 => by have h8 : S5 b = some (t9, e9) := fq b _ _ hb9 (by omega) (by omega); rw [h8, hb9])
    have h_on := q_on
    have h_ona := q_na
    refine lv_aload_n hx hb d_Z_split_48 rfl (lv_at hl 1 rfl) ?_
    refine mp_get (C := R_Z) (T := F_Z) (N := 4) (v := .ref ot) hx hb hg i_Z hown hK.va hI h_zo rfl 3 (by decide) (hg _ q_148) (fun _ h9 => h9) rfl d_Z_split_49 ?_
    refine lv_aload_n hx hb d_Z_split_52 rfl (lv_at hl 0 rfl) ?_
    refine mp_callv hI (va_runV (As := [.ref (fe f9)]) (rest := []) ⟨hx, hb, hml, hown, hg⟩ (c_O_copy l D g S5 _ ot ta 562 ct (fe f9) (fz f9) (520 + 2 * f9) (CF f9) dt (nI d) h_ot h_ota h_f h_fa (by omega) tct (hZ.2.1 f9)) ⟨(callB_of 1 hg (wd_goodG q_463) rfl rfl rfl (hg _ q_18) (hg _ q_460) (by decide +kernel) ⟨Nat.le_of_ble_eq_true rfl, Nat.le_of_ble_eq_true rfl⟩), hg _ q_461, hg _ q_462⟩ (mp_preV (C := R_O) (T := F_O) hI hK h_ot rfl [.ref (fe f9)]) rfl rfl hl.1 rfl (lv_room (Nat.le_of_ble_eq_true rfl)) d_Z_split_53 ⟨Nat.le_of_ble_eq_true rfl, Nat.le_of_ble_eq_true rfl⟩) (fun S9 H10 locs p_11 hI => ?_)
    obtain ⟨q_ot, q_ta, fq⟩ := p_11
    have h_zo : S9 zo = some (30, .inr (6, [.ref fs, .int (nI k9), .ref on, .ref ot])) := fq zo _ _ h_zo (by omega) (by omega)
    have h_fs : S9 fs = some (31, .inl ((g 3), 16, .inr (.inr (.inr (.inr (rfs fe 16)))))) := fq fs _ _ h_fs (by omega) (by omega)
    have h_on : S9 on = some (560, .inr (1, [.ref na, .int (nI n9 + -1)])) := fq on _ _ h_on (by omega) (by omega)
    have h_ona : S9 na = some ((560 + 1), .inl ((g 0), 33, .inl (fun j => nI ((va_up c1 0 (c1 0 + -1)) j).val))) := fq na _ _ h_ona (by omega) (by omega)
    have h_f : S9 (fe f9) = some ((520 + 2 * f9), .inr (1, [.ref (fz f9), .int (nI d)])) := fq (fe f9) _ _ h_f (by omega) (by omega)
    have h_fa : S9 (fz f9) = some (((520 + 2 * f9) + 1), .inl ((g 0), 33, .inl (fun j => nI ((CF f9) j).val))) := fq (fz f9) _ _ h_fa (by omega) (by omega)
    have hfr : ∀ b t e9, S b = some (t, e9) → (t ≠ 30) → (t < 520 ∨ 564 ≤ t) → S9 b = some (t, e9) := fun b t e9 h9 k0 k1 => by have h8 := hfr b t e9 h9 k0 k1; exact fq b _ _ h8 (by omega) (by omega)
    have hE := oS_kept hE (S1 := S9) (fun b t9 e9 hb9 h1 h2 => by have h8 : S9 b = some (t9, e9) := fq b _ _ hb9 (by omega) (by omega); rw [h8, hb9])
    have h_ot := q_ot
    have h_ota := q_ta
    refine lv_aload_n hx hb d_Z_split_56 rfl (lv_at hl 1 rfl) ?_
    refine mp_get (C := R_Z) (T := F_Z) (N := 4) (v := .ref ot) hx hb hg i_Z hown hK.va hI h_zo rfl 3 (by decide) (hg _ q_148) (fun _ h9 => h9) rfl d_Z_split_57 ?_
    refine lv_aload_n hx hb d_Z_split_60 rfl (lv_at hl 1 rfl) ?_
    refine mp_get (C := R_Z) (T := F_Z) (N := 4) (v := .ref on) hx hb hg i_Z hown hK.va hI h_zo rfl 2 (by decide) (hg _ q_147) (fun _ h9 => h9) rfl d_Z_split_61 ?_
    refine mp_callr hI (va_runS (As := [.ref ot, .ref on]) (rest := []) ⟨hx, hb, hml, hown, hg⟩ (c_Z_gcd l D g S9 _ ot ta 562 on na 560 d n9 (CF f9) (va_up c1 0 (c1 0 + -1)) h_ot h_ota h_on h_ona (by decide) z2.2.2.1 z2.2.2.2 ol9 (by omega) (by omega)) ⟨(callB_of 2 hg (wd_goodG q_467) rfl rfl rfl (hg _ q_17) (hg _ q_465) (by decide +kernel) ⟨Nat.le_of_ble_eq_true rfl, Nat.le_of_ble_eq_true rfl⟩), hg _ q_466⟩ (mp_pre hI hK [.ref ot, .ref on]) rfl rfl hl.1 rfl (lv_room (Nat.le_of_ble_eq_true rfl)) d_Z_split_64 ⟨Nat.le_of_ble_eq_true rfl, Nat.le_of_ble_eq_true rfl⟩) (fun r16 S13 H14 locs p_15 hI => ?_)
    obtain ⟨e9, ce, c2, d2, hgc, t2, hab, fq⟩ := p_15
    have h_zo : S13 zo = some (30, .inr (6, [.ref fs, .int (nI k9), .ref on, .ref ot])) := fq zo _ _ h_zo (by omega) (by omega) (by omega) (by omega)
    have h_fs : S13 fs = some (31, .inl ((g 3), 16, .inr (.inr (.inr (.inr (rfs fe 16)))))) := fq fs _ _ h_fs (by omega) (by omega) (by omega) (by omega)
    have h_f : S13 (fe f9) = some ((520 + 2 * f9), .inr (1, [.ref (fz f9), .int (nI d)])) := fq (fe f9) _ _ h_f (by omega) (by omega) (by omega) (by omega)
    have h_fa : S13 (fz f9) = some (((520 + 2 * f9) + 1), .inl ((g 0), 33, .inl (fun j => nI ((CF f9) j).val))) := fq (fz f9) _ _ h_fa (by omega) (by omega) (by omega) (by omega)
    have hfr : ∀ b t e9, S b = some (t, e9) → (t ≠ 30) → (t < 520 ∨ 564 ≤ t) → S13 b = some (t, e9) := fun b t e9 h9 k0 k1 => by have h8 := hfr b t e9 h9 k0 k1; exact fq b _ _ h8 (by omega) (by omega) (by omega) (by omega)
    have hE := oS_kept hE (S1 := S13) (fun b t9 e9 hb9 h1 h2 => by have h8 : S13 b = some (t9, e9) := fq b _ _ hb9 (by omega) (by omega) (by omega) (by omega); rw [h8, hb9])
    have hed := hgc.2.2.1
    have tce := ol_t hgc.1
    rcases hab with ⟨er, q1, q2, q3, q4⟩ | ⟨er, q1, q2, q3, q4⟩
    · rw [er]
      refine lv_astore (lv' := [(4, .ref ot), (3, .ref (fe f9)), (0, .ref zo), (1, .int (nI f9)), (2, .int (nI (s9).val))]) hx hb d_Z_split_67 hl (by decide) rfl (fun ls hl => ?_)
      refine lv_aload hx hb d_Z_split_69 (lv_at hl 0 rfl) ?_
      refine mp_getN (C := R_O) (T := F_O) (N := 2) (v := .int (nI e9)) hx hb hg i_O hown hK.va hI q1 rfl 1 (by decide) (hK.use q_139 rfl) (fun _ h9 => h9) rfl d_Z_split_71 ?_
      refine lv_if_le (tgt := 119) hx hb d_Z_split_74 (by decide) (fun cq2 => ?_) (fun cq2 => ?_)
      · rw [zI_le (by omega)] at cq2
        refine mp_vret hx hb hr hlocks hI (Nat.le_of_ble_eq_true rfl) (Nat.le_of_ble_eq_true rfl) ?_ d_Z_split_119
        exact ⟨k9, dg, dN, CF, d2, (nI e9), c2, ce, hZ, spR_no (sp_no z2 hbp hgc (Or.inl (by omega))), t2, tce, h_zo, q3, q4, q1, q2, hE, hfr⟩
      · rw [zI_le (by omega)] at cq2
        refine lv_aload hx hb d_Z_split_77 (lv_at hl 0 rfl) ?_
        refine mp_getN (C := R_O) (T := F_O) (N := 2) (v := .int (nI e9)) hx hb hg i_O hown hK.va hI q1 rfl 1 (by decide) (hK.use q_139 rfl) (fun _ h9 => h9) rfl d_Z_split_79 ?_
        refine lv_aload_n hx hb d_Z_split_82 rfl (lv_at hl 1 rfl) ?_
        refine mp_getN (C := R_O) (T := F_O) (N := 2) (v := .int (nI d)) hx hb hg i_O hown hK.va hI h_f rfl 1 (by decide) (hK.use q_139 rfl) (fun _ h9 => h9) rfl d_Z_split_83 ?_
        refine lv_icmp_ge (tgt := 119) hx hb d_Z_split_86 (by decide) (fun cq3 => ?_) (fun cq3 => ?_)
        · rw [nI_leI (by omega) (by omega)] at cq3
          refine mp_vret hx hb hr hlocks hI (Nat.le_of_ble_eq_true rfl) (Nat.le_of_ble_eq_true rfl) ?_ d_Z_split_119
          exact ⟨k9, dg, dN, CF, d2, (nI e9), c2, ce, hZ, spR_no (sp_no z2 hbp hgc (Or.inr (by omega))), t2, tce, h_zo, q3, q4, q1, q2, hE, hfr⟩
        · rw [nI_leI (by omega) (by omega)] at cq3
          have hE0 := hE
          obtain ⟨h_k, h_ka⟩ := hE k9 (by omega)
          refine lv_aload_n hx hb d_Z_split_89 rfl (lv_at hl 2 rfl) ?_
          refine mp_get (C := R_Z) (T := F_Z) (N := 4) (v := .ref fs) hx hb hg i_Z hown hK.va hI h_zo rfl 0 (by decide) (hg _ q_145) (fun _ h9 => h9) rfl d_Z_split_90 ?_
          refine lv_aload_n hx hb d_Z_split_93 rfl (lv_at hl 2 rfl) ?_
          refine mp_get (C := R_Z) (T := F_Z) (N := 4) (v := .int (nI k9)) hx hb hg i_Z hown hK.va hI h_zo rfl 1 (by decide) (hg _ q_146) (fun _ h9 => h9) rfl d_Z_split_94 ?_
          refine mp_aldq (b := fe k9) hx hb hK.va hI 3 h_fs rfl (vp_in_nI (show k9 < 16 by omega) (by omega)) (by rw [nI_clamp (by omega)]; exact rfs_at (by omega)) d_Z_split_97 ?_
          refine lv_aload hx hb d_Z_split_98 (lv_at hl 0 rfl) ?_
          refine mp_callv hI (va_runV (As := [.ref ot]) (rest := []) ⟨hx, hb, hml, hown, hg⟩ (c_O_copy l D g S13 _ (fe k9) (fz k9) (520 + 2 * k9) (CF k9) ot ta 562 ce (dg k9) (nI e9) h_k h_ka q1 q2 (by omega) (hZ.2.1 k9) tce) ⟨(callB_of 1 hg (wd_goodG q_463) rfl rfl rfl (hg _ q_18) (hg _ q_460) (by decide +kernel) ⟨Nat.le_of_ble_eq_true rfl, Nat.le_of_ble_eq_true rfl⟩), hg _ q_461, hg _ q_462⟩ (mp_preV (C := R_O) (T := F_O) hI hK h_k rfl [.ref ot]) rfl rfl hl.1 rfl (lv_room (Nat.le_of_ble_eq_true rfl)) d_Z_split_100 ⟨Nat.le_of_ble_eq_true rfl, Nat.le_of_ble_eq_true rfl⟩) (fun S17 H18 locs p_19 hI => ?_)
          obtain ⟨q_k, q_ka, fq⟩ := p_19
          have h_zo : S17 zo = some (30, .inr (6, [.ref fs, .int (nI k9), .ref on, .ref ot])) := fq zo _ _ h_zo (by omega) (by omega)
          have h_fs : S17 fs = some (31, .inl ((g 3), 16, .inr (.inr (.inr (.inr (rfs fe 16)))))) := fq fs _ _ h_fs (by omega) (by omega)
          have h_f : S17 (fe f9) = some ((520 + 2 * f9), .inr (1, [.ref (fz f9), .int (nI d)])) := fq (fe f9) _ _ h_f (by omega) (by omega)
          have h_fa : S17 (fz f9) = some (((520 + 2 * f9) + 1), .inl ((g 0), 33, .inl (fun j => nI ((CF f9) j).val))) := fq (fz f9) _ _ h_fa (by omega) (by omega)
          have q1 : S17 ot = some (562, .inr (1, [.ref ta, .int (nI e9)])) := fq ot _ _ q1 (by omega) (by omega)
          have q2 : S17 ta = some ((562 + 1), .inl ((g 0), 33, .inl (fun j => nI (ce j).val))) := fq ta _ _ q2 (by omega) (by omega)
          have q3 : S17 on = some (560, .inr (1, [.ref na, .int d2])) := fq on _ _ q3 (by omega) (by omega)
          have q4 : S17 na = some ((560 + 1), .inl ((g 0), 33, .inl (fun j => nI (c2 j).val))) := fq na _ _ q4 (by omega) (by omega)
          have hfr : ∀ b t e9, S b = some (t, e9) → (t ≠ 30) → (t < 520 ∨ 564 ≤ t) → S17 b = some (t, e9) := fun b t e9 h9 k0 k1 => by have h8 := hfr b t e9 h9 k0 k1; exact fq b _ _ h8 (by omega) (by omega)
          have hE : oS g 520 16 fe fz (va_up dg k9 (nI e9)) (fun ii j => nI ((va_up CF k9 ce) ii j).val) S17 := oS_up hE0 q_k q_ka (fun b t e9 h9 k1 k2 _ _ => fq b t e9 h9 k1 k2)
          refine lv_aload_n hx hb d_Z_split_103 rfl (lv_at hl 2 rfl) ?_
          refine lv_dup hx hb d_Z_split_104 rfl ?_
          refine mp_get (C := R_Z) (T := F_Z) (N := 4) (v := .int (nI k9)) hx hb hg i_Z hown hK.va hI h_zo rfl 1 (by decide) (hg _ q_146) (fun _ h9 => h9) rfl d_Z_split_105 ?_
          refine lv_iconst (v := nI 1) hx hb d_Z_split_108 (by decide) ?_
          refine lv_iadd hx hb d_Z_split_109 ?_
          refine lv_topi (fun v21 ev21 => ?_)
          obtain rfl : v21 = nI (k9 + 1) := ev21.trans (nI_add _ _)
          refine mp_put (C := R_Z) (T := F_Z) (N := 4) (v := .int (nI (k9 + 1))) (ty := .int) hx hb hg i_Z t_Z t_Z_ok n_Z hown hK.va hI h_zo rfl 1 (by decide) (hg _ q_146) (fun _ h9 => h9) rfl (by decide +kernel) (rfl) rfl (Nat.le_of_ble_eq_true rfl) d_Z_split_110 (fun S22 H23 locs e_24 hI => ?_)
          have h_zo_o := h_zo
          have e_24 : S22 = va_up S17 zo (some (30, .inr (6, [.ref fs, .int (nI (k9 + 1)), .ref on, .ref ot]))) := e_24
          have h_zo_o := h_zo
          have h_fs : S22 fs = some (31, .inl ((g 3), 16, .inr (.inr (.inr (.inr (rfs fe 16)))))) := by rw [e_24]; exact mp_keep h_fs h_zo (by decide)
          have h_f : S22 (fe f9) = some ((520 + 2 * f9), .inr (1, [.ref (fz f9), .int (nI d)])) := by rw [e_24]; exact mp_keep h_f h_zo (by omega)
          have h_fa : S22 (fz f9) = some (((520 + 2 * f9) + 1), .inl ((g 0), 33, .inl (fun j => nI ((CF f9) j).val))) := by rw [e_24]; exact mp_keep h_fa h_zo (by omega)
          have q1 : S22 ot = some (562, .inr (1, [.ref ta, .int (nI e9)])) := by rw [e_24]; exact mp_keep q1 h_zo (by decide)
          have q2 : S22 ta = some ((562 + 1), .inl ((g 0), 33, .inl (fun j => nI (ce j).val))) := by rw [e_24]; exact mp_keep q2 h_zo (by omega)
          have q3 : S22 on = some (560, .inr (1, [.ref na, .int d2])) := by rw [e_24]; exact mp_keep q3 h_zo (by decide)
          have q4 : S22 na = some ((560 + 1), .inl ((g 0), 33, .inl (fun j => nI (c2 j).val))) := by rw [e_24]; exact mp_keep q4 h_zo (by omega)
          have h_zo : S22 zo = some (30, .inr (6, [.ref fs, .int (nI (k9 + 1)), .ref on, .ref ot])) := by rw [e_24]; exact mp_us _ _ _
          have hE := oS_kept hE (S1 := S22) (fun b t9 e9 hb9 h1 h2 => by rw [e_24]; exact mp_un (mp_ne hb9 h_zo_o (by omega)))
          have hfr : ∀ b t e9, S b = some (t, e9) → (t ≠ 30) → (t < 520 ∨ 564 ≤ t) → S22 b = some (t, e9) := fun b t e9 h9 k0 k1 => by rw [e_24]; exact mp_keep (hfr b t e9 h9 k0 k1) h_zo_o (by omega)
          refine lv_aload_n hx hb d_Z_split_113 rfl (lv_at hl 1 rfl) ?_
          refine lv_aload hx hb d_Z_split_114 (lv_at hl 0 rfl) ?_
          refine mp_callv hI (va_runV (As := [.ref ot]) (rest := []) ⟨hx, hb, hml, hown, hg⟩ (c_O_quo l D g S22 _ (fe f9) (fz f9) (520 + 2 * f9) (CF f9) ot ta 562 e9 ce d h_f h_fa q1 q2 (by omega) (by omega) (by omega) (by omega)) ⟨(callB_of 1 hg (wd_goodG q_481) rfl rfl rfl (hg _ q_18) (hg _ q_478) (by decide +kernel) ⟨Nat.le_of_ble_eq_true rfl, Nat.le_of_ble_eq_true rfl⟩), hg _ q_479, hg _ q_480⟩ (mp_preV (C := R_O) (T := F_O) hI hK h_f rfl [.ref ot]) rfl rfl hl.1 rfl (lv_room (Nat.le_of_ble_eq_true rfl)) d_Z_split_116 ⟨Nat.le_of_ble_eq_true rfl, Nat.le_of_ble_eq_true rfl⟩) (fun S25 H26 locs p_27 hI => ?_)
          obtain ⟨q_f, q_fa, fq⟩ := p_27
          have hE1 := hE
          have h_zo : S25 zo = some (30, .inr (6, [.ref fs, .int (nI (k9 + 1)), .ref on, .ref ot])) := fq zo _ _ h_zo (by omega) (by omega)
          have h_fs : S25 fs = some (31, .inl ((g 3), 16, .inr (.inr (.inr (.inr (rfs fe 16)))))) := fq fs _ _ h_fs (by omega) (by omega)
          have q1 : S25 ot = some (562, .inr (1, [.ref ta, .int (nI e9)])) := fq ot _ _ q1 (by omega) (by omega)
          have q2 : S25 ta = some ((562 + 1), .inl ((g 0), 33, .inl (fun j => nI (ce j).val))) := fq ta _ _ q2 (by omega) (by omega)
          have q3 : S25 on = some (560, .inr (1, [.ref na, .int d2])) := fq on _ _ q3 (by omega) (by omega)
          have q4 : S25 na = some ((560 + 1), .inl ((g 0), 33, .inl (fun j => nI (c2 j).val))) := fq na _ _ q4 (by omega) (by omega)
          have hfr : ∀ b t e9, S b = some (t, e9) → (t ≠ 30) → (t < 520 ∨ 564 ≤ t) → S25 b = some (t, e9) := fun b t e9 h9 k0 k1 => by have h8 := hfr b t e9 h9 k0 k1; exact fq b _ _ h8 (by omega) (by omega)
          have hE : oS g 520 16 fe fz (va_up (va_up dg k9 (nI e9)) f9 (nI (d - e9))) (fun ii j => nI ((va_up (va_up CF k9 ce) f9 (qtI e9 d (dvA e9 ce (d + 1 - e9) (CF f9)) (d + 1))) ii j).val) S25 := oS_up hE1 q_f q_fa (fun b t e9 h9 k1 k2 _ _ => fq b t e9 h9 k1 k2)
          obtain ⟨y1, y2⟩ := ZP_yes hZ hf ed hbp hgc (by omega) (by omega)
          refine mp_vret hx hb hr hlocks hI (Nat.le_of_ble_eq_true rfl) (Nat.le_of_ble_eq_true rfl) ?_ d_Z_split_119
          exact ⟨k9 + 1, _, _, _, d2, (nI e9), c2, ce, y1, y2, t2, tce, h_zo, q3, q4, q1, q2, hE, hfr⟩
    · rw [er]
      refine lv_astore (lv' := [(4, .ref on), (3, .ref (fe f9)), (0, .ref zo), (1, .int (nI f9)), (2, .int (nI (s9).val))]) hx hb d_Z_split_67 hl (by decide) rfl (fun ls hl => ?_)
      refine lv_aload hx hb d_Z_split_69 (lv_at hl 0 rfl) ?_
      refine mp_getN (C := R_O) (T := F_O) (N := 2) (v := .int (nI e9)) hx hb hg i_O hown hK.va hI q1 rfl 1 (by decide) (hK.use q_139 rfl) (fun _ h9 => h9) rfl d_Z_split_71 ?_
      refine lv_if_le (tgt := 119) hx hb d_Z_split_74 (by decide) (fun cq2 => ?_) (fun cq2 => ?_)
      · rw [zI_le (by omega)] at cq2
        refine mp_vret hx hb hr hlocks hI (Nat.le_of_ble_eq_true rfl) (Nat.le_of_ble_eq_true rfl) ?_ d_Z_split_119
        exact ⟨k9, dg, dN, CF, (nI e9), d2, ce, c2, hZ, spR_no (sp_no z2 hbp hgc (Or.inl (by omega))), tce, t2, h_zo, q1, q2, q3, q4, hE, hfr⟩
      · rw [zI_le (by omega)] at cq2
        refine lv_aload hx hb d_Z_split_77 (lv_at hl 0 rfl) ?_
        refine mp_getN (C := R_O) (T := F_O) (N := 2) (v := .int (nI e9)) hx hb hg i_O hown hK.va hI q1 rfl 1 (by decide) (hK.use q_139 rfl) (fun _ h9 => h9) rfl d_Z_split_79 ?_
        refine lv_aload_n hx hb d_Z_split_82 rfl (lv_at hl 1 rfl) ?_
        refine mp_getN (C := R_O) (T := F_O) (N := 2) (v := .int (nI d)) hx hb hg i_O hown hK.va hI h_f rfl 1 (by decide) (hK.use q_139 rfl) (fun _ h9 => h9) rfl d_Z_split_83 ?_
        refine lv_icmp_ge (tgt := 119) hx hb d_Z_split_86 (by decide) (fun cq3 => ?_) (fun cq3 => ?_)
        · rw [nI_leI (by omega) (by omega)] at cq3
          refine mp_vret hx hb hr hlocks hI (Nat.le_of_ble_eq_true rfl) (Nat.le_of_ble_eq_true rfl) ?_ d_Z_split_119
          exact ⟨k9, dg, dN, CF, (nI e9), d2, ce, c2, hZ, spR_no (sp_no z2 hbp hgc (Or.inr (by omega))), tce, t2, h_zo, q1, q2, q3, q4, hE, hfr⟩
        · rw [nI_leI (by omega) (by omega)] at cq3
          have hE0 := hE
          obtain ⟨h_k, h_ka⟩ := hE k9 (by omega)
          refine lv_aload_n hx hb d_Z_split_89 rfl (lv_at hl 2 rfl) ?_
          refine mp_get (C := R_Z) (T := F_Z) (N := 4) (v := .ref fs) hx hb hg i_Z hown hK.va hI h_zo rfl 0 (by decide) (hg _ q_145) (fun _ h9 => h9) rfl d_Z_split_90 ?_
          refine lv_aload_n hx hb d_Z_split_93 rfl (lv_at hl 2 rfl) ?_
          refine mp_get (C := R_Z) (T := F_Z) (N := 4) (v := .int (nI k9)) hx hb hg i_Z hown hK.va hI h_zo rfl 1 (by decide) (hg _ q_146) (fun _ h9 => h9) rfl d_Z_split_94 ?_
          refine mp_aldq (b := fe k9) hx hb hK.va hI 3 h_fs rfl (vp_in_nI (show k9 < 16 by omega) (by omega)) (by rw [nI_clamp (by omega)]; exact rfs_at (by omega)) d_Z_split_97 ?_
          refine lv_aload hx hb d_Z_split_98 (lv_at hl 0 rfl) ?_
          refine mp_callv hI (va_runV (As := [.ref on]) (rest := []) ⟨hx, hb, hml, hown, hg⟩ (c_O_copy l D g S13 _ (fe k9) (fz k9) (520 + 2 * k9) (CF k9) on na 560 ce (dg k9) (nI e9) h_k h_ka q1 q2 (by omega) (hZ.2.1 k9) tce) ⟨(callB_of 1 hg (wd_goodG q_463) rfl rfl rfl (hg _ q_18) (hg _ q_460) (by decide +kernel) ⟨Nat.le_of_ble_eq_true rfl, Nat.le_of_ble_eq_true rfl⟩), hg _ q_461, hg _ q_462⟩ (mp_preV (C := R_O) (T := F_O) hI hK h_k rfl [.ref on]) rfl rfl hl.1 rfl (lv_room (Nat.le_of_ble_eq_true rfl)) d_Z_split_100 ⟨Nat.le_of_ble_eq_true rfl, Nat.le_of_ble_eq_true rfl⟩) (fun S29 H30 locs p_31 hI => ?_)
          obtain ⟨q_k, q_ka, fq⟩ := p_31
          have h_zo : S29 zo = some (30, .inr (6, [.ref fs, .int (nI k9), .ref on, .ref ot])) := fq zo _ _ h_zo (by omega) (by omega)
          have h_fs : S29 fs = some (31, .inl ((g 3), 16, .inr (.inr (.inr (.inr (rfs fe 16)))))) := fq fs _ _ h_fs (by omega) (by omega)
          have h_f : S29 (fe f9) = some ((520 + 2 * f9), .inr (1, [.ref (fz f9), .int (nI d)])) := fq (fe f9) _ _ h_f (by omega) (by omega)
          have h_fa : S29 (fz f9) = some (((520 + 2 * f9) + 1), .inl ((g 0), 33, .inl (fun j => nI ((CF f9) j).val))) := fq (fz f9) _ _ h_fa (by omega) (by omega)
          have q1 : S29 on = some (560, .inr (1, [.ref na, .int (nI e9)])) := fq on _ _ q1 (by omega) (by omega)
          have q2 : S29 na = some ((560 + 1), .inl ((g 0), 33, .inl (fun j => nI (ce j).val))) := fq na _ _ q2 (by omega) (by omega)
          have q3 : S29 ot = some (562, .inr (1, [.ref ta, .int d2])) := fq ot _ _ q3 (by omega) (by omega)
          have q4 : S29 ta = some ((562 + 1), .inl ((g 0), 33, .inl (fun j => nI (c2 j).val))) := fq ta _ _ q4 (by omega) (by omega)
          have hfr : ∀ b t e9, S b = some (t, e9) → (t ≠ 30) → (t < 520 ∨ 564 ≤ t) → S29 b = some (t, e9) := fun b t e9 h9 k0 k1 => by have h8 := hfr b t e9 h9 k0 k1; exact fq b _ _ h8 (by omega) (by omega)
          have hE : oS g 520 16 fe fz (va_up dg k9 (nI e9)) (fun ii j => nI ((va_up CF k9 ce) ii j).val) S29 := oS_up hE0 q_k q_ka (fun b t e9 h9 k1 k2 _ _ => fq b t e9 h9 k1 k2)
          refine lv_aload_n hx hb d_Z_split_103 rfl (lv_at hl 2 rfl) ?_
          refine lv_dup hx hb d_Z_split_104 rfl ?_
          refine mp_get (C := R_Z) (T := F_Z) (N := 4) (v := .int (nI k9)) hx hb hg i_Z hown hK.va hI h_zo rfl 1 (by decide) (hg _ q_146) (fun _ h9 => h9) rfl d_Z_split_105 ?_
          refine lv_iconst (v := nI 1) hx hb d_Z_split_108 (by decide) ?_
          refine lv_iadd hx hb d_Z_split_109 ?_
          refine lv_topi (fun v33 ev33 => ?_)
          obtain rfl : v33 = nI (k9 + 1) := ev33.trans (nI_add _ _)
          refine mp_put (C := R_Z) (T := F_Z) (N := 4) (v := .int (nI (k9 + 1))) (ty := .int) hx hb hg i_Z t_Z t_Z_ok n_Z hown hK.va hI h_zo rfl 1 (by decide) (hg _ q_146) (fun _ h9 => h9) rfl (by decide +kernel) (rfl) rfl (Nat.le_of_ble_eq_true rfl) d_Z_split_110 (fun S34 H35 locs e_36 hI => ?_)
          have h_zo_o := h_zo
          have e_36 : S34 = va_up S29 zo (some (30, .inr (6, [.ref fs, .int (nI (k9 + 1)), .ref on, .ref ot]))) := e_36
          have h_zo_o := h_zo
          have h_fs : S34 fs = some (31, .inl ((g 3), 16, .inr (.inr (.inr (.inr (rfs fe 16)))))) := by rw [e_36]; exact mp_keep h_fs h_zo (by decide)
          have h_f : S34 (fe f9) = some ((520 + 2 * f9), .inr (1, [.ref (fz f9), .int (nI d)])) := by rw [e_36]; exact mp_keep h_f h_zo (by omega)
          have h_fa : S34 (fz f9) = some (((520 + 2 * f9) + 1), .inl ((g 0), 33, .inl (fun j => nI ((CF f9) j).val))) := by rw [e_36]; exact mp_keep h_fa h_zo (by omega)
          have q1 : S34 on = some (560, .inr (1, [.ref na, .int (nI e9)])) := by rw [e_36]; exact mp_keep q1 h_zo (by decide)
          have q2 : S34 na = some ((560 + 1), .inl ((g 0), 33, .inl (fun j => nI (ce j).val))) := by rw [e_36]; exact mp_keep q2 h_zo (by omega)
          have q3 : S34 ot = some (562, .inr (1, [.ref ta, .int d2])) := by rw [e_36]; exact mp_keep q3 h_zo (by decide)
          have q4 : S34 ta = some ((562 + 1), .inl ((g 0), 33, .inl (fun j => nI (c2 j).val))) := by rw [e_36]; exact mp_keep q4 h_zo (by omega)
          have h_zo : S34 zo = some (30, .inr (6, [.ref fs, .int (nI (k9 + 1)), .ref on, .ref ot])) := by rw [e_36]; exact mp_us _ _ _
          have hE := oS_kept hE (S1 := S34) (fun b t9 e9 hb9 h1 h2 => by rw [e_36]; exact mp_un (mp_ne hb9 h_zo_o (by omega)))
          have hfr : ∀ b t e9, S b = some (t, e9) → (t ≠ 30) → (t < 520 ∨ 564 ≤ t) → S34 b = some (t, e9) := fun b t e9 h9 k0 k1 => by rw [e_36]; exact mp_keep (hfr b t e9 h9 k0 k1) h_zo_o (by omega)
          refine lv_aload_n hx hb d_Z_split_113 rfl (lv_at hl 1 rfl) ?_
          refine lv_aload hx hb d_Z_split_114 (lv_at hl 0 rfl) ?_
          refine mp_callv hI (va_runV (As := [.ref on]) (rest := []) ⟨hx, hb, hml, hown, hg⟩ (c_O_quo l D g S34 _ (fe f9) (fz f9) (520 + 2 * f9) (CF f9) on na 560 e9 ce d h_f h_fa q1 q2 (by omega) (by omega) (by omega) (by omega)) ⟨(callB_of 1 hg (wd_goodG q_481) rfl rfl rfl (hg _ q_18) (hg _ q_478) (by decide +kernel) ⟨Nat.le_of_ble_eq_true rfl, Nat.le_of_ble_eq_true rfl⟩), hg _ q_479, hg _ q_480⟩ (mp_preV (C := R_O) (T := F_O) hI hK h_f rfl [.ref on]) rfl rfl hl.1 rfl (lv_room (Nat.le_of_ble_eq_true rfl)) d_Z_split_116 ⟨Nat.le_of_ble_eq_true rfl, Nat.le_of_ble_eq_true rfl⟩) (fun S37 H38 locs p_39 hI => ?_)
          obtain ⟨q_f, q_fa, fq⟩ := p_39
          have hE1 := hE
          have h_zo : S37 zo = some (30, .inr (6, [.ref fs, .int (nI (k9 + 1)), .ref on, .ref ot])) := fq zo _ _ h_zo (by omega) (by omega)
          have h_fs : S37 fs = some (31, .inl ((g 3), 16, .inr (.inr (.inr (.inr (rfs fe 16)))))) := fq fs _ _ h_fs (by omega) (by omega)
          have q1 : S37 on = some (560, .inr (1, [.ref na, .int (nI e9)])) := fq on _ _ q1 (by omega) (by omega)
          have q2 : S37 na = some ((560 + 1), .inl ((g 0), 33, .inl (fun j => nI (ce j).val))) := fq na _ _ q2 (by omega) (by omega)
          have q3 : S37 ot = some (562, .inr (1, [.ref ta, .int d2])) := fq ot _ _ q3 (by omega) (by omega)
          have q4 : S37 ta = some ((562 + 1), .inl ((g 0), 33, .inl (fun j => nI (c2 j).val))) := fq ta _ _ q4 (by omega) (by omega)
          have hfr : ∀ b t e9, S b = some (t, e9) → (t ≠ 30) → (t < 520 ∨ 564 ≤ t) → S37 b = some (t, e9) := fun b t e9 h9 k0 k1 => by have h8 := hfr b t e9 h9 k0 k1; exact fq b _ _ h8 (by omega) (by omega)
          have hE : oS g 520 16 fe fz (va_up (va_up dg k9 (nI e9)) f9 (nI (d - e9))) (fun ii j => nI ((va_up (va_up CF k9 ce) f9 (qtI e9 d (dvA e9 ce (d + 1 - e9) (CF f9)) (d + 1))) ii j).val) S37 := oS_up hE1 q_f q_fa (fun b t e9 h9 k1 k2 _ _ => fq b t e9 h9 k1 k2)
          obtain ⟨y1, y2⟩ := ZP_yes hZ hf ed hbp hgc (by omega) (by omega)
          refine mp_vret hx hb hr hlocks hI (Nat.le_of_ble_eq_true rfl) (Nat.le_of_ble_eq_true rfl) ?_ d_Z_split_119
          exact ⟨k9 + 1, _, _, _, (nI e9), d2, ce, c2, y1, y2, tce, t2, h_zo, q1, q2, q3, q4, hE, hfr⟩
