/-! A polynomial in the class: keys from the head down, numbers at them; c: the number at each key -/
def pY (z : Nat) (kf nf : Nat → Int32) (c : Nat → Nat) : Prop := ∃ K X : Nat → Nat, (∀ i, i < z → kf i = nI (K i) ∧ nf i = nI (X i) ∧ K i < 131072 ∧ 0 < X i ∧ X i < 32003 ∧ c (K i) = X i) ∧ (∀ i j, i < j → j < z → K j < K i) ∧ (∀ k, c k ≠ 0 → ∃ i, i < z ∧ K i = k)
theorem pY_0 (kf nf : Nat → Int32) : pY 0 kf nf (fun _ => 0) := ⟨fun _ => 0, fun _ => 0, fun i h => absurd h (Nat.not_lt_zero i), fun i j _ h => absurd h (Nat.not_lt_zero j), fun k h => absurd rfl h⟩
theorem up_s {c : Nat → Nat} {k x : Nat} : va_up c k x k = x := by simp [va_up]
theorem up_n {c : Nat → Nat} {k x j : Nat} (h : j ≠ k) : va_up c k x j = c j := by simp [va_up, h]
/-- a number is put where none was -/
theorem pY_ins {z : Nat} {kf nf kf1 nf1 : Nat → Int32} {c : Nat → Nat} {K X : Nat → Nat} {sp key x : Nat}
    (h1 : ∀ i, i < z → kf i = nI (K i) ∧ nf i = nI (X i) ∧ K i < 131072 ∧ 0 < X i ∧ X i < 32003 ∧ c (K i) = X i) (h2 : ∀ i j, i < j → j < z → K j < K i) (h3 : ∀ k, c k ≠ 0 → ∃ i, i < z ∧ K i = k)
    (hsp : sp ≤ z) (hlo : ∀ j, j < sp → key < K j) (hhi : sp < z → K sp < key) (hk : key < 131072) (hx0 : 0 < x) (hx : x < 32003)
    (a1 : ∀ j, j ≤ sp → j < z → kf1 j = kf j) (a2 : ∀ j, sp ≤ j → j < z → kf1 (j + 1) = kf j) (b1 : ∀ j, j ≤ sp → j < z → nf1 j = nf j) (b2 : ∀ j, sp ≤ j → j < z → nf1 (j + 1) = nf j) :
    pY (z + 1) (upd kf1 sp (nI key)) (upd nf1 sp (nI x)) (va_up c key x) := by
  have hge : ∀ j, sp ≤ j → j < z → K j < key := fun j g1 g2 => by
    by_cases e : j = sp
    · subst e; exact hhi g2
    · exact Nat.lt_trans (h2 sp j (by omega) g2) (hhi (by omega))
  refine ⟨fun i => if i < sp then K i else if i = sp then key else K (i - 1), fun i => if i < sp then X i else if i = sp then x else X (i - 1), fun i hi => ?_, fun i j hij hj => ?_, fun k hk9 => ?_⟩
  · by_cases e1 : i < sp
    · obtain ⟨g1, g2, g3, g4, g5, g6⟩ := h1 i (by omega)
      have hne := hlo i e1
      simp only [e1, if_true]
      rw [pk_un (by omega), pk_un (by omega), a1 i (by omega) (by omega), b1 i (by omega) (by omega), up_n (by omega)]
      exact ⟨g1, g2, g3, g4, g5, g6⟩
    · by_cases e2 : i = sp
      · subst e2
        simp only [Nat.lt_irrefl, if_false, if_true]
        rw [pk_us, pk_us, up_s]
        exact ⟨rfl, rfl, hk, hx0, hx, rfl⟩
      · obtain ⟨g1, g2, g3, g4, g5, g6⟩ := h1 (i - 1) (by omega)
        have hne := hge (i - 1) (by omega) (by omega)
        simp only [e1, e2, if_false]
        have q1 := a2 (i - 1) (by omega) (by omega)
        have q2 := b2 (i - 1) (by omega) (by omega)
        rw [show i - 1 + 1 = i by omega] at q1 q2
        rw [pk_un (by omega), pk_un (by omega), q1, q2, up_n (by omega)]
        exact ⟨g1, g2, g3, g4, g5, g6⟩
  · show (if j < sp then K j else if j = sp then key else K (j - 1)) < (if i < sp then K i else if i = sp then key else K (i - 1))
    by_cases e1 : j < sp
    · rw [if_pos e1, if_pos (by omega)]; exact h2 i j hij (by omega)
    · rw [if_neg e1]
      by_cases e2 : j = sp
      · rw [if_pos e2, if_pos (by omega)]; exact hlo i (by omega)
      · rw [if_neg e2]
        by_cases e3 : i < sp
        · rw [if_pos e3]; exact Nat.lt_trans (hge (j - 1) (by omega) (by omega)) (hlo i e3)
        · rw [if_neg e3]
          by_cases e4 : i = sp
          · rw [if_pos e4]; exact hge (j - 1) (by omega) (by omega)
          · rw [if_neg e4]; exact h2 (i - 1) (j - 1) (by omega) (by omega)
  · by_cases e : k = key
    · exact ⟨sp, by omega, by simp [e]⟩
    · rw [up_n e] at hk9
      obtain ⟨i, hi, rfl⟩ := h3 k hk9
      by_cases e1 : i < sp
      · exact ⟨i, by omega, by simp [e1]⟩
      · exact ⟨i + 1, by omega, by show (if i + 1 < sp then _ else if i + 1 = sp then key else K (i + 1 - 1)) = _; rw [if_neg (by omega), if_neg (by omega)]; rfl⟩
/-- another number at a key that is there -/
theorem pY_set {z : Nat} {kf nf : Nat → Int32} {c : Nat → Nat} {K X : Nat → Nat} {sp x : Nat}
    (h1 : ∀ i, i < z → kf i = nI (K i) ∧ nf i = nI (X i) ∧ K i < 131072 ∧ 0 < X i ∧ X i < 32003 ∧ c (K i) = X i) (h2 : ∀ i j, i < j → j < z → K j < K i) (h3 : ∀ k, c k ≠ 0 → ∃ i, i < z ∧ K i = k)
    (hsp : sp < z) (hx0 : 0 < x) (hx : x < 32003) : pY z kf (upd nf sp (nI x)) (va_up c (K sp) x) := by
  have hinj : ∀ i, i < z → i ≠ sp → K i ≠ K sp := fun i hi hn e => by
    rcases Nat.lt_or_gt_of_ne hn with q | q
    · have := h2 i sp q hsp; omega
    · have := h2 sp i q hi; omega
  refine ⟨K, va_up X sp x, fun i hi => ?_, h2, fun k hk9 => ?_⟩
  · obtain ⟨g1, g2, g3, g4, g5, g6⟩ := h1 i hi
    by_cases e : i = sp
    · subst e; rw [pk_us, up_s, up_s]; exact ⟨g1, rfl, g3, hx0, hx, rfl⟩
    · rw [pk_un e, up_n e, up_n (hinj i hi e)]; exact ⟨g1, g2, g3, g4, g5, g6⟩
  · by_cases e : k = K sp
    · exact ⟨sp, hsp, e.symm⟩
    · rw [up_n e] at hk9; exact h3 k hk9
/-- a key goes -/
theorem pY_del {z : Nat} {kf nf : Nat → Int32} {c : Nat → Nat} {K X : Nat → Nat} {sp : Nat}
    (h1 : ∀ i, i < z + 1 → kf i = nI (K i) ∧ nf i = nI (X i) ∧ K i < 131072 ∧ 0 < X i ∧ X i < 32003 ∧ c (K i) = X i) (h2 : ∀ i j, i < j → j < z + 1 → K j < K i) (h3 : ∀ k, c k ≠ 0 → ∃ i, i < z + 1 ∧ K i = k)
    (hsp : sp ≤ z) : pY z (shL kf sp z) (shL nf sp z) (va_up c (K sp) 0) := by
  have hinj : ∀ i, i < z + 1 → i ≠ sp → K i ≠ K sp := fun i hi hn e => by
    rcases Nat.lt_or_gt_of_ne hn with q | q
    · have := h2 i sp q (by omega); omega
    · have := h2 sp i q hi; omega
  refine ⟨fun i => if i < sp then K i else K (i + 1), fun i => if i < sp then X i else X (i + 1), fun i hi => ?_, fun i j hij hj => ?_, fun k hk9 => ?_⟩
  · unfold shL
    by_cases e : i < sp
    · simp only [e, if_true]
      rw [if_neg (by omega), if_neg (by omega), up_n (hinj i (by omega) (by omega))]
      exact h1 i (by omega)
    · simp only [e, if_false]
      rw [if_pos (by omega), if_pos (by omega), up_n (hinj (i + 1) (by omega) (by omega))]
      exact h1 (i + 1) (by omega)
  · show (if j < sp then K j else K (j + 1)) < (if i < sp then K i else K (i + 1))
    by_cases e1 : j < sp
    · rw [if_pos e1, if_pos (by omega)]; exact h2 i j hij (by omega)
    · rw [if_neg e1]
      by_cases e2 : i < sp
      · rw [if_pos e2]; exact h2 i (j + 1) (by omega) (by omega)
      · rw [if_neg e2]; exact h2 (i + 1) (j + 1) (by omega) (by omega)
  · by_cases e : k = K sp
    · rw [e, up_s] at hk9; exact absurd rfl hk9
    · rw [up_n e] at hk9
      obtain ⟨i, hi, rfl⟩ := h3 k hk9
      by_cases e1 : i < sp
      · exact ⟨i, by omega, by simp [e1]⟩
      · have hne : i ≠ sp := fun q => e (by rw [q])
        exact ⟨i - 1, by omega, by show (if i - 1 < sp then K (i - 1) else K (i - 1 + 1)) = K i; rw [if_neg (by omega), show i - 1 + 1 = i by omega]⟩
theorem d_Y_put_10 : decode b_Y_put 10 = .ok (.aload_n 0, 1) := by decide +kernel
theorem d_Y_put_11 : decode b_Y_put 11 = .ok (.getfield 9, 3) := by decide +kernel
theorem d_Y_put_14 : decode b_Y_put 14 = .ok (.iload_n 3, 1) := by decide +kernel
theorem d_Y_put_15 : decode b_Y_put 15 = .ok (.iaload, 1) := by decide +kernel
theorem d_Y_put_16 : decode b_Y_put 16 = .ok (.iload_n 1, 1) := by decide +kernel
theorem d_Y_put_17 : decode b_Y_put 17 = .ok (.if_icmp .le 9, 3) := by decide +kernel
theorem d_Y_put_20 : decode b_Y_put 20 = .ok (.iinc 3 1, 3) := by decide +kernel
theorem d_Y_put_23 : decode b_Y_put 23 = .ok (.goto (-21), 3) := by decide +kernel
theorem d_Y_put_34 : decode b_Y_put 34 = .ok (.aload_n 0, 1) := by decide +kernel
theorem d_Y_put_35 : decode b_Y_put 35 = .ok (.getfield 9, 3) := by decide +kernel
theorem d_Y_put_38 : decode b_Y_put 38 = .ok (.iload_n 3, 1) := by decide +kernel
theorem d_Y_put_39 : decode b_Y_put 39 = .ok (.iaload, 1) := by decide +kernel
theorem d_Y_put_40 : decode b_Y_put 40 = .ok (.iload_n 1, 1) := by decide +kernel
theorem d_Y_put_41 : decode b_Y_put 41 = .ok (.if_icmp .ne 7, 3) := by decide +kernel
theorem d_Y_put_44 : decode b_Y_put 44 = .ok (.iconst 1, 1) := by decide +kernel
theorem d_Y_put_45 : decode b_Y_put 45 = .ok (.goto 4, 3) := by decide +kernel
theorem d_Y_put_56 : decode b_Y_put 56 = .ok (.aload_n 0, 1) := by decide +kernel
theorem d_Y_put_57 : decode b_Y_put 57 = .ok (.getfield 15, 3) := by decide +kernel
theorem d_Y_put_60 : decode b_Y_put 60 = .ok (.iload_n 3, 1) := by decide +kernel
theorem d_Y_put_61 : decode b_Y_put 61 = .ok (.iaload, 1) := by decide +kernel
theorem d_Y_put_62 : decode b_Y_put 62 = .ok (.goto 4, 3) := by decide +kernel
theorem d_Y_put_103 : decode b_Y_put 103 = .ok (.iload_n 2, 1) := by decide +kernel
theorem d_Y_put_104 : decode b_Y_put 104 = .ok (.ifCond .ne 11, 3) := by decide +kernel
theorem d_Y_put_107 : decode b_Y_put 107 = .ok (.aload_n 0, 1) := by decide +kernel
theorem d_Y_put_108 : decode b_Y_put 108 = .ok (.iload_n 3, 1) := by decide +kernel
theorem d_Y_put_109 : decode b_Y_put 109 = .ok (.invokevirtual 26, 3) := by decide +kernel
theorem d_Y_put_112 : decode b_Y_put 112 = .ok (.goto 10, 3) := by decide +kernel
theorem d_Y_put_115 : decode b_Y_put 115 = .ok (.aload_n 0, 1) := by decide +kernel
theorem d_Y_put_116 : decode b_Y_put 116 = .ok (.getfield 15, 3) := by decide +kernel
theorem d_Y_put_119 : decode b_Y_put 119 = .ok (.iload_n 3, 1) := by decide +kernel
theorem d_Y_put_120 : decode b_Y_put 120 = .ok (.iload_n 2, 1) := by decide +kernel
theorem d_Y_put_121 : decode b_Y_put 121 = .ok (.iastore, 1) := by decide +kernel
set_option maxHeartbeats 4000000 in
set_option maxRecDepth 100000 in
theorem lp_Y_put {p : Program} {l : Launch} {e : Env} {R : Room} {s : State} {m : MethodId} {args : Array Value} {below : List Frame} {meth : Method} {c : Code} {Q : State → Prop} {D : mp_G} {g : Nat → ClassId} {A : Nat → Prop} {cells slots : Nat} {S : mp_M} {H : Heap} {locs : List Loc} (hx : p.tables.exec = Jvm.exec) (hb : c.code = b_Y_put) (hml : c.maxLocals = 6) (hg : ∀ w ∈ gw, w.before args s = true) (hown : s.vm.findClass R_Y = some m.cls) (hK : mp_K D classes (tys g) s) {o ka na T cap z key x : Nat} {kf nf : Nat → Int32} {K : Nat → Nat} (h_o : S o = some (T, .inr (3, [.ref ka, .ref na, .int (nI z)]))) (h_ka : S ka = some ((T + 1), .inl ((g 0), cap, .inl kf))) (h_na : S na = some ((T + 2), .inl ((g 0), cap, .inl nf))) (hI : mp_I D classes A s.heap S H locs) (hk9 : ∀ i, i < z → kf i = nI (K i) ∧ K i < 131072) (hz : z ≤ cap) (hcap : cap ≤ 2048) (hkey : key < 131072) : ∀ (k i : Nat) (ls : Array Slot), i + k = z → (∀ j, j < i → key < K j) → lv_has ls 6 [(3, .int (nI i)), (2, .int (nI x)), (1, .int (nI key)), (0, .ref o)] → (∀ (sp : Nat) (ls : Array Slot), sp ≤ z → (∀ j, j < sp → key < K j) → (sp < z → K sp ≤ key) → lv_has ls 6 [(3, .int (nI sp)), (2, .int (nI x)), (1, .int (nI key)), (0, .ref o)] → W p l e R s m args below meth c H locs cells slots Q (F0 m 26 ls [])) → W p l e R s m args below meth c H locs cells slots Q (F0 m 2 ls []) := by
  intro k
  induction k with
  | zero =>
    intro i ls hi hlo hl kx
    obtain rfl : i = z := by omega
    refine lv_iload_n hx hb d_Y_put_2 rfl (lv_at hl 0 rfl) ?_
    refine lv_aload_n hx hb d_Y_put_3 rfl (lv_at hl 3 rfl) ?_
    refine mp_get (C := R_Y) (T := F_Y) (N := 3) (v := .int (nI i)) hx hb hg i_Y hown hK.va hI h_o rfl 2 (by decide) (hg _ q_51) (fun _ h9 => h9) rfl d_Y_put_4 ?_
    refine lv_icmp_ge (tgt := 26) hx hb d_Y_put_7 (by decide) (fun _ => ?_) (fun h9 => absurd ((nI_leI (by omega) (by omega)).mpr (by omega)) h9)
    exact kx i ls (Nat.le_refl _) hlo (fun h9 => absurd h9 (Nat.lt_irrefl _)) hl
  | succ k ih =>
    intro i ls hi hlo hl kx
    obtain ⟨k1, k2⟩ := hk9 i (by omega)
    refine lv_iload_n hx hb d_Y_put_2 rfl (lv_at hl 0 rfl) ?_
    refine lv_aload_n hx hb d_Y_put_3 rfl (lv_at hl 3 rfl) ?_
    refine mp_get (C := R_Y) (T := F_Y) (N := 3) (v := .int (nI z)) hx hb hg i_Y hown hK.va hI h_o rfl 2 (by decide) (hg _ q_51) (fun _ h9 => h9) rfl d_Y_put_4 ?_
    refine lv_icmp_ge (tgt := 26) hx hb d_Y_put_7 (by decide) (fun h9 => absurd h9 (by rw [nI_leI (by omega) (by omega)]; omega)) (fun _ => ?_)
    refine lv_aload_n hx hb d_Y_put_10 rfl (lv_at hl 3 rfl) ?_
    refine mp_get (C := R_Y) (T := F_Y) (N := 3) (v := .ref ka) hx hb hg i_Y hown hK.va hI h_o rfl 0 (by decide) (hg _ q_45) (fun _ h9 => h9) rfl d_Y_put_11 ?_
    refine lv_iload_n hx hb d_Y_put_14 rfl (lv_at hl 0 rfl) ?_
    refine mp_iald hx hb hK.va hI 0 h_ka rfl (vp_in_nI (show i < cap by omega) (by omega)) d_Y_put_15 ?_
    refine lv_topi (fun v1 ev1 => ?_)
    obtain rfl : v1 = nI (K i) := ev1.trans (by rw [nI_clamp (by omega)]; exact k1)
    refine lv_iload_n hx hb d_Y_put_16 rfl (lv_at hl 2 rfl) ?_
    refine lv_icmp_le (tgt := 26) hx hb d_Y_put_17 (by decide) (fun c1 => ?_) (fun c1 => ?_)
    · rw [nI_leI (by omega) (by omega)] at c1
      exact kx i ls (by omega) hlo (fun _ => c1) hl
    · rw [nI_leI (by omega) (by omega)] at c1
      refine lv_iinc (v := nI (i + 1)) (lv' := [(3, .int (nI (i + 1))), (2, .int (nI x)), (1, .int (nI key)), (0, .ref o)]) hx hb d_Y_put_20 hl (k := 0) rfl (nI_1 _) (by decide) rfl (fun ls hl => ?_)
      refine lv_goto (tgt := 2) hx hb d_Y_put_23 (by decide) ?_
      exact ih (i + 1) ls (by omega) (fun j hj => by by_cases e9 : j = i; (subst e9; omega); exact hlo j (by omega)) (lv_sub hl [0, 1, 2, 3] rfl) kx
set_option maxHeartbeats 4000000 in
set_option maxRecDepth 100000 in
/-- a number put at a key -/
theorem c_Y_put (l : Launch) (D : mp_G) (g : Nat → ClassId) (S : mp_M) (sz : Nat) (o ka na T cap z key x : Nat) (kf nf : Nat → Int32) (c : Nat → Nat) (h_o : S o = some (T, .inr (3, [.ref ka, .ref na, .int (nI z)]))) (h_ka : S ka = some ((T + 1), .inl ((g 0), cap, .inl kf))) (h_na : S na = some ((T + 2), .inl ((g 0), cap, .inl nf))) (hp : pY z kf nf c) (hz : z ≤ cap) (hcap : cap ≤ 2048) (hc4 : 4 ≤ cap) (hz2 : z ≤ 1000) (hkey : key < 131072) (hx9 : x < 32003) : Met l y_Y_put w_Y_put ({ frames := 3, cells := 2, slots := 4096, locals := 104 }) (va_Pc [.ref o, .int (nI key), .int (nI x)] (mp_B0 D classes (tys g) S sz)) (va_Qi (fun (r : Int32) (S1 : mp_M) => ((c key = x ∧ r = 0) ∨ (c key ≠ x ∧ r = 1)) ∧ ∃ (ka1 na1 cap1 z1 : Nat) (kf1 nf1 : Nat → Int32), S1 o = some (T, .inr (3, [.ref ka1, .ref na1, .int (nI z1)])) ∧ S1 ka1 = some ((T + 1), .inl ((g 0), cap1, .inl kf1)) ∧ S1 na1 = some ((T + 2), .inl ((g 0), cap1, .inl nf1)) ∧ pY z1 kf1 nf1 (va_up c key x) ∧ z1 ≤ cap1 ∧ 4 ≤ cap1 ∧ cap1 ≤ 2048 ∧ (∀ b, S b ≠ none → b ≠ o → b ≠ ka → b ≠ na → S1 b = S b)) (mp_B1 D classes S sz) (mp_A S sz)) 2 4096 (mp_A S sz) := by
  refine Met.ofW (cc := b_Y_put) (maxL := 6) (ret := (some .boolean)) (by decide) rfl ?_
  intro p e s m args below meth cd s₁ B hml hv
  obtain ⟨rfl, hsz, hH, hK⟩ := hv
  have hx := B.exec
  have hb := B.bytes
  have hr := B.returns
  have hts := atoms_spec (ws := w_Y_put) B.pre
  have hg : ∀ w ∈ gw, w.before _ s = true := fun w h => hts w (List.mem_cons_of_mem _ h)
  have hown : s.vm.findClass R_Y = some m.cls := findClass_of_methodNamed B.named
  have hlocks := B.notSynchronized
  subst hsz
  have hI := mp_I.start hH
  have hl := lv_entry ([.ref o, .int (nI key), .int (nI x)]) (n := 6) (Nat.le_of_ble_eq_true rfl)
  rw [lg_entry_eq]
  generalize (lg_sl ([.ref o, .int (nI key), .int (nI x)]) ++ List.replicate (6 - (lg_sl ([.ref o, .int (nI key), .int (nI x)])).length) Slot.unset).toArray = ls at hl ⊢
  have hl : lv_has ls 6 [(0, .ref o), (1, .int (nI key)), (2, .int (nI x))] := hl
  obtain ⟨K, X, h1, h2, h3⟩ := hp
  refine lv_iconst (v := nI 0) hx hb d_Y_put_0 (by decide) ?_
  refine lv_istore_n (lv' := [(3, .int (nI 0)), (0, .ref o), (1, .int (nI key)), (2, .int (nI x))]) hx hb d_Y_put_1 rfl hl (by decide) rfl (fun ls hl => ?_)
  refine lp_Y_put (K := K) hx hb hml hg hown hK h_o h_ka h_na hI (fun i hi => ⟨(h1 i hi).1, (h1 i hi).2.2.1⟩) hz hcap hkey z 0 ls (by omega) (fun j hj => absurd hj (Nat.not_lt_zero j)) (lv_sub hl [0, 3, 2, 1] rfl) (fun sp ls hsp hlo hhi hl => ?_)
  have hfr : ∀ b, S b ≠ none → b ≠ o → b ≠ ka → b ≠ na → S b = S b := fun _ _ _ _ _ => rfl
  have cz : ∀ k, (∀ i, i < z → K i ≠ k) → c k = 0 := fun k hn => Classical.byContradiction fun q => by obtain ⟨i, hi, e⟩ := h3 k q; exact hn i hi e
  by_cases hpr : sp < z ∧ K sp = key
  · obtain ⟨hsz, rfl⟩ := hpr
    obtain ⟨g1, g2, g3, g4, g5, g6⟩ := h1 sp hsz
    refine lv_iload_n hx hb d_Y_put_26 rfl (lv_at hl 0 rfl) ?_
    refine lv_aload_n hx hb d_Y_put_27 rfl (lv_at hl 3 rfl) ?_
    refine mp_get (C := R_Y) (T := F_Y) (N := 3) (v := .int (nI z)) hx hb hg i_Y hown hK.va hI h_o rfl 2 (by decide) (hg _ q_51) (fun _ h9 => h9) rfl d_Y_put_28 ?_
    refine lv_icmp_ge (tgt := 48) hx hb d_Y_put_31 (by decide) (fun h9 => absurd h9 (by rw [nI_leI (by omega) (by omega)]; omega)) (fun _ => ?_)
    refine lv_aload_n hx hb d_Y_put_34 rfl (lv_at hl 3 rfl) ?_
    refine mp_get (C := R_Y) (T := F_Y) (N := 3) (v := .ref ka) hx hb hg i_Y hown hK.va hI h_o rfl 0 (by decide) (hg _ q_45) (fun _ h9 => h9) rfl d_Y_put_35 ?_
    refine lv_iload_n hx hb d_Y_put_38 rfl (lv_at hl 0 rfl) ?_
    refine mp_iald hx hb hK.va hI 0 h_ka rfl (vp_in_nI (show sp < cap by omega) (by omega)) d_Y_put_39 ?_
    refine lv_topi (fun v1 ev1 => ?_)
    obtain rfl : v1 = nI (K sp) := ev1.trans (by rw [nI_clamp (by omega)]; exact g1)
    refine lv_iload_n hx hb d_Y_put_40 rfl (lv_at hl 2 rfl) ?_
    refine lv_icmp_ne (tgt := 48) hx hb d_Y_put_41 (by decide) (fun h9 => absurd h9 (fun h9 => h9 rfl)) (fun _ => ?_)
    refine lv_iconst (v := nI 1) hx hb d_Y_put_44 (by decide) ?_
    refine lv_goto (tgt := 49) hx hb d_Y_put_45 (by decide) ?_
    refine lv_istore (lv' := [(4, .int (nI 1)), (3, .int (nI sp)), (2, .int (nI x)), (1, .int (nI (K sp))), (0, .ref o)]) hx hb d_Y_put_49 hl (by decide) rfl (fun ls hl => ?_)
    refine lv_iload hx hb d_Y_put_51 (lv_at hl 0 rfl) ?_
    refine lv_if_eq (tgt := 65) hx hb d_Y_put_53 (by decide) (fun h9 => absurd h9 (by decide)) (fun _ => ?_)
    refine lv_aload_n hx hb d_Y_put_56 rfl (lv_at hl 4 rfl) ?_
    refine mp_get (C := R_Y) (T := F_Y) (N := 3) (v := .ref na) hx hb hg i_Y hown hK.va hI h_o rfl 1 (by decide) (hg _ q_48) (fun _ h9 => h9) rfl d_Y_put_57 ?_
    refine lv_iload_n hx hb d_Y_put_60 rfl (lv_at hl 1 rfl) ?_
    refine mp_iald hx hb hK.va hI 0 h_na rfl (vp_in_nI (show sp < cap by omega) (by omega)) d_Y_put_61 ?_
    refine lv_topi (fun v2 ev2 => ?_)
    obtain rfl : v2 = nI (X sp) := ev2.trans (by rw [nI_clamp (by omega)]; exact g2)
    refine lv_goto (tgt := 66) hx hb d_Y_put_62 (by decide) ?_
    refine lv_istore (lv' := [(5, .int (nI (X sp))), (4, .int (nI 1)), (3, .int (nI sp)), (2, .int (nI x)), (1, .int (nI (K sp))), (0, .ref o)]) hx hb d_Y_put_66 hl (by decide) rfl (fun ls hl => ?_)
    refine lv_iload hx hb d_Y_put_68 (lv_at hl 0 rfl) ?_
    refine lv_iload_n hx hb d_Y_put_70 rfl (lv_at hl 3 rfl) ?_
    refine lv_icmp_ne (tgt := 76) hx hb d_Y_put_71 (by decide) (fun c1 => ?_) (fun c1 => ?_)
    · rw [nI_eq (by omega) (by omega)] at c1
      refine lv_iload hx hb d_Y_put_76 (lv_at hl 1 rfl) ?_
      refine lv_if_ne (tgt := 103) hx hb d_Y_put_78 (by decide) (fun _ => ?_) (fun h9 => absurd h9 (by decide))
      refine lv_iload_n hx hb d_Y_put_103 rfl (lv_at hl 3 rfl) ?_
      refine lv_if_ne (tgt := 115) hx hb d_Y_put_104 (by decide) (fun c2 => ?_) (fun c2 => ?_)
      · rw [zI_eq (by omega)] at c2
        refine lv_aload_n hx hb d_Y_put_115 rfl (lv_at hl 5 rfl) ?_
        refine mp_get (C := R_Y) (T := F_Y) (N := 3) (v := .ref na) hx hb hg i_Y hown hK.va hI h_o rfl 1 (by decide) (hg _ q_48) (fun _ h9 => h9) rfl d_Y_put_116 ?_
        refine lv_iload_n hx hb d_Y_put_119 rfl (lv_at hl 2 rfl) ?_
        refine lv_iload_n hx hb d_Y_put_120 rfl (lv_at hl 3 rfl) ?_
        refine mp_iast hx hb hK.va hI 0 h_na rfl (vp_in_nI (show sp < cap by omega) (by omega)) d_Y_put_121 (fun S3 H4 locs e_5 hI => ?_)
        have e_5 : S3 = va_up S na (some ((T + 2), .inl ((g 0), cap, .inl (upd nf (nI sp).toNatClampNeg (nI x))))) := e_5
        have h_o : S3 o = some (T, .inr (3, [.ref ka, .ref na, .int (nI z)])) := by rw [e_5]; exact mp_keep h_o h_na (by omega)
        have h_ka : S3 ka = some ((T + 1), .inl ((g 0), cap, .inl kf)) := by rw [e_5]; exact mp_keep h_ka h_na (by omega)
        have h_na : S3 na = some ((T + 2), .inl ((g 0), cap, .inl (upd nf (nI sp).toNatClampNeg (nI x)))) := by rw [e_5]; exact mp_us _ _ _
        have hfr : ∀ b, S b ≠ none → b ≠ o → b ≠ ka → b ≠ na → S3 b = S b := fun b h9 k0 k1 k2 => by rw [e_5]; exact (mp_un k2).trans (hfr b h9 k0 k1 k2)
        rw [nI_clamp (by omega)] at h_na
        refine lv_iconst (v := nI 1) hx hb d_Y_put_122 (by decide) ?_
        refine mp_zret hx hb hr hlocks hI (Nat.le_of_ble_eq_true rfl) (Nat.le_of_ble_eq_true rfl) ?_ (by decide) d_Y_put_123
        exact ⟨Or.inr ⟨fun h9 => c1 (g6.symm.trans h9), rfl⟩, ka, na, cap, z, kf, _, h_o, h_ka, h_na, pY_set h1 h2 h3 hsz (by omega) hx9, hz, hc4, hcap, hfr⟩
      · rw [zI_eq (by omega)] at c2
        have c2 : x = 0 := by omega
        obtain ⟨z9, rfl⟩ : ∃ z9, z = z9 + 1 := ⟨z - 1, by omega⟩
        refine lv_aload_n hx hb d_Y_put_107 rfl (lv_at hl 5 rfl) ?_
        refine lv_iload_n hx hb d_Y_put_108 rfl (lv_at hl 2 rfl) ?_
        refine mp_callv hI (va_runV (As := [.int (nI sp)]) (rest := []) ⟨hx, hb, hml, hown, hg⟩ (c_Y_closeUp l D g S _ o ka na T cap z9 sp kf nf h_o h_ka h_na (by omega) hcap (by omega)) ⟨(callB_of 1 hg (wd_goodG q_715) rfl rfl rfl (hg _ q_3) (hg _ q_712) (by decide +kernel) ⟨Nat.le_of_ble_eq_true rfl, Nat.le_of_ble_eq_true rfl⟩), hg _ q_714, hg _ qs_22⟩ (mp_preV (C := R_Y) (T := F_Y) hI hK h_o rfl [.int (nI sp)]) rfl rfl hl.1 rfl (lv_room (Nat.le_of_ble_eq_true rfl)) d_Y_put_109 ⟨Nat.le_of_ble_eq_true rfl, Nat.le_of_ble_eq_true rfl⟩) (fun S6 H7 locs p_8 hI => ?_)
        obtain ⟨q_o, q_ka, q_na, fq⟩ := p_8
        subst c2
        have hfr : ∀ b, S b ≠ none → b ≠ o → b ≠ ka → b ≠ na → S6 b = S b := fq
        refine lv_goto (tgt := 122) hx hb d_Y_put_112 (by decide) ?_
        refine lv_iconst (v := nI 1) hx hb d_Y_put_122 (by decide) ?_
        refine mp_zret hx hb hr hlocks hI (Nat.le_of_ble_eq_true rfl) (Nat.le_of_ble_eq_true rfl) ?_ (by decide) d_Y_put_123
        exact ⟨Or.inr ⟨fun h9 => c1 (g6.symm.trans h9), rfl⟩, ka, na, cap, z9, _, _, q_o, q_ka, q_na, pY_del h1 h2 h3 (by omega), by omega, hc4, hcap, hfr⟩
    · rw [nI_eq (by omega) (by omega)] at c1
      refine lv_iconst (v := nI 0) hx hb d_Y_put_74 (by decide) ?_
      have hup : va_up c (K sp) x = c := by funext k; by_cases e : k = K sp; (rw [e, up_s, g6]; omega); exact up_n e
      refine mp_zret hx hb hr hlocks hI (Nat.le_of_ble_eq_true rfl) (Nat.le_of_ble_eq_true rfl) ?_ (by decide) d_Y_put_75
      exact ⟨Or.inl ⟨g6.trans c1, rfl⟩, ⟨ka, na, cap, z, kf, nf, h_o, h_ka, h_na, by rw [hup]; exact ⟨K, X, h1, h2, h3⟩, hz, hc4, hcap, hfr⟩⟩
  · have hc0 : c key = 0 := cz key fun i hi e => by
      rcases Nat.lt_trichotomy i sp with q | q | q
      · have := hlo i q; omega
      · subst q; exact hpr ⟨hi, e⟩
      · have := h2 sp i q hi; have := hhi (by omega); omega
    have hhi2 : sp < z → K sp < key := fun q => Nat.lt_of_le_of_ne (hhi q) (fun e => hpr ⟨q, e⟩)
    refine lv_iload_n hx hb d_Y_put_26 rfl (lv_at hl 0 rfl) ?_
    refine lv_aload_n hx hb d_Y_put_27 rfl (lv_at hl 3 rfl) ?_
    refine mp_get (C := R_Y) (T := F_Y) (N := 3) (v := .int (nI z)) hx hb hg i_Y hown hK.va hI h_o rfl 2 (by decide) (hg _ q_51) (fun _ h9 => h9) rfl d_Y_put_28 ?_
    refine lv_icmp_ge (tgt := 48) hx hb d_Y_put_31 (by decide) (fun c3 => ?_) (fun c3 => ?_)
    · rw [nI_leI (by omega) (by omega)] at c3
      refine lv_iconst (v := nI 0) hx hb d_Y_put_48 (by decide) ?_
      refine lv_istore (lv' := [(4, .int (nI 0)), (3, .int (nI sp)), (2, .int (nI x)), (1, .int (nI key)), (0, .ref o)]) hx hb d_Y_put_49 hl (by decide) rfl (fun ls hl => ?_)
      refine lv_iload hx hb d_Y_put_51 (lv_at hl 0 rfl) ?_
      refine lv_if_eq (tgt := 65) hx hb d_Y_put_53 (by decide) (fun _ => ?_) (fun h9 => absurd (by decide) h9)
      refine lv_iconst (v := nI 0) hx hb d_Y_put_65 (by decide) ?_
      refine lv_istore (lv' := [(5, .int (nI 0)), (4, .int (nI 0)), (3, .int (nI sp)), (2, .int (nI x)), (1, .int (nI key)), (0, .ref o)]) hx hb d_Y_put_66 hl (by decide) rfl (fun ls hl => ?_)
      refine lv_iload hx hb d_Y_put_68 (lv_at hl 0 rfl) ?_
      refine lv_iload_n hx hb d_Y_put_70 rfl (lv_at hl 3 rfl) ?_
      refine lv_icmp_ne (tgt := 76) hx hb d_Y_put_71 (by decide) (fun c1 => ?_) (fun c1 => ?_)
      · rw [nI_eq (by omega) (by omega)] at c1
        refine lv_iload hx hb d_Y_put_76 (lv_at hl 1 rfl) ?_
        refine lv_if_ne (tgt := 103) hx hb d_Y_put_78 (by decide) (fun h9 => absurd h9 (by decide)) (fun _ => ?_)
        refine lv_aload_n hx hb d_Y_put_81 rfl (lv_at hl 5 rfl) ?_
        refine lv_iload_n hx hb d_Y_put_82 rfl (lv_at hl 2 rfl) ?_
        refine mp_callv hI (va_runV (As := [.int (nI sp)]) (rest := []) ⟨hx, hb, hml, hown, hg⟩ (c_Y_makeRoom l D g S _ o ka na T cap z sp kf nf h_o h_ka h_na hz hcap hc4 hz2 hsp) ⟨(callB_of 1 hg (wd_goodG q_699) rfl rfl rfl (hg _ q_3) (hg _ q_696) (by decide +kernel) ⟨Nat.le_of_ble_eq_true rfl, Nat.le_of_ble_eq_true rfl⟩), hg _ q_698, hg _ qs_21⟩ (mp_preV (C := R_Y) (T := F_Y) hI hK h_o rfl [.int (nI sp)]) rfl rfl hl.1 rfl (lv_room (Nat.le_of_ble_eq_true rfl)) d_Y_put_83 ⟨Nat.le_of_ble_eq_true rfl, Nat.le_of_ble_eq_true rfl⟩) (fun S10 H11 locs p_12 hI => ?_)
        obtain ⟨ka1, na1, cap1, kf1, nf1, q_o, q_ka, q_na, hz1, hc1, hc2, m1, m2, m3, m4, fq, nq⟩ := p_12
        have hfr : ∀ b, S b ≠ none → b ≠ o → b ≠ ka → b ≠ na → S10 b = S b := fq
        refine lv_aload_n hx hb d_Y_put_86 rfl (lv_at hl 5 rfl) ?_
        refine mp_get (C := R_Y) (T := F_Y) (N := 3) (v := .ref ka1) hx hb hg i_Y hown hK.va hI q_o rfl 0 (by decide) (hg _ q_45) (fun _ h9 => h9) rfl d_Y_put_87 ?_
        refine lv_iload_n hx hb d_Y_put_90 rfl (lv_at hl 2 rfl) ?_
        refine lv_iload_n hx hb d_Y_put_91 rfl (lv_at hl 4 rfl) ?_
        refine mp_iast hx hb hK.va hI 0 q_ka rfl (vp_in_nI (show sp < cap1 by omega) (by omega)) d_Y_put_92 (fun S14 H15 locs e_16 hI => ?_)
        have e_16 : S14 = va_up S10 ka1 (some ((T + 1), .inl ((g 0), cap1, .inl (upd kf1 (nI sp).toNatClampNeg (nI key))))) := e_16
        have q_o : S14 o = some (T, .inr (3, [.ref ka1, .ref na1, .int (nI (z + 1))])) := by rw [e_16]; exact mp_keep q_o q_ka (by omega)
        have q_na : S14 na1 = some ((T + 2), .inl ((g 0), cap1, .inl nf1)) := by rw [e_16]; exact mp_keep q_na q_ka (by omega)
        have q_ka : S14 ka1 = some ((T + 1), .inl ((g 0), cap1, .inl (upd kf1 (nI sp).toNatClampNeg (nI key)))) := by rw [e_16]; exact mp_us _ _ _
        rw [nI_clamp (by omega)] at q_ka
        have hfr : ∀ b, S b ≠ none → b ≠ o → b ≠ ka → b ≠ na → S14 b = S b := fun b h9 k0 k1 k2 => by rw [e_16]; exact (mp_un (nq b h9 k0 k1 k2).1).trans (hfr b h9 k0 k1 k2)
        refine lv_aload_n hx hb d_Y_put_93 rfl (lv_at hl 5 rfl) ?_
        refine mp_get (C := R_Y) (T := F_Y) (N := 3) (v := .ref na1) hx hb hg i_Y hown hK.va hI q_o rfl 1 (by decide) (hg _ q_48) (fun _ h9 => h9) rfl d_Y_put_94 ?_
        refine lv_iload_n hx hb d_Y_put_97 rfl (lv_at hl 2 rfl) ?_
        refine lv_iload_n hx hb d_Y_put_98 rfl (lv_at hl 3 rfl) ?_
        refine mp_iast hx hb hK.va hI 0 q_na rfl (vp_in_nI (show sp < cap1 by omega) (by omega)) d_Y_put_99 (fun S17 H18 locs e_19 hI => ?_)
        have e_19 : S17 = va_up S14 na1 (some ((T + 2), .inl ((g 0), cap1, .inl (upd nf1 (nI sp).toNatClampNeg (nI x))))) := e_19
        have q_o : S17 o = some (T, .inr (3, [.ref ka1, .ref na1, .int (nI (z + 1))])) := by rw [e_19]; exact mp_keep q_o q_na (by omega)
        have q_ka : S17 ka1 = some ((T + 1), .inl ((g 0), cap1, .inl (upd kf1 sp (nI key)))) := by rw [e_19]; exact mp_keep q_ka q_na (by omega)
        have q_na : S17 na1 = some ((T + 2), .inl ((g 0), cap1, .inl (upd nf1 (nI sp).toNatClampNeg (nI x)))) := by rw [e_19]; exact mp_us _ _ _
        rw [nI_clamp (by omega)] at q_na
        have hfr : ∀ b, S b ≠ none → b ≠ o → b ≠ ka → b ≠ na → S17 b = S b := fun b h9 k0 k1 k2 => by rw [e_19]; exact (mp_un (nq b h9 k0 k1 k2).2).trans (hfr b h9 k0 k1 k2)
        refine lv_goto (tgt := 122) hx hb d_Y_put_100 (by decide) ?_
        refine lv_iconst (v := nI 1) hx hb d_Y_put_122 (by decide) ?_
        refine mp_zret hx hb hr hlocks hI (Nat.le_of_ble_eq_true rfl) (Nat.le_of_ble_eq_true rfl) ?_ (by decide) d_Y_put_123
        exact ⟨Or.inr ⟨fun h9 => c1 (by omega), rfl⟩, ka1, na1, cap1, z + 1, _, _, q_o, q_ka, q_na, pY_ins h1 h2 h3 hsp hlo hhi2 hkey (by omega) hx9 m1 m2 m3 m4, by omega, hc1, hc2, hfr⟩
      · rw [nI_eq (by omega) (by omega)] at c1
        refine lv_iconst (v := nI 0) hx hb d_Y_put_74 (by decide) ?_
        have hup : va_up c key x = c := by funext k; by_cases e : k = key; (rw [e, up_s, hc0]; omega); exact up_n e
        refine mp_zret hx hb hr hlocks hI (Nat.le_of_ble_eq_true rfl) (Nat.le_of_ble_eq_true rfl) ?_ (by decide) d_Y_put_75
        exact ⟨Or.inl ⟨hc0.trans (by omega), rfl⟩, ⟨ka, na, cap, z, kf, nf, h_o, h_ka, h_na, by rw [hup]; exact ⟨K, X, h1, h2, h3⟩, hz, hc4, hcap, hfr⟩⟩
    · rw [nI_leI (by omega) (by omega)] at c3
      refine lv_aload_n hx hb d_Y_put_34 rfl (lv_at hl 3 rfl) ?_
      refine mp_get (C := R_Y) (T := F_Y) (N := 3) (v := .ref ka) hx hb hg i_Y hown hK.va hI h_o rfl 0 (by decide) (hg _ q_45) (fun _ h9 => h9) rfl d_Y_put_35 ?_
      refine lv_iload_n hx hb d_Y_put_38 rfl (lv_at hl 0 rfl) ?_
      refine mp_iald hx hb hK.va hI 0 h_ka rfl (vp_in_nI (show sp < cap by omega) (by omega)) d_Y_put_39 ?_
      refine lv_topi (fun v20 ev20 => ?_)
      obtain rfl : v20 = nI (K sp) := ev20.trans (by rw [nI_clamp (by omega)]; exact (h1 sp (by omega)).1)
      refine lv_iload_n hx hb d_Y_put_40 rfl (lv_at hl 2 rfl) ?_
      have g3 := (h1 sp (by omega)).2.2.1
      refine lv_icmp_ne (tgt := 48) hx hb d_Y_put_41 (by decide) (fun _ => ?_) (fun h9 => absurd h9 (fun h9 => hpr ⟨by omega, (nI_eq (by omega) (by omega)).mp h9⟩))
      refine lv_iconst (v := nI 0) hx hb d_Y_put_48 (by decide) ?_
      refine lv_istore (lv' := [(4, .int (nI 0)), (3, .int (nI sp)), (2, .int (nI x)), (1, .int (nI key)), (0, .ref o)]) hx hb d_Y_put_49 hl (by decide) rfl (fun ls hl => ?_)
      refine lv_iload hx hb d_Y_put_51 (lv_at hl 0 rfl) ?_
      refine lv_if_eq (tgt := 65) hx hb d_Y_put_53 (by decide) (fun _ => ?_) (fun h9 => absurd (by decide) h9)
      refine lv_iconst (v := nI 0) hx hb d_Y_put_65 (by decide) ?_
      refine lv_istore (lv' := [(5, .int (nI 0)), (4, .int (nI 0)), (3, .int (nI sp)), (2, .int (nI x)), (1, .int (nI key)), (0, .ref o)]) hx hb d_Y_put_66 hl (by decide) rfl (fun ls hl => ?_)
      refine lv_iload hx hb d_Y_put_68 (lv_at hl 0 rfl) ?_
      refine lv_iload_n hx hb d_Y_put_70 rfl (lv_at hl 3 rfl) ?_
      refine lv_icmp_ne (tgt := 76) hx hb d_Y_put_71 (by decide) (fun c1 => ?_) (fun c1 => ?_)
      · rw [nI_eq (by omega) (by omega)] at c1
        refine lv_iload hx hb d_Y_put_76 (lv_at hl 1 rfl) ?_
        refine lv_if_ne (tgt := 103) hx hb d_Y_put_78 (by decide) (fun h9 => absurd h9 (by decide)) (fun _ => ?_)
        refine lv_aload_n hx hb d_Y_put_81 rfl (lv_at hl 5 rfl) ?_
        refine lv_iload_n hx hb d_Y_put_82 rfl (lv_at hl 2 rfl) ?_
        refine mp_callv hI (va_runV (As := [.int (nI sp)]) (rest := []) ⟨hx, hb, hml, hown, hg⟩ (c_Y_makeRoom l D g S _ o ka na T cap z sp kf nf h_o h_ka h_na hz hcap hc4 hz2 hsp) ⟨(callB_of 1 hg (wd_goodG q_699) rfl rfl rfl (hg _ q_3) (hg _ q_696) (by decide +kernel) ⟨Nat.le_of_ble_eq_true rfl, Nat.le_of_ble_eq_true rfl⟩), hg _ q_698, hg _ qs_21⟩ (mp_preV (C := R_Y) (T := F_Y) hI hK h_o rfl [.int (nI sp)]) rfl rfl hl.1 rfl (lv_room (Nat.le_of_ble_eq_true rfl)) d_Y_put_83 ⟨Nat.le_of_ble_eq_true rfl, Nat.le_of_ble_eq_true rfl⟩) (fun S21 H22 locs p_23 hI => ?_)
        obtain ⟨ka1, na1, cap1, kf1, nf1, q_o, q_ka, q_na, hz1, hc1, hc2, m1, m2, m3, m4, fq, nq⟩ := p_23
        have hfr : ∀ b, S b ≠ none → b ≠ o → b ≠ ka → b ≠ na → S21 b = S b := fq
        refine lv_aload_n hx hb d_Y_put_86 rfl (lv_at hl 5 rfl) ?_
        refine mp_get (C := R_Y) (T := F_Y) (N := 3) (v := .ref ka1) hx hb hg i_Y hown hK.va hI q_o rfl 0 (by decide) (hg _ q_45) (fun _ h9 => h9) rfl d_Y_put_87 ?_
        refine lv_iload_n hx hb d_Y_put_90 rfl (lv_at hl 2 rfl) ?_
        refine lv_iload_n hx hb d_Y_put_91 rfl (lv_at hl 4 rfl) ?_
        refine mp_iast hx hb hK.va hI 0 q_ka rfl (vp_in_nI (show sp < cap1 by omega) (by omega)) d_Y_put_92 (fun S25 H26 locs e_27 hI => ?_)
        have e_27 : S25 = va_up S21 ka1 (some ((T + 1), .inl ((g 0), cap1, .inl (upd kf1 (nI sp).toNatClampNeg (nI key))))) := e_27
        have q_o : S25 o = some (T, .inr (3, [.ref ka1, .ref na1, .int (nI (z + 1))])) := by rw [e_27]; exact mp_keep q_o q_ka (by omega)
        have q_na : S25 na1 = some ((T + 2), .inl ((g 0), cap1, .inl nf1)) := by rw [e_27]; exact mp_keep q_na q_ka (by omega)
        have q_ka : S25 ka1 = some ((T + 1), .inl ((g 0), cap1, .inl (upd kf1 (nI sp).toNatClampNeg (nI key)))) := by rw [e_27]; exact mp_us _ _ _
        rw [nI_clamp (by omega)] at q_ka
        have hfr : ∀ b, S b ≠ none → b ≠ o → b ≠ ka → b ≠ na → S25 b = S b := fun b h9 k0 k1 k2 => by rw [e_27]; exact (mp_un (nq b h9 k0 k1 k2).1).trans (hfr b h9 k0 k1 k2)
        refine lv_aload_n hx hb d_Y_put_93 rfl (lv_at hl 5 rfl) ?_
        refine mp_get (C := R_Y) (T := F_Y) (N := 3) (v := .ref na1) hx hb hg i_Y hown hK.va hI q_o rfl 1 (by decide) (hg _ q_48) (fun _ h9 => h9) rfl d_Y_put_94 ?_
        refine lv_iload_n hx hb d_Y_put_97 rfl (lv_at hl 2 rfl) ?_
        refine lv_iload_n hx hb d_Y_put_98 rfl (lv_at hl 3 rfl) ?_
        refine mp_iast hx hb hK.va hI 0 q_na rfl (vp_in_nI (show sp < cap1 by omega) (by omega)) d_Y_put_99 (fun S28 H29 locs e_30 hI => ?_)
        have e_30 : S28 = va_up S25 na1 (some ((T + 2), .inl ((g 0), cap1, .inl (upd nf1 (nI sp).toNatClampNeg (nI x))))) := e_30
        have q_o : S28 o = some (T, .inr (3, [.ref ka1, .ref na1, .int (nI (z + 1))])) := by rw [e_30]; exact mp_keep q_o q_na (by omega)
        have q_ka : S28 ka1 = some ((T + 1), .inl ((g 0), cap1, .inl (upd kf1 sp (nI key)))) := by rw [e_30]; exact mp_keep q_ka q_na (by omega)
        have q_na : S28 na1 = some ((T + 2), .inl ((g 0), cap1, .inl (upd nf1 (nI sp).toNatClampNeg (nI x)))) := by rw [e_30]; exact mp_us _ _ _
        rw [nI_clamp (by omega)] at q_na
        have hfr : ∀ b, S b ≠ none → b ≠ o → b ≠ ka → b ≠ na → S28 b = S b := fun b h9 k0 k1 k2 => by rw [e_30]; exact (mp_un (nq b h9 k0 k1 k2).2).trans (hfr b h9 k0 k1 k2)
        refine lv_goto (tgt := 122) hx hb d_Y_put_100 (by decide) ?_
        refine lv_iconst (v := nI 1) hx hb d_Y_put_122 (by decide) ?_
        refine mp_zret hx hb hr hlocks hI (Nat.le_of_ble_eq_true rfl) (Nat.le_of_ble_eq_true rfl) ?_ (by decide) d_Y_put_123
        exact ⟨Or.inr ⟨fun h9 => c1 (by omega), rfl⟩, ka1, na1, cap1, z + 1, _, _, q_o, q_ka, q_na, pY_ins h1 h2 h3 hsp hlo hhi2 hkey (by omega) hx9 m1 m2 m3 m4, by omega, hc1, hc2, hfr⟩
      · rw [nI_eq (by omega) (by omega)] at c1
        refine lv_iconst (v := nI 0) hx hb d_Y_put_74 (by decide) ?_
        have hup : va_up c key x = c := by funext k; by_cases e : k = key; (rw [e, up_s, hc0]; omega); exact up_n e
        refine mp_zret hx hb hr hlocks hI (Nat.le_of_ble_eq_true rfl) (Nat.le_of_ble_eq_true rfl) ?_ (by decide) d_Y_put_75
        exact ⟨Or.inl ⟨hc0.trans (by omega), rfl⟩, ⟨ka, na, cap, z, kf, nf, h_o, h_ka, h_na, by rw [hup]; exact ⟨K, X, h1, h2, h3⟩, hz, hc4, hcap, hfr⟩⟩
