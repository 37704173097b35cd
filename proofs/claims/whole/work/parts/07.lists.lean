/-- n polynomials, their cells labelled from T0 on: object, keys, numbers -/
def yS (g : Nat → ClassId) (T0 n : Nat) (eo ek en cap sz : Nat → Nat) (kf nf : Nat → Nat → Int32) (S : mp_M) : Prop := ∀ j, j < n → S (eo j) = some (T0 + 3 * j, .inr (3, [.ref (ek j), .ref (en j), .int (nI (sz j))])) ∧ S (ek j) = some (T0 + 3 * j + 1, .inl (g 0, cap j, .inl (kf j))) ∧ S (en j) = some (T0 + 3 * j + 2, .inl (g 0, cap j, .inl (nf j)))
/-- n polynomials in one letter -/
def oS (g : Nat → ClassId) (T0 n : Nat) (eo ea : Nat → Nat) (dg : Nat → Int32) (f : Nat → Nat → Int32) (S : mp_M) : Prop := ∀ j, j < n → S (eo j) = some (T0 + 2 * j, .inr (1, [.ref (ea j), .int (dg j)])) ∧ S (ea j) = some (T0 + 2 * j + 1, .inl (g 0, 33, .inl (f j)))
/-- the first i places of an array of references -/
def rfs (eo : Nat → Nat) (i : Nat) : Nat → Option Nat := fun j => if j < i then some (eo j) else none
theorem rfs_push (eo : Nat → Nat) (i q : Nat) : va_up (rfs eo i) i (some q) = rfs (va_up eo i q) (i + 1) := by
  funext j
  unfold rfs va_up
  by_cases h : j = i
  · subst h; simp
  · by_cases h2 : j < i
    · simp [h, h2, Nat.lt_succ_of_lt h2]
    · simp [h, h2, show ¬ j < i + 1 by omega]
theorem rfs_0 (eo : Nat → Nat) : (fun _ => none) = rfs eo 0 := by funext j; unfold rfs; simp
theorem rfs_at {eo : Nat → Nat} {i j : Nat} (h : j < i) : rfs eo i j = some (eo j) := if_pos h
theorem yS_push {g : Nat → ClassId} {T0 i q a1 a2 : Nat} {eo ek en cap sz : Nat → Nat} {kf nf : Nat → Nat → Int32} {S S1 : mp_M} (h : yS g T0 i eo ek en cap sz kf nf S) (hk : ∀ b, S b ≠ none → S1 b = S b)
    (h1 : S1 q = some (T0 + 3 * i, .inr (3, [.ref a1, .ref a2, .int (nI (sz i))]))) (h2 : S1 a1 = some (T0 + 3 * i + 1, .inl (g 0, cap i, .inl (kf i)))) (h3 : S1 a2 = some (T0 + 3 * i + 2, .inl (g 0, cap i, .inl (nf i)))) :
    yS g T0 (i + 1) (va_up eo i q) (va_up ek i a1) (va_up en i a2) cap sz kf nf S1 := by
  intro j hj
  by_cases e : j = i
  · subst e
    rw [mp_us, mp_us, mp_us]
    exact ⟨h1, h2, h3⟩
  · rw [mp_un e, mp_un e, mp_un e]
    obtain ⟨g1, g2, g3⟩ := h j (by omega)
    exact ⟨(hk _ (mp_in g1)).trans g1, (hk _ (mp_in g2)).trans g2, (hk _ (mp_in g3)).trans g3⟩
theorem oS_push {g : Nat → ClassId} {T0 i q a1 : Nat} {eo ea : Nat → Nat} {dg : Nat → Int32} {f : Nat → Nat → Int32} {S S1 : mp_M} (h : oS g T0 i eo ea dg f S) (hk : ∀ b, S b ≠ none → S1 b = S b)
    (h1 : S1 q = some (T0 + 2 * i, .inr (1, [.ref a1, .int (dg i)]))) (h2 : S1 a1 = some (T0 + 2 * i + 1, .inl (g 0, 33, .inl (f i)))) : oS g T0 (i + 1) (va_up eo i q) (va_up ea i a1) dg f S1 := by
  intro j hj
  by_cases e : j = i
  · subst e
    rw [mp_us, mp_us]
    exact ⟨h1, h2⟩
  · rw [mp_un e, mp_un e]
    obtain ⟨g1, g2⟩ := h j (by omega)
    exact ⟨(hk _ (mp_in g1)).trans g1, (hk _ (mp_in g2)).trans g2⟩
theorem yS_kept {g : Nat → ClassId} {T0 n : Nat} {eo ek en cap sz : Nat → Nat} {kf nf : Nat → Nat → Int32} {S S1 : mp_M} (h : yS g T0 n eo ek en cap sz kf nf S) (hk : ∀ b t e, S b = some (t, e) → T0 ≤ t → t < T0 + 3 * n → S1 b = S b) : yS g T0 n eo ek en cap sz kf nf S1 := by
  intro j hj
  obtain ⟨g1, g2, g3⟩ := h j hj
  exact ⟨(hk _ _ _ g1 (by omega) (by omega)).trans g1, (hk _ _ _ g2 (by omega) (by omega)).trans g2, (hk _ _ _ g3 (by omega) (by omega)).trans g3⟩
theorem oS_kept {g : Nat → ClassId} {T0 n : Nat} {eo ea : Nat → Nat} {dg : Nat → Int32} {f : Nat → Nat → Int32} {S S1 : mp_M} (h : oS g T0 n eo ea dg f S) (hk : ∀ b t e, S b = some (t, e) → T0 ≤ t → t < T0 + 2 * n → S1 b = S b) : oS g T0 n eo ea dg f S1 := by
  intro j hj
  obtain ⟨g1, g2⟩ := h j hj
  exact ⟨(hk _ _ _ g1 (by omega) (by omega)).trans g1, (hk _ _ _ g2 (by omega) (by omega)).trans g2⟩
/-- how many letters: 1 below 1, 3 above 3 -/
def lcN (x : Int32) : Nat := if x < 1 then 1 else if 3 < x then 3 else x.toNatClampNeg
theorem lc_cases (x : Int32) : (x < 1 ∧ lcN x = 1) ∨ (3 < x ∧ lcN x = 3) ∨ (¬ x < 1 ∧ ¬ 3 < x ∧ x = nI (lcN x) ∧ 1 ≤ lcN x ∧ lcN x ≤ 3) := by
  by_cases h1 : x < 1
  · exact Or.inl ⟨h1, by simp [lcN, h1]⟩
  · by_cases h2 : 3 < x
    · exact Or.inr (Or.inl ⟨h2, by simp [lcN, h1, h2]⟩)
    · refine Or.inr (Or.inr ⟨h1, h2, ?_⟩)
      have e : lcN x = x.toNatClampNeg := by simp [lcN, h1, h2]
      have h1' : ¬ x.toInt < 1 := fun q => h1 (Int32.lt_iff_toInt_lt.mpr q)
      have h2' : ¬ 3 < x.toInt := fun q => h2 (Int32.lt_iff_toInt_lt.mpr q)
      obtain ⟨j, hj, rfl⟩ := nI_of (x := x) (fun q => h1' (by have := Int32.lt_iff_toInt_lt.mp q; have e0 : (0 : Int32).toInt = 0 := rfl; omega))
      rw [e, nI_clamp hj]
      rw [nI_toInt hj] at h1' h2'
      exact ⟨rfl, by omega, by omega⟩
theorem lc_1 (x : Int32) : 1 ≤ lcN x := by rcases lc_cases x with ⟨-, h⟩ | ⟨-, h⟩ | ⟨-, -, -, h, -⟩ <;> omega
theorem lc_3 (x : Int32) : lcN x ≤ 3 := by rcases lc_cases x with ⟨-, h⟩ | ⟨-, h⟩ | ⟨-, -, -, -, h⟩ <;> omega
theorem lc_ok (x : Int32) : (if nI 1 < (if x < nI 3 then x else nI 3) then (if x < nI 3 then x else nI 3) else nI 1) = nI (lcN x) := by
  have e1 : (1 : Int32) = nI 1 := rfl
  have e3 : (3 : Int32) = nI 3 := rfl
  rcases lc_cases x with ⟨h, e⟩ | ⟨h, e⟩ | ⟨h1, h2, e, g1, g3⟩
  · rw [e1] at h
    have h3 : x < nI 3 := Int32.lt_trans h (by decide)
    rw [if_pos h3, if_neg (Int32.not_lt.mpr (Int32.le_of_lt h)), e]
  · rw [e3] at h
    rw [if_neg (Int32.not_lt.mpr (Int32.le_of_lt h)), e]
    decide
  · generalize lcN x = k at e g1 g3
    subst e
    rcases (show k = 1 ∨ k = 2 ∨ k = 3 by omega) with rfl | rfl | rfl <;> decide
theorem d_B_init_0 : decode b_B_init 0 = .ok (.aload_n 0, 1) := by decide +kernel
theorem d_B_init_1 : decode b_B_init 1 = .ok (.invokespecial 1, 3) := by decide +kernel
theorem d_B_init_4 : decode b_B_init 4 = .ok (.aload_n 0, 1) := by decide +kernel
theorem d_B_init_5 : decode b_B_init 5 = .ok (.bipush 40, 2) := by decide +kernel
theorem d_B_init_7 : decode b_B_init 7 = .ok (.anewarray 9, 3) := by decide +kernel
theorem d_B_init_10 : decode b_B_init 10 = .ok (.putfield 11, 3) := by decide +kernel
theorem d_B_init_13 : decode b_B_init 13 = .ok (.aload_n 0, 1) := by decide +kernel
theorem d_B_init_14 : decode b_B_init 14 = .ok (.new 15, 3) := by decide +kernel
theorem d_B_init_17 : decode b_B_init 17 = .ok (.dup, 1) := by decide +kernel
theorem d_B_init_18 : decode b_B_init 18 = .ok (.invokespecial 17, 3) := by decide +kernel
theorem d_B_init_21 : decode b_B_init 21 = .ok (.putfield 18, 3) := by decide +kernel
theorem d_B_init_24 : decode b_B_init 24 = .ok (.aload_n 0, 1) := by decide +kernel
theorem d_B_init_25 : decode b_B_init 25 = .ok (.iconst 3, 1) := by decide +kernel
theorem d_B_init_26 : decode b_B_init 26 = .ok (.newarray .int, 2) := by decide +kernel
theorem d_B_init_28 : decode b_B_init 28 = .ok (.putfield 22, 3) := by decide +kernel
theorem d_B_init_31 : decode b_B_init 31 = .ok (.aload_n 0, 1) := by decide +kernel
theorem d_B_init_32 : decode b_B_init 32 = .ok (.iconst 1, 1) := by decide +kernel
theorem d_B_init_33 : decode b_B_init 33 = .ok (.iconst 3, 1) := by decide +kernel
theorem d_B_init_34 : decode b_B_init 34 = .ok (.iload_n 1, 1) := by decide +kernel
theorem d_B_init_35 : decode b_B_init 35 = .ok (.invokestatic 26, 3) := by decide +kernel
theorem d_B_init_38 : decode b_B_init 38 = .ok (.invokestatic 32, 3) := by decide +kernel
theorem d_B_init_41 : decode b_B_init 41 = .ok (.putfield 35, 3) := by decide +kernel
theorem d_B_init_44 : decode b_B_init 44 = .ok (.iconst 0, 1) := by decide +kernel
theorem d_B_init_45 : decode b_B_init 45 = .ok (.istore_n 2, 1) := by decide +kernel
theorem d_B_init_46 : decode b_B_init 46 = .ok (.iload_n 2, 1) := by decide +kernel
theorem d_B_init_47 : decode b_B_init 47 = .ok (.bipush 40, 2) := by decide +kernel
theorem d_B_init_49 : decode b_B_init 49 = .ok (.if_icmp .ge 22, 3) := by decide +kernel
theorem d_B_init_52 : decode b_B_init 52 = .ok (.aload_n 0, 1) := by decide +kernel
theorem d_B_init_53 : decode b_B_init 53 = .ok (.getfield 11, 3) := by decide +kernel
theorem d_B_init_56 : decode b_B_init 56 = .ok (.iload_n 2, 1) := by decide +kernel
theorem d_B_init_57 : decode b_B_init 57 = .ok (.new 9, 3) := by decide +kernel
theorem d_B_init_60 : decode b_B_init 60 = .ok (.dup, 1) := by decide +kernel
theorem d_B_init_61 : decode b_B_init 61 = .ok (.invokespecial 39, 3) := by decide +kernel
theorem d_B_init_64 : decode b_B_init 64 = .ok (.aastore, 1) := by decide +kernel
theorem d_B_init_65 : decode b_B_init 65 = .ok (.iinc 2 1, 3) := by decide +kernel
theorem d_B_init_68 : decode b_B_init 68 = .ok (.goto (-22), 3) := by decide +kernel
theorem d_B_init_71 : decode b_B_init 71 = .ok (.return_, 1) := by decide +kernel
theorem d_K_init_0 : decode b_K_init 0 = .ok (.aload_n 0, 1) := by decide +kernel
theorem d_K_init_1 : decode b_K_init 1 = .ok (.invokespecial 3, 3) := by decide +kernel
theorem d_K_init_4 : decode b_K_init 4 = .ok (.aload_n 0, 1) := by decide +kernel
theorem d_K_init_5 : decode b_K_init 5 = .ok (.bipush 12, 2) := by decide +kernel
theorem d_K_init_7 : decode b_K_init 7 = .ok (.anewarray 9, 3) := by decide +kernel
theorem d_K_init_10 : decode b_K_init 10 = .ok (.putfield 11, 3) := by decide +kernel
theorem d_K_init_13 : decode b_K_init 13 = .ok (.aload_n 0, 1) := by decide +kernel
theorem d_K_init_14 : decode b_K_init 14 = .ok (.bipush 12, 2) := by decide +kernel
theorem d_K_init_16 : decode b_K_init 16 = .ok (.newarray .int, 2) := by decide +kernel
theorem d_K_init_18 : decode b_K_init 18 = .ok (.putfield 17, 3) := by decide +kernel
theorem d_K_init_21 : decode b_K_init 21 = .ok (.iconst 0, 1) := by decide +kernel
theorem d_K_init_22 : decode b_K_init 22 = .ok (.istore_n 1, 1) := by decide +kernel
theorem d_K_init_23 : decode b_K_init 23 = .ok (.iload_n 1, 1) := by decide +kernel
theorem d_K_init_24 : decode b_K_init 24 = .ok (.bipush 12, 2) := by decide +kernel
theorem d_K_init_26 : decode b_K_init 26 = .ok (.if_icmp .ge 22, 3) := by decide +kernel
theorem d_K_init_29 : decode b_K_init 29 = .ok (.aload_n 0, 1) := by decide +kernel
theorem d_K_init_30 : decode b_K_init 30 = .ok (.getfield 11, 3) := by decide +kernel
theorem d_K_init_33 : decode b_K_init 33 = .ok (.iload_n 1, 1) := by decide +kernel
theorem d_K_init_34 : decode b_K_init 34 = .ok (.new 9, 3) := by decide +kernel
theorem d_K_init_37 : decode b_K_init 37 = .ok (.dup, 1) := by decide +kernel
theorem d_K_init_38 : decode b_K_init 38 = .ok (.invokespecial 21, 3) := by decide +kernel
theorem d_K_init_41 : decode b_K_init 41 = .ok (.aastore, 1) := by decide +kernel
theorem d_K_init_42 : decode b_K_init 42 = .ok (.iinc 1 1, 3) := by decide +kernel
theorem d_K_init_45 : decode b_K_init 45 = .ok (.goto (-22), 3) := by decide +kernel
theorem d_K_init_48 : decode b_K_init 48 = .ok (.return_, 1) := by decide +kernel
set_option maxHeartbeats 4000000 in
set_option maxRecDepth 100000 in
theorem lp_K_init {p : Program} {l : Launch} {e : Env} {R : Room} {s : State} {m : MethodId} {args : Array Value} {below : List Frame} {meth : Method} {c : Code} {Q : State → Prop} {D : mp_G} {g : Nat → ClassId} {A : Nat → Prop} {c0 s0 : Nat} (hx : p.tables.exec = Jvm.exec) (hb : c.code = b_K_init) (hml : c.maxLocals = 2) (hg : ∀ w ∈ gw, w.before args s = true) (hown : s.vm.findClass R_K = some m.cls) (hK : mp_K D classes (tys g) s) (hRf : 3 ≤ R.frames) (hRl : 40 ≤ R.locals) (hRc : c0 + 36 ≤ R.cells) (hRs : s0 + 132 ≤ R.slots) {B : mp_M} {o ma hd : Nat}  : ∀ (n i : Nat) (eo ek en : Nat → Nat) (S : mp_M) (H : Heap) (locs : List Loc) (ls : Array Slot), i + n = 12 → S o = some (2, .inr (9, [.ref ma, .ref hd, .int 0])) → S ma = some (4, .inl ((g 2), 12, .inr (.inr (.inr (.inr (rfs eo i)))))) → yS g 300 i eo ek en (fun _ => 4) (fun _ => 0) (fun _ _ => 0) (fun _ _ => 0) S → (∀ b, B b ≠ none → b ≠ o → b ≠ ma → S b = B b) → mp_I D classes A s.heap S H locs → lv_has ls 2 [(1, .int (nI i)), (0, .ref o)] → (∀ (eo ek en : Nat → Nat) (S : mp_M) (H : Heap) (locs : List Loc) (ls : Array Slot), S o = some (2, .inr (9, [.ref ma, .ref hd, .int 0])) → S ma = some (4, .inl ((g 2), 12, .inr (.inr (.inr (.inr (rfs eo 12)))))) → yS g 300 12 eo ek en (fun _ => 4) (fun _ => 0) (fun _ _ => 0) (fun _ _ => 0) S → (∀ b, B b ≠ none → b ≠ o → b ≠ ma → S b = B b) → mp_I D classes A s.heap S H locs → lv_has ls 2 [(0, .ref o)] → W p l e R s m args below meth c H locs (c0 + 36) (s0 + 132) Q (F0 m 48 ls [])) → W p l e R s m args below meth c H locs (c0 + 3 * i) (s0 + 11 * i) Q (F0 m 23 ls []) := by
  intro n
  induction n with
  | zero =>
    intro i eo ek en S H locs ls hi h_o h_ma hE hfr hI hl kx
    obtain rfl : i = 12 := by omega
    refine lv_iload_n hx hb d_K_init_23 rfl (lv_at hl 0 rfl) ?_
    refine lv_bipush (v := nI 12) hx hb d_K_init_24 (by decide) ?_
    refine lv_icmp_ge (tgt := 48) hx hb d_K_init_26 (by decide) (fun _ => ?_) (fun h9 => absurd (by decide) h9)
    exact kx eo ek en S H locs ls h_o h_ma hE hfr hI (lv_sub hl [1] rfl)
  | succ n ih =>
    intro i eo ek en S H locs ls hi h_o h_ma hE hfr hI hl kx
    refine lv_iload_n hx hb d_K_init_23 rfl (lv_at hl 0 rfl) ?_
    refine lv_bipush (v := nI 12) hx hb d_K_init_24 (by decide) ?_
    refine lv_icmp_ge (tgt := 48) hx hb d_K_init_26 (by decide) (fun h9 => absurd h9 (by rw [nI_leI (by omega) (by omega)]; omega)) (fun _ => ?_)
    have hIa := hI
    have hka : ∀ b, S b ≠ none → S b = S b := fun _ _ => rfl
    refine lv_aload_n hx hb d_K_init_29 rfl (lv_at hl 1 rfl) ?_
    refine mp_get (C := R_K) (T := F_K) (N := 3) (v := .ref ma) hx hb hg i_K hown hK.va hI h_o rfl 0 (by decide) (hg _ q_61) (fun _ h9 => h9) rfl d_K_init_30 ?_
    refine lv_iload_n hx hb d_K_init_33 rfl (lv_at hl 0 rfl) ?_
    have hI0 := hI
    refine mp_new (C := R_Y) (T := F_Y) (N := 3) (ci := 3) (fs := [.null, .null, .int 0]) hx hb hg i_Y t_Y t_Y_ok hown (hg _ q_39) (hg _ q_40) (hg _ q_3) hK.va hI (300 + 3 * i) rfl (fun j hj => by rcases (show j = 0 ∨ j = 1 ∨ j = 2 by omega) with rfl | rfl | rfl <;> rfl) (by omega) (by omega) d_K_init_34 (fun S1 H2 z_4 e_3 hI => ?_)
    obtain ⟨a5, ea5⟩ : ∃ z, z = H.size := ⟨_, rfl⟩
    have g_a5 : s.heap.size ≤ a5 := by rw [ea5]; exact hI0.2.2.1.1
    rw [← ea5] at z_4 e_3
    refine W.eq (g2 := F0 m 37 ls [.ref a5, .int (nI i), .ref ma]) (by rw [ea5]) ?_
    have h_o : S1 o = some (2, .inr (9, [.ref ma, .ref hd, .int 0])) := by rw [e_3]; exact mp_keepN h_o z_4
    have h_ma : S1 ma = some (4, .inl ((g 2), 12, .inr (.inr (.inr (.inr (rfs eo i)))))) := by rw [e_3]; exact mp_keepN h_ma z_4
    have h_6 : S1 a5 = some ((300 + 3 * i), .inr (3, [.null, .null, .int 0])) := by rw [e_3]; exact mp_us _ _ _
    have nb_a5 : ∀ b, B b ≠ none → b ≠ o → b ≠ ma → b ≠ a5 := fun b h9 k0 k1 z9 => h9 ((hfr b h9 k0 k1).symm.trans (by rw [z9]; exact z_4))
    have hfr : ∀ b, B b ≠ none → b ≠ o → b ≠ ma → S1 b = B b := fun b h9 k0 k1 => by rw [e_3]; exact (mp_un (nb_a5 b h9 k0 k1)).trans (hfr b h9 k0 k1)
    refine lv_dup hx hb d_K_init_37 rfl ?_
    refine mp_callv hI (va_runIN (As := []) (rest := [.ref a5, .int (nI i), .ref ma]) ⟨hx, hb, hml, hown, hg⟩ (c_Y_init l D g S1 _ a5 _ (300 + 3 * i + 1) (300 + 3 * i + 2) h_6 (by omega) (by omega) (by omega)) ⟨(va_cnB 0 hg (wd_goodG q_43) rfl rfl rfl (hK.nw q_41 rfl) (hg _ q_3) (by decide +kernel) ⟨Nat.le_trans (Nat.le_of_ble_eq_true rfl) hRf, Nat.le_trans (Nat.le_of_ble_eq_true rfl) hRl⟩), rfl, hg _ q_42⟩ (mp_pre hI hK ([.ref a5])) rfl rfl hl.1 rfl (lv_room (Nat.le_of_ble_eq_true rfl)) d_K_init_38 ⟨by omega, by omega⟩) (fun S7 H8 locs p_9 hI => ?_)
    obtain ⟨x1, x2, gx1, gx2, hx12, h_6n, hx1, hx2, hf⟩ := p_9
    have h_o : S7 o = some (2, .inr (9, [.ref ma, .ref hd, .int 0])) := (hf o (mp_in h_o) (mp_ne h_o h_6 (by omega))).trans h_o
    have h_ma : S7 ma = some (4, .inl ((g 2), 12, .inr (.inr (.inr (.inr (rfs eo i)))))) := (hf ma (mp_in h_ma) (mp_ne h_ma h_6 (by omega))).trans h_ma
    have hfr : ∀ b, B b ≠ none → b ≠ o → b ≠ ma → S7 b = B b := fun b h9 k0 k1 => (hf b (by rw [hfr b h9 k0 k1]; exact h9) (nb_a5 b h9 k0 k1)).trans (hfr b h9 k0 k1)
    have hks : ∀ b, S b ≠ none → S7 b = S b := fun b h9 => (hf b (by rw [e_3, mp_un (fun z => by rw [z, z_4] at h9; exact h9 rfl)]; exact h9) (fun z => by rw [z, z_4] at h9; exact h9 rfl)).trans (by rw [e_3, mp_un (fun z => by rw [z, z_4] at h9; exact h9 rfl)])
    have hE1 := yS_push hE hks h_6n hx1 hx2
    have hmo := h_ma
    refine mp_astq (r := (R_Y, F_Y, 3)) hx hb hK.va hI 2 3 h_ma rfl h_6n rfl (vp_in_nI (by omega) (by decide)) d_K_init_41 (fun S11 H12 locs e_13 hI => ?_)
    have e_13 : S11 = va_up S7 ma (some (4, .inl ((g 2), 12, .inr (.inr (.inr (.inr (va_up (rfs eo i) (nI i).toNatClampNeg (some a5)))))))) := e_13
    have h_o : S11 o = some (2, .inr (9, [.ref ma, .ref hd, .int 0])) := by rw [e_13]; exact mp_keep h_o h_ma (by decide)
    have h_6n : S11 a5 = some ((300 + 3 * i), .inr (3, [.ref x1, .ref x2, .int 0])) := by rw [e_13]; exact mp_keep h_6n h_ma (by omega)
    have h_ma : S11 ma = some (4, .inl ((g 2), 12, .inr (.inr (.inr (.inr (va_up (rfs eo i) (nI i).toNatClampNeg (some a5))))))) := by rw [e_13]; exact mp_us _ _ _
    have hfr : ∀ b, B b ≠ none → b ≠ o → b ≠ ma → S11 b = B b := fun b h9 k0 k1 => by rw [e_13]; exact (mp_un k1).trans (hfr b h9 k0 k1)
    rw [nI_clamp (by omega), rfs_push] at h_ma
    have hE2 := yS_kept hE1 (S1 := S11) (fun b t e hb9 h1 h2 => by rw [e_13]; exact mp_un (mp_ne hb9 hmo (by omega)))
    refine lv_iinc (v := nI (i + 1)) (lv' := [(1, .int (nI (i + 1))), (0, .ref o)]) hx hb d_K_init_42 hl (k := 0) rfl (nI_1 _) (by decide) rfl (fun ls hl => ?_)
    refine lv_goto (tgt := 23) hx hb d_K_init_45 (by decide) ?_
    refine W.cs (cells' := c0 + 3 * (i + 1)) (slots' := s0 + 11 * (i + 1)) (by omega) (by omega) ?_
    exact ih (i + 1) (va_up eo i a5) (va_up ek i x1) (va_up en i x2) S11 H12 locs ls (by omega) h_o h_ma hE2 hfr hI (lv_sub hl [0, 1] rfl) kx
set_option maxHeartbeats 4000000 in
set_option maxRecDepth 100000 in
/-- a new list -/
theorem c_K_init (l : Launch) (D : mp_G) (g : Nat → ClassId) (S : mp_M) (sz : Nat) (o : Nat) (h_o : S o = some (2, .inr (9, [.null, .null, .int 0])))  : Met l y_K_init w_K_init ({ frames := 3, cells := 38, slots := 156, locals := 40 }) (va_Pc [.ref o] (mp_B0 D classes (tys g) S sz)) (va_Qv (fun (S1 : mp_M) => ∃ (ma hd : Nat) (eo ek en : Nat → Nat), sz ≤ ma ∧ sz ≤ hd ∧ S1 o = some (2, .inr (9, [.ref ma, .ref hd, .int 0])) ∧ S1 ma = some (4, .inl (g 2, 12, .inr (.inr (.inr (.inr (rfs eo 12)))))) ∧ S1 hd = some (5, .inl (g 0, 12, .inl (fun _ => 0))) ∧ yS g 300 12 eo ek en (fun _ => 4) (fun _ => 0) (fun _ _ => 0) (fun _ _ => 0) S1 ∧ (∀ b, S b ≠ none → b ≠ o → S1 b = S b)) (mp_B1 D classes S sz) (mp_A S sz)) 38 156 (mp_A S sz) := by
  refine Met.ofW (cc := b_K_init) (maxL := 2) (ret := none) (by decide) rfl ?_
  intro p e s m args below meth c s₁ B hml hv
  obtain ⟨rfl, hsz, hH, hK⟩ := hv
  have hx := B.exec
  have hb := B.bytes
  have hr := B.returns
  have hts := atoms_spec (ws := w_K_init) B.pre
  have hg : ∀ w ∈ gw, w.before _ s = true := fun w h => hts w (List.mem_cons_of_mem _ h)
  have hown : s.vm.findClass R_K = some m.cls := findClass_of_methodNamed B.named
  have hlocks := B.notSynchronized
  have hin : meth.name = "<init>" := (name_of_methodNamed B.named B.method).1
  subst hsz
  have hI := mp_I.start hH
  have hl := lv_entry ([.ref o]) (n := 2) (Nat.le_of_ble_eq_true rfl)
  rw [lg_entry_eq]
  generalize (lg_sl ([.ref o]) ++ List.replicate (2 - (lg_sl ([.ref o])).length) Slot.unset).toArray = ls at hl ⊢
  have hl : lv_has ls 2 [(0, .ref o)] := hl
  have hfr : ∀ b, S b ≠ none → b ≠ o → S b = S b := fun _ _ _ => rfl
  refine lv_aload_n hx hb d_K_init_0 rfl (lv_at hl 0 rfl) ?_
  refine W.objInit hx hb hown (hg _ q_38) (hg _ q_29) (hg _ q_30) rfl (by rw [hml]; exact hl.1) rfl d_K_init_1 (Nat.le_of_ble_eq_true rfl) (Nat.le_of_ble_eq_true rfl) ?_
  refine lv_aload_n hx hb d_K_init_4 rfl (lv_at hl 0 rfl) ?_
  refine lv_bipush (v := nI 12) hx hb d_K_init_5 (by decide) ?_
  have hI0 := hI
  refine mp_newq (N' := 12) hx hb hown (hg _ q_39) (hK.use q_32 rfl) hK.va hI 2 4 rfl (by decide) (by decide) (Nat.le_of_ble_eq_true rfl) (Nat.le_of_ble_eq_true rfl) (Nat.le_of_ble_eq_true rfl) d_K_init_7 (fun S1 H2 z_4 e_3 hI => ?_)
  obtain ⟨a5, ea5⟩ : ∃ z, z = s.heap.size := ⟨_, rfl⟩
  have g_a5 : s.heap.size ≤ a5 := by rw [ea5]; exact hI0.2.2.1.1
  rw [← ea5] at z_4 e_3
  refine W.eq (g2 := F0 m 10 ls [.ref a5, .ref o]) (by rw [ea5]) ?_
  have h_o : S1 o = some (2, .inr (9, [.null, .null, .int 0])) := by rw [e_3]; exact mp_keepN h_o z_4
  have h_6 : S1 a5 = some (4, .inl ((g 2), 12, .inr (.inr (.inr (.inr (fun _ => none)))))) := by rw [e_3]; exact mp_us _ _ _
  have nb_a5 : ∀ b, S b ≠ none → b ≠ o → b ≠ a5 := fun b h9 k0 z9 => h9 ((hfr b h9 k0).symm.trans (by rw [z9]; exact z_4))
  have hfr : ∀ b, S b ≠ none → b ≠ o → S1 b = S b := fun b h9 k0 => by rw [e_3]; exact (mp_un (nb_a5 b h9 k0)).trans (hfr b h9 k0)
  refine mp_putF (C := R_K) (T := F_K) (N := 3) (v := .ref a5) (ty := .array (.object "SolutionBoxes$Polynomial")) hx hb hg i_K t_K t_K_ok n_K hown hK.va hI h_o rfl 0 (by decide) (hg _ q_61) (fun _ h9 => h9) rfl hin rfl (by decide +kernel) (rfl) rfl (Nat.le_of_ble_eq_true rfl) d_K_init_10 (fun S7 H8 locs e_9 hI => ?_)
  have e_9 : S7 = va_up S1 o (some (2, .inr (9, [.ref a5, .null, .int 0]))) := e_9
  have h_6 : S7 a5 = some (4, .inl ((g 2), 12, .inr (.inr (.inr (.inr (fun _ => none)))))) := by rw [e_9]; exact mp_keep h_6 h_o (by decide)
  have h_o : S7 o = some (2, .inr (9, [.ref a5, .null, .int 0])) := by rw [e_9]; exact mp_us _ _ _
  have hfr : ∀ b, S b ≠ none → b ≠ o → S7 b = S b := fun b h9 k0 => by rw [e_9]; exact (mp_un k0).trans (hfr b h9 k0)
  refine lv_aload_n hx hb d_K_init_13 rfl (lv_at hl 0 rfl) ?_
  refine lv_bipush (v := nI 12) hx hb d_K_init_14 (by decide) ?_
  have hI0 := hI
  refine mp_newi (N' := 12) hx hb (hg _ q_60) hK.va hI 0 5 rfl (by decide) (by decide) (Nat.le_of_ble_eq_true rfl) (Nat.le_of_ble_eq_true rfl) (Nat.le_of_ble_eq_true rfl) d_K_init_16 (fun S10 H11 z_13 e_12 hI => ?_)
  obtain ⟨a14, ea14⟩ : ∃ z, z = H8.size := ⟨_, rfl⟩
  have g_a14 : s.heap.size ≤ a14 := by rw [ea14]; exact hI0.2.2.1.1
  rw [← ea14] at z_13 e_12
  refine W.eq (g2 := F0 m 18 ls [.ref a14, .ref o]) (by rw [ea14]) ?_
  have h_o : S10 o = some (2, .inr (9, [.ref a5, .null, .int 0])) := by rw [e_12]; exact mp_keepN h_o z_13
  have h_6 : S10 a5 = some (4, .inl ((g 2), 12, .inr (.inr (.inr (.inr (fun _ => none)))))) := by rw [e_12]; exact mp_keepN h_6 z_13
  have h_15 : S10 a14 = some (5, .inl ((g 0), 12, .inl (fun _ => 0))) := by rw [e_12]; exact mp_us _ _ _
  have nb_a14 : ∀ b, S b ≠ none → b ≠ o → b ≠ a14 := fun b h9 k0 z9 => h9 ((hfr b h9 k0).symm.trans (by rw [z9]; exact z_13))
  have hfr : ∀ b, S b ≠ none → b ≠ o → S10 b = S b := fun b h9 k0 => by rw [e_12]; exact (mp_un (nb_a14 b h9 k0)).trans (hfr b h9 k0)
  refine mp_putF (C := R_K) (T := F_K) (N := 3) (v := .ref a14) (ty := .array .int) hx hb hg i_K t_K t_K_ok n_K hown hK.va hI h_o rfl 1 (by decide) (hg _ q_63) (fun _ h9 => h9) rfl hin rfl (by decide +kernel) (rfl) rfl (Nat.le_of_ble_eq_true rfl) d_K_init_18 (fun S16 H17 locs e_18 hI => ?_)
  have e_18 : S16 = va_up S10 o (some (2, .inr (9, [.ref a5, .ref a14, .int 0]))) := e_18
  have h_6 : S16 a5 = some (4, .inl ((g 2), 12, .inr (.inr (.inr (.inr (fun _ => none)))))) := by rw [e_18]; exact mp_keep h_6 h_o (by decide)
  have h_15 : S16 a14 = some (5, .inl ((g 0), 12, .inl (fun _ => 0))) := by rw [e_18]; exact mp_keep h_15 h_o (by decide)
  have h_o : S16 o = some (2, .inr (9, [.ref a5, .ref a14, .int 0])) := by rw [e_18]; exact mp_us _ _ _
  have hfr : ∀ b, S b ≠ none → b ≠ o → S16 b = S b := fun b h9 k0 => by rw [e_18]; exact (mp_un k0).trans (hfr b h9 k0)
  refine lv_iconst (v := nI 0) hx hb d_K_init_21 (by decide) ?_
  refine lv_istore_n (lv' := [(1, .int (nI 0)), (0, .ref o)]) hx hb d_K_init_22 rfl hl (by decide) rfl (fun ls hl => ?_)
  have h_6 : S16 a5 = some (4, .inl ((g 2), 12, .inr (.inr (.inr (.inr (rfs (fun _ => 0) 0)))))) := h_6.trans (by rw [rfs_0 (fun _ => 0)])
  refine lp_K_init (c0 := 0 + 1 + 1) (s0 := 0 + 12 + 12) (B := S16) (o := o) (ma := a5) (hd := a14) hx hb hml hg hown hK (Nat.le_of_ble_eq_true rfl) (Nat.le_of_ble_eq_true rfl) (Nat.le_of_ble_eq_true rfl) (Nat.le_of_ble_eq_true rfl) 12 0 (fun _ => 0) (fun _ => 0) (fun _ => 0) S16 H17 _ ls rfl h_o h_6 (fun j h => absurd h (Nat.not_lt_zero j)) (fun _ _ _ _ => rfl) hI (lv_sub hl [0, 1] rfl) (fun eo ek en S9 H9 locs9 ls9 j_o j_ma jE jfr hI hl => ?_)
  refine mp_vret hx hb hr hlocks hI (by decide) (by decide) ?_ d_K_init_48
  exact ⟨a5, a14, eo, ek, en, g_a5, g_a14, j_o, j_ma, (jfr _ (mp_in h_15) (mp_ne h_15 h_o (by decide)) (mp_ne h_15 h_6 (by decide))).trans h_15, jE, fun b h9 k0 => (jfr b (by rw [hfr b h9 k0]; exact h9) k0 (nb_a5 b h9 k0)).trans (hfr b h9 k0)⟩
set_option maxHeartbeats 4000000 in
set_option maxRecDepth 100000 in
theorem lp_B_init {p : Program} {l : Launch} {e : Env} {R : Room} {s : State} {m : MethodId} {args : Array Value} {below : List Frame} {meth : Method} {c : Code} {Q : State → Prop} {D : mp_G} {g : Nat → ClassId} {A : Nat → Prop} {c0 s0 : Nat} (hx : p.tables.exec = Jvm.exec) (hb : c.code = b_B_init) (hml : c.maxLocals = 3) (hg : ∀ w ∈ gw, w.before args s = true) (hown : s.vm.findClass R_B = some m.cls) (hK : mp_K D classes (tys g) s) (hRf : 3 ≤ R.frames) (hRl : 40 ≤ R.locals) (hRc : c0 + 120 ≤ R.cells) (hRs : s0 + 440 ≤ R.slots) {B : mp_M} {o pa lo fa : Nat} {x : Int32} {u9 : Nat}  : ∀ (n i : Nat) (eo ek en : Nat → Nat) (S : mp_M) (H : Heap) (locs : List Loc) (ls : Array Slot), i + n = 40 → S o = some (0, .inr (0, [.int (nI (lcN x)), .ref pa, .ref lo, .ref fa, .int 0, .int 0, .int 0, .int 0, .int 0, .null])) → S pa = some (1, .inl ((g 2), 40, .inr (.inr (.inr (.inr (rfs eo i)))))) → yS g 100 i eo ek en (fun _ => 4) (fun _ => 0) (fun _ _ => 0) (fun _ _ => 0) S → (∀ b, B b ≠ none → b ≠ o → b ≠ pa → S b = B b) → mp_I D classes A s.heap S H locs → lv_has ls 3 [(2, .int (nI i)), (0, .ref o)] → (∀ (eo ek en : Nat → Nat) (S : mp_M) (H : Heap) (locs : List Loc) (ls : Array Slot), S o = some (0, .inr (0, [.int (nI (lcN x)), .ref pa, .ref lo, .ref fa, .int 0, .int 0, .int 0, .int 0, .int 0, .null])) → S pa = some (1, .inl ((g 2), 40, .inr (.inr (.inr (.inr (rfs eo 40)))))) → yS g 100 40 eo ek en (fun _ => 4) (fun _ => 0) (fun _ _ => 0) (fun _ _ => 0) S → (∀ b, B b ≠ none → b ≠ o → b ≠ pa → S b = B b) → mp_I D classes A s.heap S H locs → lv_has ls 3 [(0, .ref o)] → W p l e R s m args below meth c H locs (c0 + 120) (s0 + 440) Q (F0 m 71 ls [])) → W p l e R s m args below meth c H locs (c0 + 3 * i) (s0 + 11 * i) Q (F0 m 46 ls []) := by
  intro n
  induction n with
  | zero =>
    intro i eo ek en S H locs ls hi h_o h_ma hE hfr hI hl kx
    obtain rfl : i = 40 := by omega
    refine lv_iload_n hx hb d_B_init_46 rfl (lv_at hl 0 rfl) ?_
    refine lv_bipush (v := nI 40) hx hb d_B_init_47 (by decide) ?_
    refine lv_icmp_ge (tgt := 71) hx hb d_B_init_49 (by decide) (fun _ => ?_) (fun h9 => absurd (by decide) h9)
    exact kx eo ek en S H locs ls h_o h_ma hE hfr hI (lv_sub hl [1] rfl)
  | succ n ih =>
    intro i eo ek en S H locs ls hi h_o h_ma hE hfr hI hl kx
    refine lv_iload_n hx hb d_B_init_46 rfl (lv_at hl 0 rfl) ?_
    refine lv_bipush (v := nI 40) hx hb d_B_init_47 (by decide) ?_
    refine lv_icmp_ge (tgt := 71) hx hb d_B_init_49 (by decide) (fun h9 => absurd h9 (by rw [nI_leI (by omega) (by omega)]; omega)) (fun _ => ?_)
    have hIa := hI
    have hka : ∀ b, S b ≠ none → S b = S b := fun _ _ => rfl
    refine lv_aload_n hx hb d_B_init_52 rfl (lv_at hl 1 rfl) ?_
    refine mp_get (C := R_B) (T := F_B) (N := 10) (v := .ref pa) hx hb hg i_B hown hK.va hI h_o rfl 1 (by decide) (hg _ q_83) (fun _ h9 => h9) rfl d_B_init_53 ?_
    refine lv_iload_n hx hb d_B_init_56 rfl (lv_at hl 0 rfl) ?_
    have hI0 := hI
    refine mp_new (C := R_Y) (T := F_Y) (N := 3) (ci := 3) (fs := [.null, .null, .int 0]) hx hb hg i_Y t_Y t_Y_ok hown (hg _ q_31) (hg _ q_40) (hg _ q_3) hK.va hI (100 + 3 * i) rfl (fun j hj => by rcases (show j = 0 ∨ j = 1 ∨ j = 2 by omega) with rfl | rfl | rfl <;> rfl) (by omega) (by omega) d_B_init_57 (fun S1 H2 z_4 e_3 hI => ?_)
    obtain ⟨a5, ea5⟩ : ∃ z, z = H.size := ⟨_, rfl⟩
    have g_a5 : s.heap.size ≤ a5 := by rw [ea5]; exact hI0.2.2.1.1
    rw [← ea5] at z_4 e_3
    refine W.eq (g2 := F0 m 60 ls [.ref a5, .int (nI i), .ref pa]) (by rw [ea5]) ?_
    have h_o : S1 o = some (0, .inr (0, [.int (nI (lcN x)), .ref pa, .ref lo, .ref fa, .int 0, .int 0, .int 0, .int 0, .int 0, .null])) := by rw [e_3]; exact mp_keepN h_o z_4
    have h_ma : S1 pa = some (1, .inl ((g 2), 40, .inr (.inr (.inr (.inr (rfs eo i)))))) := by rw [e_3]; exact mp_keepN h_ma z_4
    have h_6 : S1 a5 = some ((100 + 3 * i), .inr (3, [.null, .null, .int 0])) := by rw [e_3]; exact mp_us _ _ _
    have nb_a5 : ∀ b, B b ≠ none → b ≠ o → b ≠ pa → b ≠ a5 := fun b h9 k0 k1 z9 => h9 ((hfr b h9 k0 k1).symm.trans (by rw [z9]; exact z_4))
    have hfr : ∀ b, B b ≠ none → b ≠ o → b ≠ pa → S1 b = B b := fun b h9 k0 k1 => by rw [e_3]; exact (mp_un (nb_a5 b h9 k0 k1)).trans (hfr b h9 k0 k1)
    refine lv_dup hx hb d_B_init_60 rfl ?_
    refine mp_callv hI (va_runIN (As := []) (rest := [.ref a5, .int (nI i), .ref pa]) ⟨hx, hb, hml, hown, hg⟩ (c_Y_init l D g S1 _ a5 _ (100 + 3 * i + 1) (100 + 3 * i + 2) h_6 (by omega) (by omega) (by omega)) ⟨(va_cnB 0 hg (wd_goodG q_43) rfl rfl rfl (hK.nw q_81 rfl) (hg _ q_3) (by decide +kernel) ⟨Nat.le_trans (Nat.le_of_ble_eq_true rfl) hRf, Nat.le_trans (Nat.le_of_ble_eq_true rfl) hRl⟩), rfl, hg _ q_42⟩ (mp_pre hI hK ([.ref a5])) rfl rfl hl.1 rfl (lv_room (Nat.le_of_ble_eq_true rfl)) d_B_init_61 ⟨by omega, by omega⟩) (fun S7 H8 locs p_9 hI => ?_)
    obtain ⟨x1, x2, gx1, gx2, hx12, h_6n, hx1, hx2, hf⟩ := p_9
    have h_o : S7 o = some (0, .inr (0, [.int (nI (lcN x)), .ref pa, .ref lo, .ref fa, .int 0, .int 0, .int 0, .int 0, .int 0, .null])) := (hf o (mp_in h_o) (mp_ne h_o h_6 (by omega))).trans h_o
    have h_ma : S7 pa = some (1, .inl ((g 2), 40, .inr (.inr (.inr (.inr (rfs eo i)))))) := (hf pa (mp_in h_ma) (mp_ne h_ma h_6 (by omega))).trans h_ma
    have hfr : ∀ b, B b ≠ none → b ≠ o → b ≠ pa → S7 b = B b := fun b h9 k0 k1 => (hf b (by rw [hfr b h9 k0 k1]; exact h9) (nb_a5 b h9 k0 k1)).trans (hfr b h9 k0 k1)
    have hks : ∀ b, S b ≠ none → S7 b = S b := fun b h9 => (hf b (by rw [e_3, mp_un (fun z => by rw [z, z_4] at h9; exact h9 rfl)]; exact h9) (fun z => by rw [z, z_4] at h9; exact h9 rfl)).trans (by rw [e_3, mp_un (fun z => by rw [z, z_4] at h9; exact h9 rfl)])
    have hE1 := yS_push hE hks h_6n hx1 hx2
    have hmo := h_ma
    refine mp_astq (r := (R_Y, F_Y, 3)) hx hb hK.va hI 2 3 h_ma rfl h_6n rfl (vp_in_nI (by omega) (by decide)) d_B_init_64 (fun S11 H12 locs e_13 hI => ?_)
    have e_13 : S11 = va_up S7 pa (some (1, .inl ((g 2), 40, .inr (.inr (.inr (.inr (va_up (rfs eo i) (nI i).toNatClampNeg (some a5)))))))) := e_13
    have h_o : S11 o = some (0, .inr (0, [.int (nI (lcN x)), .ref pa, .ref lo, .ref fa, .int 0, .int 0, .int 0, .int 0, .int 0, .null])) := by rw [e_13]; exact mp_keep h_o h_ma (by decide)
    have h_6n : S11 a5 = some ((100 + 3 * i), .inr (3, [.ref x1, .ref x2, .int 0])) := by rw [e_13]; exact mp_keep h_6n h_ma (by omega)
    have h_ma : S11 pa = some (1, .inl ((g 2), 40, .inr (.inr (.inr (.inr (va_up (rfs eo i) (nI i).toNatClampNeg (some a5))))))) := by rw [e_13]; exact mp_us _ _ _
    have hfr : ∀ b, B b ≠ none → b ≠ o → b ≠ pa → S11 b = B b := fun b h9 k0 k1 => by rw [e_13]; exact (mp_un k1).trans (hfr b h9 k0 k1)
    rw [nI_clamp (by omega), rfs_push] at h_ma
    have hE2 := yS_kept hE1 (S1 := S11) (fun b t e hb9 h1 h2 => by rw [e_13]; exact mp_un (mp_ne hb9 hmo (by omega)))
    refine lv_iinc (v := nI (i + 1)) (lv' := [(2, .int (nI (i + 1))), (0, .ref o)]) hx hb d_B_init_65 hl (k := 0) rfl (nI_1 _) (by decide) rfl (fun ls hl => ?_)
    refine lv_goto (tgt := 46) hx hb d_B_init_68 (by decide) ?_
    refine W.cs (cells' := c0 + 3 * (i + 1)) (slots' := s0 + 11 * (i + 1)) (by omega) (by omega) ?_
    exact ih (i + 1) (va_up eo i a5) (va_up ek i x1) (va_up en i x2) S11 H12 locs ls (by omega) h_o h_ma hE2 hfr hI (lv_sub hl [0, 1] rfl) kx
set_option maxHeartbeats 4000000 in
set_option maxRecDepth 100000 in
/-- a new object -/
theorem c_B_init (l : Launch) (D : mp_G) (g : Nat → ClassId) (S : mp_M) (sz : Nat) (o : Nat) (x : Int32) (h_o : S o = some (0, .inr (0, [.int 0, .null, .null, .null, .int 0, .int 0, .int 0, .int 0, .int 0, .null])))  : Met l y_B_init w_B_init ({ frames := 4, cells := 161, slots := 642, locals := 61 }) (va_Pc [.ref o, .int x] (mp_B0 D classes (tys g) S sz)) (va_Qv (fun (S1 : mp_M) => ∃ (pa lo fa ma hd : Nat) (eo ek en mo mk mn : Nat → Nat), S1 o = some (0, .inr (0, [.int (nI (lcN x)), .ref pa, .ref lo, .ref fa, .int 0, .int 0, .int 0, .int 0, .int 0, .null])) ∧ S1 pa = some (1, .inl (g 2, 40, .inr (.inr (.inr (.inr (rfs eo 40)))))) ∧ S1 lo = some (2, .inr (9, [.ref ma, .ref hd, .int 0])) ∧ S1 fa = some (3, .inl (g 0, 3, .inl (fun _ => 0))) ∧ S1 ma = some (4, .inl (g 2, 12, .inr (.inr (.inr (.inr (rfs mo 12)))))) ∧ S1 hd = some (5, .inl (g 0, 12, .inl (fun _ => 0))) ∧ yS g 100 40 eo ek en (fun _ => 4) (fun _ => 0) (fun _ _ => 0) (fun _ _ => 0) S1 ∧ yS g 300 12 mo mk mn (fun _ => 4) (fun _ => 0) (fun _ _ => 0) (fun _ _ => 0) S1 ∧ (∀ b, S b ≠ none → b ≠ o → S1 b = S b)) (mp_B1 D classes S sz) (mp_A S sz)) 161 642 (mp_A S sz) := by
  refine Met.ofW (cc := b_B_init) (maxL := 3) (ret := none) (by decide) rfl ?_
  intro p e s m args below meth c s₁ B hml hv
  obtain ⟨rfl, hsz, hH, hK⟩ := hv
  have hx := B.exec
  have hb := B.bytes
  have hr := B.returns
  have hts := atoms_spec (ws := w_B_init) B.pre
  have hg : ∀ w ∈ gw, w.before _ s = true := fun w h => hts w (List.mem_cons_of_mem _ h)
  have hown : s.vm.findClass R_B = some m.cls := findClass_of_methodNamed B.named
  have hlocks := B.notSynchronized
  have hin : meth.name = "<init>" := (name_of_methodNamed B.named B.method).1
  subst hsz
  have hI := mp_I.start hH
  have hl := lv_entry ([.ref o, .int x]) (n := 3) (Nat.le_of_ble_eq_true rfl)
  rw [lg_entry_eq]
  generalize (lg_sl ([.ref o, .int x]) ++ List.replicate (3 - (lg_sl ([.ref o, .int x])).length) Slot.unset).toArray = ls at hl ⊢
  have hl : lv_has ls 3 [(0, .ref o), (1, .int x)] := hl
  have hfr : ∀ b, S b ≠ none → b ≠ o → S b = S b := fun _ _ _ => rfl
  refine lv_aload_n hx hb d_B_init_0 rfl (lv_at hl 0 rfl) ?_
  refine W.objInit hx hb hown (hg _ q_28) (hg _ q_29) (hg _ q_30) rfl (by rw [hml]; exact hl.1) rfl d_B_init_1 (Nat.le_of_ble_eq_true rfl) (Nat.le_of_ble_eq_true rfl) ?_
  refine lv_aload_n hx hb d_B_init_4 rfl (lv_at hl 0 rfl) ?_
  refine lv_bipush (v := nI 40) hx hb d_B_init_5 (by decide) ?_
  have hI0 := hI
  refine mp_newq (N' := 40) hx hb hown (hg _ q_31) (hK.use q_32 rfl) hK.va hI 2 1 rfl (by decide) (by decide) (Nat.le_of_ble_eq_true rfl) (Nat.le_of_ble_eq_true rfl) (Nat.le_of_ble_eq_true rfl) d_B_init_7 (fun S1 H2 z_4 e_3 hI => ?_)
  obtain ⟨a5, ea5⟩ : ∃ z, z = s.heap.size := ⟨_, rfl⟩
  have g_a5 : s.heap.size ≤ a5 := by rw [ea5]; exact hI0.2.2.1.1
  rw [← ea5] at z_4 e_3
  refine W.eq (g2 := F0 m 10 ls [.ref a5, .ref o]) (by rw [ea5]) ?_
  have h_o : S1 o = some (0, .inr (0, [.int 0, .null, .null, .null, .int 0, .int 0, .int 0, .int 0, .int 0, .null])) := by rw [e_3]; exact mp_keepN h_o z_4
  have h_6 : S1 a5 = some (1, .inl ((g 2), 40, .inr (.inr (.inr (.inr (fun _ => none)))))) := by rw [e_3]; exact mp_us _ _ _
  have nb_a5 : ∀ b, S b ≠ none → b ≠ o → b ≠ a5 := fun b h9 k0 z9 => h9 ((hfr b h9 k0).symm.trans (by rw [z9]; exact z_4))
  have hfr : ∀ b, S b ≠ none → b ≠ o → S1 b = S b := fun b h9 k0 => by rw [e_3]; exact (mp_un (nb_a5 b h9 k0)).trans (hfr b h9 k0)
  refine mp_putF (C := R_B) (T := F_B) (N := 10) (v := .ref a5) (ty := .array (.object "SolutionBoxes$Polynomial")) hx hb hg i_B t_B t_B_ok n_B hown hK.va hI h_o rfl 1 (by decide) (hg _ q_83) (fun _ h9 => h9) rfl hin rfl (by decide +kernel) (rfl) rfl (Nat.le_of_ble_eq_true rfl) d_B_init_10 (fun S7 H8 locs e_9 hI => ?_)
  have e_9 : S7 = va_up S1 o (some (0, .inr (0, [.int 0, .ref a5, .null, .null, .int 0, .int 0, .int 0, .int 0, .int 0, .null]))) := e_9
  have h_6 : S7 a5 = some (1, .inl ((g 2), 40, .inr (.inr (.inr (.inr (fun _ => none)))))) := by rw [e_9]; exact mp_keep h_6 h_o (by decide)
  have h_o : S7 o = some (0, .inr (0, [.int 0, .ref a5, .null, .null, .int 0, .int 0, .int 0, .int 0, .int 0, .null])) := by rw [e_9]; exact mp_us _ _ _
  have hfr : ∀ b, S b ≠ none → b ≠ o → S7 b = S b := fun b h9 k0 => by rw [e_9]; exact (mp_un k0).trans (hfr b h9 k0)
  refine lv_aload_n hx hb d_B_init_13 rfl (lv_at hl 0 rfl) ?_
  have hI0 := hI
  refine mp_new (C := R_K) (T := F_K) (N := 3) (ci := 9) (fs := [.null, .null, .int 0]) hx hb hg i_K t_K t_K_ok hown (hg _ q_33) (hg _ q_34) (hg _ q_2) hK.va hI 2 rfl (fun j hj => by rcases (show j = 0 ∨ j = 1 ∨ j = 2 by omega) with rfl | rfl | rfl <;> rfl) (Nat.le_of_ble_eq_true rfl) (Nat.le_of_ble_eq_true rfl) d_B_init_14 (fun S10 H11 z_13 e_12 hI => ?_)
  obtain ⟨a14, ea14⟩ : ∃ z, z = H8.size := ⟨_, rfl⟩
  have g_a14 : s.heap.size ≤ a14 := by rw [ea14]; exact hI0.2.2.1.1
  rw [← ea14] at z_13 e_12
  refine W.eq (g2 := F0 m 17 ls [.ref a14, .ref o]) (by rw [ea14]) ?_
  have h_o : S10 o = some (0, .inr (0, [.int 0, .ref a5, .null, .null, .int 0, .int 0, .int 0, .int 0, .int 0, .null])) := by rw [e_12]; exact mp_keepN h_o z_13
  have h_6 : S10 a5 = some (1, .inl ((g 2), 40, .inr (.inr (.inr (.inr (fun _ => none)))))) := by rw [e_12]; exact mp_keepN h_6 z_13
  have h_15 : S10 a14 = some (2, .inr (9, [.null, .null, .int 0])) := by rw [e_12]; exact mp_us _ _ _
  have nb_a14 : ∀ b, S b ≠ none → b ≠ o → b ≠ a14 := fun b h9 k0 z9 => h9 ((hfr b h9 k0).symm.trans (by rw [z9]; exact z_13))
  have hfr : ∀ b, S b ≠ none → b ≠ o → S10 b = S b := fun b h9 k0 => by rw [e_12]; exact (mp_un (nb_a14 b h9 k0)).trans (hfr b h9 k0)
  refine lv_dup hx hb d_B_init_17 rfl ?_
  refine mp_callv hI (va_runI (As := []) (rest := [.ref a14, .ref o]) ⟨hx, hb, hml, hown, hg⟩ (c_K_init l D g S10 _ a14 h_15) ⟨(callB_of 0 hg (wd_goodG q_37) rfl rfl rfl (hg _ q_2) (hg _ q_35) (by decide +kernel) ⟨Nat.le_of_ble_eq_true rfl, Nat.le_of_ble_eq_true rfl⟩), rfl, hg _ q_36⟩ (mp_pre hI hK ([.ref a14])) rfl rfl hl.1 rfl (lv_room (Nat.le_of_ble_eq_true rfl)) d_B_init_18 ⟨Nat.le_of_ble_eq_true rfl, Nat.le_of_ble_eq_true rfl⟩) (fun S16 H17 locs p_18 hI => ?_)
  obtain ⟨ma, hd, mo, mk, mn, gma, ghd, h_lo, h_ma, h_hd, hM, hf⟩ := p_18
  have h_o : S16 o = some (0, .inr (0, [.int 0, .ref a5, .null, .null, .int 0, .int 0, .int 0, .int 0, .int 0, .null])) := (hf o (mp_in h_o) (mp_ne h_o h_15 (by decide))).trans h_o
  have h_6 : S16 a5 = some (1, .inl ((g 2), 40, .inr (.inr (.inr (.inr (fun _ => none)))))) := (hf a5 (mp_in h_6) (mp_ne h_6 h_15 (by decide))).trans h_6
  have hfr : ∀ b, S b ≠ none → b ≠ o → S16 b = S b := fun b h9 k0 => (hf b (by rw [hfr b h9 k0]; exact h9) (nb_a14 b h9 k0)).trans (hfr b h9 k0)
  refine mp_putF (C := R_B) (T := F_B) (N := 10) (v := .ref a14) (ty := .object "SolutionBoxes$TakenList") hx hb hg i_B t_B t_B_ok n_B hown hK.va hI h_o rfl 2 (by decide) (hg _ q_84) (fun _ h9 => h9) rfl hin rfl (by decide +kernel) (rfl) rfl (Nat.le_of_ble_eq_true rfl) d_B_init_21 (fun S20 H21 locs e_22 hI => ?_)
  have e_22 : S20 = va_up S16 o (some (0, .inr (0, [.int 0, .ref a5, .ref a14, .null, .int 0, .int 0, .int 0, .int 0, .int 0, .null]))) := e_22
  have h_o_o := h_o
  have h_6 : S20 a5 = some (1, .inl ((g 2), 40, .inr (.inr (.inr (.inr (fun _ => none)))))) := by rw [e_22]; exact mp_keep h_6 h_o (by decide)
  have h_lo : S20 a14 = some (2, .inr (9, [.ref ma, .ref hd, .int 0])) := by rw [e_22]; exact mp_keep h_lo h_o (by decide)
  have h_ma : S20 ma = some (4, .inl ((g 2), 12, .inr (.inr (.inr (.inr (rfs mo 12)))))) := by rw [e_22]; exact mp_keep h_ma h_o (by decide)
  have h_hd : S20 hd = some (5, .inl ((g 0), 12, .inl (fun _ => 0))) := by rw [e_22]; exact mp_keep h_hd h_o (by decide)
  have h_o : S20 o = some (0, .inr (0, [.int 0, .ref a5, .ref a14, .null, .int 0, .int 0, .int 0, .int 0, .int 0, .null])) := by rw [e_22]; exact mp_us _ _ _
  have hM := yS_kept hM (S1 := S20) (fun b t9 e9 hb9 h1 h2 => by rw [e_22]; exact mp_un (mp_ne hb9 h_o_o (by omega)))
  have hfr : ∀ b, S b ≠ none → b ≠ o → S20 b = S b := fun b h9 k0 => by rw [e_22]; exact (mp_un k0).trans (hfr b h9 k0)
  refine lv_aload_n hx hb d_B_init_24 rfl (lv_at hl 0 rfl) ?_
  refine lv_iconst (v := nI 3) hx hb d_B_init_25 (by decide) ?_
  have hI0 := hI
  refine mp_newi (N' := 3) hx hb (hg _ q_60) hK.va hI 0 3 rfl (by decide) (by decide) (Nat.le_of_ble_eq_true rfl) (Nat.le_of_ble_eq_true rfl) (Nat.le_of_ble_eq_true rfl) d_B_init_26 (fun S23 H24 z_26 e_25 hI => ?_)
  obtain ⟨a27, ea27⟩ : ∃ z, z = H21.size := ⟨_, rfl⟩
  have g_a27 : s.heap.size ≤ a27 := by rw [ea27]; exact hI0.2.2.1.1
  rw [← ea27] at z_26 e_25
  refine W.eq (g2 := F0 m 28 ls [.ref a27, .ref o]) (by rw [ea27]) ?_
  have h_o : S23 o = some (0, .inr (0, [.int 0, .ref a5, .ref a14, .null, .int 0, .int 0, .int 0, .int 0, .int 0, .null])) := by rw [e_25]; exact mp_keepN h_o z_26
  have h_6 : S23 a5 = some (1, .inl ((g 2), 40, .inr (.inr (.inr (.inr (fun _ => none)))))) := by rw [e_25]; exact mp_keepN h_6 z_26
  have h_lo : S23 a14 = some (2, .inr (9, [.ref ma, .ref hd, .int 0])) := by rw [e_25]; exact mp_keepN h_lo z_26
  have h_ma : S23 ma = some (4, .inl ((g 2), 12, .inr (.inr (.inr (.inr (rfs mo 12)))))) := by rw [e_25]; exact mp_keepN h_ma z_26
  have h_hd : S23 hd = some (5, .inl ((g 0), 12, .inl (fun _ => 0))) := by rw [e_25]; exact mp_keepN h_hd z_26
  have h_28 : S23 a27 = some (3, .inl ((g 0), 3, .inl (fun _ => 0))) := by rw [e_25]; exact mp_us _ _ _
  have hM := yS_kept hM (S1 := S23) (fun b t9 e9 hb9 h1 h2 => by rw [e_25]; exact mp_un (fun z9 => by rw [z9, z_26] at hb9; cases hb9))
  have nb_a27 : ∀ b, S b ≠ none → b ≠ o → b ≠ a27 := fun b h9 k0 z9 => h9 ((hfr b h9 k0).symm.trans (by rw [z9]; exact z_26))
  have hfr : ∀ b, S b ≠ none → b ≠ o → S23 b = S b := fun b h9 k0 => by rw [e_25]; exact (mp_un (nb_a27 b h9 k0)).trans (hfr b h9 k0)
  refine mp_putF (C := R_B) (T := F_B) (N := 10) (v := .ref a27) (ty := .array .int) hx hb hg i_B t_B t_B_ok n_B hown hK.va hI h_o rfl 3 (by decide) (hg _ q_85) (fun _ h9 => h9) rfl hin rfl (by decide +kernel) (rfl) rfl (Nat.le_of_ble_eq_true rfl) d_B_init_28 (fun S29 H30 locs e_31 hI => ?_)
  have e_31 : S29 = va_up S23 o (some (0, .inr (0, [.int 0, .ref a5, .ref a14, .ref a27, .int 0, .int 0, .int 0, .int 0, .int 0, .null]))) := e_31
  have h_o_o := h_o
  have h_6 : S29 a5 = some (1, .inl ((g 2), 40, .inr (.inr (.inr (.inr (fun _ => none)))))) := by rw [e_31]; exact mp_keep h_6 h_o (by decide)
  have h_lo : S29 a14 = some (2, .inr (9, [.ref ma, .ref hd, .int 0])) := by rw [e_31]; exact mp_keep h_lo h_o (by decide)
  have h_ma : S29 ma = some (4, .inl ((g 2), 12, .inr (.inr (.inr (.inr (rfs mo 12)))))) := by rw [e_31]; exact mp_keep h_ma h_o (by decide)
  have h_hd : S29 hd = some (5, .inl ((g 0), 12, .inl (fun _ => 0))) := by rw [e_31]; exact mp_keep h_hd h_o (by decide)
  have h_28 : S29 a27 = some (3, .inl ((g 0), 3, .inl (fun _ => 0))) := by rw [e_31]; exact mp_keep h_28 h_o (by decide)
  have h_o : S29 o = some (0, .inr (0, [.int 0, .ref a5, .ref a14, .ref a27, .int 0, .int 0, .int 0, .int 0, .int 0, .null])) := by rw [e_31]; exact mp_us _ _ _
  have hM := yS_kept hM (S1 := S29) (fun b t9 e9 hb9 h1 h2 => by rw [e_31]; exact mp_un (mp_ne hb9 h_o_o (by omega)))
  have hfr : ∀ b, S b ≠ none → b ≠ o → S29 b = S b := fun b h9 k0 => by rw [e_31]; exact (mp_un k0).trans (hfr b h9 k0)
  refine lv_aload_n hx hb d_B_init_31 rfl (lv_at hl 0 rfl) ?_
  refine lv_iconst (v := nI 1) hx hb d_B_init_32 (by decide) ?_
  refine lv_iconst (v := nI 3) hx hb d_B_init_33 (by decide) ?_
  refine lv_iload_n hx hb d_B_init_34 rfl (lv_at hl 1 rfl) ?_
  refine va_mmin hx hb (hml.trans hl.1.symm) hown (hg _ q_75) (hg _ q_76) (hg _ q_4) (hg _ q_77) (Nat.le_of_ble_eq_true rfl) (Nat.le_of_ble_eq_true rfl) (Nat.le_of_ble_eq_true rfl) (Nat.le_of_ble_eq_true rfl) d_B_init_35 ?_
  refine va_mmax hx hb (hml.trans hl.1.symm) hown (hg _ q_78) (hg _ q_79) (hg _ q_4) (hg _ q_80) (Nat.le_of_ble_eq_true rfl) (Nat.le_of_ble_eq_true rfl) (Nat.le_of_ble_eq_true rfl) (Nat.le_of_ble_eq_true rfl) d_B_init_38 ?_
  refine lv_topi (fun v32 ev32 => ?_)
  obtain rfl : v32 = nI (lcN x) := ev32.trans (lc_ok x)
  refine mp_putF (C := R_B) (T := F_B) (N := 10) (v := .int (nI (lcN x))) (ty := .int) hx hb hg i_B t_B t_B_ok n_B hown hK.va hI h_o rfl 0 (by decide) (hg _ q_82) (fun _ h9 => h9) rfl hin rfl (by decide +kernel) (rfl) rfl (Nat.le_of_ble_eq_true rfl) d_B_init_41 (fun S33 H34 locs e_35 hI => ?_)
  have e_35 : S33 = va_up S29 o (some (0, .inr (0, [.int (nI (lcN x)), .ref a5, .ref a14, .ref a27, .int 0, .int 0, .int 0, .int 0, .int 0, .null]))) := e_35
  have h_o_o := h_o
  have h_6 : S33 a5 = some (1, .inl ((g 2), 40, .inr (.inr (.inr (.inr (fun _ => none)))))) := by rw [e_35]; exact mp_keep h_6 h_o (by decide)
  have h_lo : S33 a14 = some (2, .inr (9, [.ref ma, .ref hd, .int 0])) := by rw [e_35]; exact mp_keep h_lo h_o (by decide)
  have h_ma : S33 ma = some (4, .inl ((g 2), 12, .inr (.inr (.inr (.inr (rfs mo 12)))))) := by rw [e_35]; exact mp_keep h_ma h_o (by decide)
  have h_hd : S33 hd = some (5, .inl ((g 0), 12, .inl (fun _ => 0))) := by rw [e_35]; exact mp_keep h_hd h_o (by decide)
  have h_28 : S33 a27 = some (3, .inl ((g 0), 3, .inl (fun _ => 0))) := by rw [e_35]; exact mp_keep h_28 h_o (by decide)
  have h_o : S33 o = some (0, .inr (0, [.int (nI (lcN x)), .ref a5, .ref a14, .ref a27, .int 0, .int 0, .int 0, .int 0, .int 0, .null])) := by rw [e_35]; exact mp_us _ _ _
  have hM := yS_kept hM (S1 := S33) (fun b t9 e9 hb9 h1 h2 => by rw [e_35]; exact mp_un (mp_ne hb9 h_o_o (by omega)))
  have hfr : ∀ b, S b ≠ none → b ≠ o → S33 b = S b := fun b h9 k0 => by rw [e_35]; exact (mp_un k0).trans (hfr b h9 k0)
  refine lv_iconst (v := nI 0) hx hb d_B_init_44 (by decide) ?_
  refine lv_istore_n (lv' := [(2, .int (nI 0)), (0, .ref o), (1, .int x)]) hx hb d_B_init_45 rfl hl (by decide) rfl (fun ls hl => ?_)
  have h_6 : S33 a5 = some (1, .inl ((g 2), 40, .inr (.inr (.inr (.inr (rfs (fun _ => 0) 0)))))) := h_6.trans (by rw [rfs_0 (fun _ => 0)])
  refine lp_B_init (c0 := 0 + 1 + 1 + 38 + 1) (s0 := 0 + 40 + 3 + 156 + 3) (B := S33) (o := o) (pa := a5) (lo := a14) (fa := a27) (x := x) (u9 := 0) hx hb hml hg hown hK (Nat.le_of_ble_eq_true rfl) (Nat.le_of_ble_eq_true rfl) (Nat.le_of_ble_eq_true rfl) (Nat.le_of_ble_eq_true rfl) 40 0 (fun _ => 0) (fun _ => 0) (fun _ => 0) S33 H34 _ ls rfl h_o h_6 (fun j h => absurd h (Nat.not_lt_zero j)) (fun _ _ _ _ => rfl) hI (lv_sub hl [0, 1] rfl) (fun eo ek en S9 H9 locs9 ls9 j_o j_pa jE jfr hI hl => ?_)
  refine mp_vret hx hb hr hlocks hI (by decide) (by decide) ?_ d_B_init_71
  exact ⟨a5, a14, a27, ma, hd, eo, ek, en, mo, mk, mn, j_o, j_pa, (jfr _ (mp_in h_lo) (mp_ne h_lo h_o (by decide)) (mp_ne h_lo h_6 (by decide))).trans h_lo, (jfr _ (mp_in h_28) (mp_ne h_28 h_o (by decide)) (mp_ne h_28 h_6 (by decide))).trans h_28, (jfr _ (mp_in h_ma) (mp_ne h_ma h_o (by decide)) (mp_ne h_ma h_6 (by decide))).trans h_ma, (jfr _ (mp_in h_hd) (mp_ne h_hd h_o (by decide)) (mp_ne h_hd h_6 (by decide))).trans h_hd, jE, yS_kept hM (fun b t9 e9 hb9 h1 h2 => jfr b (mp_in hb9) (mp_ne hb9 h_o (by omega)) (mp_ne hb9 h_6 (by omega))), fun b h9 k0 => (jfr b (by rw [hfr b h9 k0]; exact h9) k0 (nb_a5 b h9 k0)).trans (hfr b h9 k0)⟩
