/-! The powers in their order: E 0, E 1, ..; the place of a power is its number there. -/
def tr2 (n : Nat) : Nat := n * (n + 1) / 2
def tr3 (n : Nat) : Nat := n * (n + 1) * (n + 2) / 6
theorem even2 (n : Nat) : n * (n + 1) = 2 * tr2 n := by
  have h : n * (n + 1) % 2 = 0 := by
    rcases Nat.mod_two_eq_zero_or_one n with h | h
    · rw [Nat.mul_mod, h]; simp
    · rw [Nat.mul_mod, Nat.add_mod, h]
  unfold tr2; omega
theorem tr2_succ (n : Nat) : tr2 (n + 1) = tr2 n + (n + 1) := by
  have h1 := even2 n
  have h2 := even2 (n + 1)
  have h3 : (n + 1) * (n + 1 + 1) = n * (n + 1) + 2 * (n + 1) := by rw [Nat.mul_comm n (n + 1), ← Nat.mul_comm (n + 1) 2, ← Nat.mul_add]
  omega
theorem six3 : ∀ n : Nat, n * (n + 1) * (n + 2) = 6 * tr3 n
  | 0 => rfl
  | n + 1 => by
    have ih := six3 n
    have h2 := even2 (n + 1)
    have e : (n + 1) * (n + 1 + 1) * (n + 1 + 2) = n * (n + 1) * (n + 2) + 3 * ((n + 1) * (n + 1 + 1)) := by
      rw [show n * (n + 1) * (n + 2) = (n + 1) * (n + 1 + 1) * n by rw [Nat.mul_comm n (n + 1), Nat.mul_assoc, Nat.mul_comm n (n + 2), ← Nat.mul_assoc]]
      rw [Nat.mul_comm 3, ← Nat.mul_add]
    have : (n + 1) * (n + 1 + 1) * (n + 1 + 2) = 6 * (tr3 n + tr2 (n + 1)) := by rw [e, ih, h2]; omega
    have h6 : tr3 (n + 1) = tr3 n + tr2 (n + 1) := by
      show (n + 1) * (n + 1 + 1) * (n + 1 + 2) / 6 = _
      rw [this]; omega
    rw [this, h6]
theorem tr3_succ (n : Nat) : tr3 (n + 1) = tr3 n + tr2 (n + 1) := by
  have h1 := six3 n
  have h2 := six3 (n + 1)
  have h3 := even2 (n + 1)
  have e : (n + 1) * (n + 1 + 1) * (n + 1 + 2) = n * (n + 1) * (n + 2) + 3 * ((n + 1) * (n + 1 + 1)) := by
    rw [show n * (n + 1) * (n + 2) = (n + 1) * (n + 1 + 1) * n by rw [Nat.mul_comm n (n + 1), Nat.mul_assoc, Nat.mul_comm n (n + 2), ← Nat.mul_assoc]]
    rw [Nat.mul_comm 3, ← Nat.mul_add]
  omega
theorem pred2 (a : Nat) : a * (a - 1) / 2 + a = tr2 a := by
  cases a with
  | zero => rfl
  | succ n =>
    have h := even2 n
    have h2 := tr2_succ n
    rw [show (n + 1) * (n + 1 - 1) = n * (n + 1) by rw [Nat.add_sub_cancel, Nat.mul_comm]]
    omega
theorem plN_eq (a b d : Nat) : plN a b d + tr2 a = tr3 (a + b + d) + a * (a + b + d + 1) + a + b := by
  have h1 := pred2 a
  have h2 := tri_le a (a + b + d) (by omega)
  unfold plN tr3
  omega
/-- the next power -/
def nxt (t : Nat × Nat × Nat) : Nat × Nat × Nat := if 0 < t.2.2 then (t.1, t.2.1 + 1, t.2.2 - 1) else if 0 < t.2.1 then (t.1 + 1, 0, t.2.1 - 1) else (0, 0, t.1 + 1)
def pl3 (t : Nat × Nat × Nat) : Nat := plN t.1 t.2.1 t.2.2
theorem pl_nxt : ∀ t : Nat × Nat × Nat, pl3 (nxt t) = pl3 t + 1 := by
  rintro ⟨a, b, d⟩
  unfold nxt pl3
  by_cases h1 : 0 < d
  · simp only [h1, if_true]
    have e1 := plN_eq a b d
    have e2 := plN_eq a (b + 1) (d - 1)
    rw [show a + (b + 1) + (d - 1) = a + b + d by omega] at e2
    omega
  · simp only [h1, if_false]
    obtain rfl : d = 0 := by omega
    by_cases h2 : 0 < b
    · simp only [h2, if_true]
      have e1 := plN_eq a b 0
      have e2 := plN_eq (a + 1) 0 (b - 1)
      have e3 := tr2_succ a
      rw [show a + 1 + 0 + (b - 1) = a + b by omega] at e2
      rw [Nat.add_zero] at e1
      have e4 : (a + 1) * (a + b + 1) = a * (a + b + 1) + (a + b + 1) := Nat.succ_mul _ _
      omega
    · simp only [h2, if_false]
      obtain rfl : b = 0 := by omega
      have e1 := plN_eq a 0 0
      have e2 := plN_eq 0 0 (a + 1)
      have e3 := tr3_succ a
      have e4 := tr2_succ a
      have e5 := even2 a
      simp only [Nat.add_zero, Nat.zero_add, Nat.zero_mul] at e1 e2
      have e6 : tr2 0 = 0 := rfl
      omega
def Ep : Nat → Nat × Nat × Nat
  | 0 => (0, 0, 0)
  | i + 1 => nxt (Ep i)
theorem pl_Ep : ∀ i, pl3 (Ep i) = i
  | 0 => rfl
  | i + 1 => by
    show pl3 (nxt (Ep i)) = _
    rw [pl_nxt, pl_Ep i]
def prv (t : Nat × Nat × Nat) : Nat × Nat × Nat := if 0 < t.2.1 then (t.1, t.2.1 - 1, t.2.2 + 1) else if 0 < t.1 then (t.1 - 1, t.2.2 + 1, 0) else (t.2.2 - 1, 0, 0)
theorem nxt_prv {t : Nat × Nat × Nat} (h : t ≠ (0, 0, 0)) : nxt (prv t) = t := by
  obtain ⟨a, b, d⟩ := t
  unfold nxt prv
  by_cases h1 : 0 < b
  · simp [h1, show b - 1 + 1 = b by omega]
  · obtain rfl : b = 0 := by omega
    by_cases h2 : 0 < a
    · simp [h2, show a - 1 + 1 = a by omega]
    · obtain rfl : a = 0 := by omega
      have hd : 0 < d := Nat.pos_of_ne_zero fun z => h (by rw [z])
      simp [show d - 1 + 1 = d by omega]
theorem Ep_pl : ∀ (n : Nat) (t : Nat × Nat × Nat), pl3 t = n → Ep n = t
  | 0, t, h => by
    by_cases ht : t = (0, 0, 0)
    · rw [ht]; rfl
    · have := pl_nxt (prv t)
      rw [nxt_prv ht] at this
      omega
  | n + 1, t, h => by
    by_cases ht : t = (0, 0, 0)
    · rw [ht] at h
      have h0 : pl3 (0, 0, 0) = 0 := rfl
      omega
    · have := pl_nxt (prv t)
      rw [nxt_prv ht] at this
      show nxt (Ep n) = t
      rw [Ep_pl n (prv t) (by omega), nxt_prv ht]
theorem pl_inj {a b d a1 b1 d1 : Nat} (h : plN a b d = plN a1 b1 d1) : a = a1 ∧ b = b1 ∧ d = d1 := by
  have h1 := Ep_pl _ (a, b, d) rfl
  have h2 := Ep_pl _ (a1, b1, d1) rfl
  have h3 : pl3 (a, b, d) = pl3 (a1, b1, d1) := h
  rw [h3, h2] at h1
  simp at h1
  omega
/-- below a degree's first place -/
theorem pl_deg (a b d : Nat) : tr3 (a + b + d) ≤ plN a b d ∧ plN a b d < tr3 (a + b + d + 1) := by
  have e := plN_eq a b d
  have h3 := tr3_succ (a + b + d)
  have h2 := even2 (a + b + d)
  have h1 := tr2_succ (a + b + d)
  have h4 := even2 a
  generalize hs : a + b + d = n at *
  have ha : a ≤ n := by omega
  obtain ⟨k, rfl⟩ : ∃ k, n = a + k := ⟨n - a, by omega⟩
  have e1 : a * (a + k + 1) = a * (a + 1) + a * k := by rw [← Nat.mul_add]; congr 1; omega
  have e2 : (a + k) * (a + k + 1) = a * (a + 1) + a * k + (k * a + k * (k + 1)) := by
    rw [Nat.add_mul, e1, show k * (a + k + 1) = k * a + k * (k + 1) by rw [← Nat.mul_add, Nat.add_assoc]]
  have e3 := even2 k
  have e4 : k * a = a * k := Nat.mul_comm _ _
  constructor
  · omega
  · omega
theorem tr3_mono {m n : Nat} (h : m ≤ n) : tr3 m ≤ tr3 n := by
  induction h with
  | refl => exact Nat.le_refl _
  | step _ ih => exact Nat.le_trans ih (by rw [tr3_succ]; omega)
theorem pl_lt {a b d M : Nat} (h : a + b + d ≤ M) : plN a b d < tr3 (M + 1) := Nat.lt_of_lt_of_le (pl_deg a b d).2 (tr3_mono (by omega))
theorem pl_deg_le {a b d M : Nat} (h : plN a b d < tr3 (M + 1)) : a + b + d ≤ M := by
  rcases Nat.lt_or_ge M (a + b + d) with q | q
  · have := (pl_deg a b d).1
    have := tr3_mono (show M + 1 ≤ a + b + d by omega)
    omega
  · exact q
/-- the key of the i-th power -/
def kE (i : Nat) : Nat := kN (Ep i).1 (Ep i).2.1 (Ep i).2.2
theorem kE_pl (a b d : Nat) : kE (plN a b d) = kN a b d := by
  unfold kE
  have h := Ep_pl (plN a b d) (a, b, d) rfl
  rw [h]
/-- the first i keys are there -/
def FL (kp : Nat → Int32) (i : Nat) : Prop := ∀ j, j < i → kp j = nI (kE j)
theorem FL_0 (kp : Nat → Int32) : FL kp 0 := fun j h => absurd h (Nat.not_lt_zero j)
theorem FL_up {kp : Nat → Int32} {i : Nat} (h : FL kp i) {x : Int32} (hx : x = nI (kE i)) : FL (upd kp i x) (i + 1) := by
  intro j hj
  by_cases e : j = i
  · subst e; rw [pk_us]; exact hx
  · rw [pk_un e]; exact h j (by omega)
theorem pl_row {a b dg : Nat} (h : a + b ≤ dg) : plN a b (dg - a - b) = plN a 0 (dg - a) + b := by
  have e1 := plN_eq a b (dg - a - b)
  have e2 := plN_eq a 0 (dg - a)
  rw [show a + b + (dg - a - b) = dg by omega] at e1
  rw [show a + 0 + (dg - a) = dg by omega] at e2
  omega
theorem pl_next {a dg : Nat} (h : a < dg) : plN (a + 1) 0 (dg - (a + 1)) = plN a 0 (dg - a) + (dg - a + 1) := by
  have e1 := plN_eq (a + 1) 0 (dg - (a + 1))
  have e2 := plN_eq a 0 (dg - a)
  have e3 := tr2_succ a
  rw [show a + 1 + 0 + (dg - (a + 1)) = dg by omega] at e1
  rw [show a + 0 + (dg - a) = dg by omega] at e2
  have e4 : (a + 1) * (dg + 1) = a * (dg + 1) + (dg + 1) := Nat.succ_mul _ _
  omega
theorem pl_last (dg : Nat) : plN 0 0 (dg + 1) = plN dg 0 (dg - dg) + (dg - dg + 1) := by
  have h := pl_nxt (dg, 0, 0)
  have e : nxt (dg, 0, 0) = (0, 0, dg + 1) := by simp [nxt]
  rw [e] at h
  have h' : plN 0 0 (dg + 1) = plN dg 0 0 + 1 := h
  rw [h', Nat.sub_self]
theorem pl_000 (dg : Nat) : plN 0 0 dg = tr3 dg := by
  have e := plN_eq 0 0 dg
  have e6 : tr2 0 = 0 := rfl
  simp only [Nat.zero_add, Nat.zero_mul, Nat.add_zero] at e
  omega
theorem tr3_le {M : Nat} (h : M ≤ 27) : tr3 (M + 1) ≤ 4060 := Nat.le_trans (tr3_mono (show M + 1 ≤ 28 by omega)) (by decide)
theorem d_D_init_0 : decode b_D_init 0 = .ok (.aload_n 0, 1) := by decide +kernel
theorem d_D_init_1 : decode b_D_init 1 = .ok (.invokespecial 3, 3) := by decide +kernel
theorem d_D_init_4 : decode b_D_init 4 = .ok (.bipush 9, 2) := by decide +kernel
theorem d_D_init_6 : decode b_D_init 6 = .ok (.iload_n 1, 1) := by decide +kernel
theorem d_D_init_7 : decode b_D_init 7 = .ok (.imul, 1) := by decide +kernel
theorem d_D_init_8 : decode b_D_init 8 = .ok (.istore_n 2, 1) := by decide +kernel
theorem d_D_init_9 : decode b_D_init 9 = .ok (.iload_n 2, 1) := by decide +kernel
theorem d_D_init_10 : decode b_D_init 10 = .ok (.iconst 1, 1) := by decide +kernel
theorem d_D_init_11 : decode b_D_init 11 = .ok (.iadd, 1) := by decide +kernel
theorem d_D_init_12 : decode b_D_init 12 = .ok (.iload_n 2, 1) := by decide +kernel
theorem d_D_init_13 : decode b_D_init 13 = .ok (.iconst 2, 1) := by decide +kernel
theorem d_D_init_14 : decode b_D_init 14 = .ok (.iadd, 1) := by decide +kernel
theorem d_D_init_15 : decode b_D_init 15 = .ok (.imul, 1) := by decide +kernel
theorem d_D_init_16 : decode b_D_init 16 = .ok (.iload_n 2, 1) := by decide +kernel
theorem d_D_init_17 : decode b_D_init 17 = .ok (.iconst 3, 1) := by decide +kernel
theorem d_D_init_18 : decode b_D_init 18 = .ok (.iadd, 1) := by decide +kernel
theorem d_D_init_19 : decode b_D_init 19 = .ok (.imul, 1) := by decide +kernel
theorem d_D_init_20 : decode b_D_init 20 = .ok (.bipush 6, 2) := by decide +kernel
theorem d_D_init_22 : decode b_D_init 22 = .ok (.idiv, 1) := by decide +kernel
theorem d_D_init_23 : decode b_D_init 23 = .ok (.istore_n 3, 1) := by decide +kernel
theorem d_D_init_24 : decode b_D_init 24 = .ok (.aload_n 0, 1) := by decide +kernel
theorem d_D_init_25 : decode b_D_init 25 = .ok (.iload_n 3, 1) := by decide +kernel
theorem d_D_init_26 : decode b_D_init 26 = .ok (.newarray .int, 2) := by decide +kernel
theorem d_D_init_28 : decode b_D_init 28 = .ok (.putfield 9, 3) := by decide +kernel
theorem d_D_init_31 : decode b_D_init 31 = .ok (.aload_n 0, 1) := by decide +kernel
theorem d_D_init_32 : decode b_D_init 32 = .ok (.iload_n 3, 1) := by decide +kernel
theorem d_D_init_33 : decode b_D_init 33 = .ok (.newarray .int, 2) := by decide +kernel
theorem d_D_init_35 : decode b_D_init 35 = .ok (.putfield 15, 3) := by decide +kernel
theorem d_D_init_38 : decode b_D_init 38 = .ok (.iconst 0, 1) := by decide +kernel
theorem d_D_init_39 : decode b_D_init 39 = .ok (.istore 4, 2) := by decide +kernel
theorem d_D_init_41 : decode b_D_init 41 = .ok (.iconst 0, 1) := by decide +kernel
theorem d_D_init_42 : decode b_D_init 42 = .ok (.istore 5, 2) := by decide +kernel
theorem d_D_init_44 : decode b_D_init 44 = .ok (.iload 5, 2) := by decide +kernel
theorem d_D_init_46 : decode b_D_init 46 = .ok (.iload_n 2, 1) := by decide +kernel
theorem d_D_init_47 : decode b_D_init 47 = .ok (.if_icmp .gt 75, 3) := by decide +kernel
theorem d_D_init_50 : decode b_D_init 50 = .ok (.iconst 0, 1) := by decide +kernel
theorem d_D_init_51 : decode b_D_init 51 = .ok (.istore 6, 2) := by decide +kernel
theorem d_D_init_53 : decode b_D_init 53 = .ok (.iload 6, 2) := by decide +kernel
theorem d_D_init_55 : decode b_D_init 55 = .ok (.iload 5, 2) := by decide +kernel
theorem d_D_init_57 : decode b_D_init 57 = .ok (.if_icmp .gt 59, 3) := by decide +kernel
theorem d_D_init_60 : decode b_D_init 60 = .ok (.iconst 0, 1) := by decide +kernel
theorem d_D_init_61 : decode b_D_init 61 = .ok (.istore 7, 2) := by decide +kernel
theorem d_D_init_63 : decode b_D_init 63 = .ok (.iload 6, 2) := by decide +kernel
theorem d_D_init_65 : decode b_D_init 65 = .ok (.iload 7, 2) := by decide +kernel
theorem d_D_init_67 : decode b_D_init 67 = .ok (.iadd, 1) := by decide +kernel
theorem d_D_init_68 : decode b_D_init 68 = .ok (.iload 5, 2) := by decide +kernel
theorem d_D_init_70 : decode b_D_init 70 = .ok (.if_icmp .gt 40, 3) := by decide +kernel
theorem d_D_init_73 : decode b_D_init 73 = .ok (.iload 4, 2) := by decide +kernel
theorem d_D_init_75 : decode b_D_init 75 = .ok (.iload_n 3, 1) := by decide +kernel
theorem d_D_init_76 : decode b_D_init 76 = .ok (.if_icmp .ge 34, 3) := by decide +kernel
theorem d_D_init_79 : decode b_D_init 79 = .ok (.aload_n 0, 1) := by decide +kernel
theorem d_D_init_80 : decode b_D_init 80 = .ok (.getfield 15, 3) := by decide +kernel
theorem d_D_init_83 : decode b_D_init 83 = .ok (.iload 4, 2) := by decide +kernel
theorem d_D_init_85 : decode b_D_init 85 = .ok (.iload 6, 2) := by decide +kernel
theorem d_D_init_87 : decode b_D_init 87 = .ok (.iload 7, 2) := by decide +kernel
theorem d_D_init_89 : decode b_D_init 89 = .ok (.iload 5, 2) := by decide +kernel
theorem d_D_init_91 : decode b_D_init 91 = .ok (.iload 6, 2) := by decide +kernel
theorem d_D_init_93 : decode b_D_init 93 = .ok (.isub, 1) := by decide +kernel
theorem d_D_init_94 : decode b_D_init 94 = .ok (.iload 7, 2) := by decide +kernel
theorem d_D_init_96 : decode b_D_init 96 = .ok (.isub, 1) := by decide +kernel
theorem d_D_init_97 : decode b_D_init 97 = .ok (.invokestatic 18, 3) := by decide +kernel
theorem d_D_init_100 : decode b_D_init 100 = .ok (.iastore, 1) := by decide +kernel
theorem d_D_init_101 : decode b_D_init 101 = .ok (.iinc 4 1, 3) := by decide +kernel
theorem d_D_init_104 : decode b_D_init 104 = .ok (.iinc 7 1, 3) := by decide +kernel
theorem d_D_init_107 : decode b_D_init 107 = .ok (.goto (-44), 3) := by decide +kernel
theorem d_D_init_110 : decode b_D_init 110 = .ok (.iinc 6 1, 3) := by decide +kernel
theorem d_D_init_113 : decode b_D_init 113 = .ok (.goto (-60), 3) := by decide +kernel
theorem d_D_init_116 : decode b_D_init 116 = .ok (.iinc 5 1, 3) := by decide +kernel
theorem d_D_init_119 : decode b_D_init 119 = .ok (.goto (-75), 3) := by decide +kernel
theorem d_D_init_122 : decode b_D_init 122 = .ok (.return_, 1) := by decide +kernel
set_option maxHeartbeats 4000000 in
set_option maxRecDepth 100000 in
theorem lp_D3 {p : Program} {l : Launch} {e : Env} {R : Room} {s : State} {m : MethodId} {args : Array Value} {below : List Frame} {meth : Method} {c : Code} {Q : State → Prop} {D : mp_G} {g : Nat → ClassId} {A : Nat → Prop} {cells slots : Nat} (hx : p.tables.exec = Jvm.exec) (hb : c.code = b_D_init) (hml : c.maxLocals = 8) (hg : ∀ w ∈ gw, w.before args s = true) (hown : s.vm.findClass R_D = some m.cls) (hK : mp_K D classes (tys g) s) (hRf : 1 ≤ R.frames) (hRl : 22 ≤ R.locals) (hRc : cells ≤ R.cells) (hRs : slots ≤ R.slots) {B : mp_M} {o ra ka M : Nat} (hM : M ≤ 27) {a dg : Nat} (ha : a ≤ dg) (hdg : dg ≤ M) : ∀ (n b : Nat) (kp : Nat → Int32) (S : mp_M) (H : Heap) (locs : List Loc) (ls : Array Slot), b + n = dg - a + 1 → FL kp (plN a 0 (dg - a) + b) → S o = some (11, .inr (5, [.ref ra, .ref ka])) → S ka = some (13, .inl ((g 0), (tr3 (M + 1)), .inl kp)) → (∀ b, B b ≠ none → b ≠ ka → S b = B b) → mp_I D classes A s.heap S H locs → lv_has ls 8 [(7, .int (nI b)), (6, .int (nI a)), (5, .int (nI dg)), (4, .int (nI (plN a 0 (dg - a) + b))), (3, .int (nI (tr3 (M + 1)))), (2, .int (nI M)), (0, .ref o)] → (∀ (kp : Nat → Int32) (S : mp_M) (H : Heap) (locs : List Loc) (ls : Array Slot), FL kp (plN a 0 (dg - a) + (dg - a + 1)) → S o = some (11, .inr (5, [.ref ra, .ref ka])) → S ka = some (13, .inl ((g 0), (tr3 (M + 1)), .inl kp)) → (∀ b, B b ≠ none → b ≠ ka → S b = B b) → mp_I D classes A s.heap S H locs → lv_has ls 8 [(6, .int (nI a)), (5, .int (nI dg)), (4, .int (nI (plN a 0 (dg - a) + (dg - a + 1)))), (3, .int (nI (tr3 (M + 1)))), (2, .int (nI M)), (0, .ref o)] → W p l e R s m args below meth c H locs cells slots Q (F0 m 110 ls [])) → W p l e R s m args below meth c H locs cells slots Q (F0 m 63 ls []) := by
  intro n
  induction n with
  | zero =>
    intro b kp S H locs ls hn hFL h_o h_ka hfr hI hl kx
    obtain rfl : b = dg - a + 1 := by omega
    have hP := tr3_le hM
    refine lv_iload hx hb d_D_init_63 (lv_at hl 1 rfl) ?_
    refine lv_iload hx hb d_D_init_65 (lv_at hl 0 rfl) ?_
    refine lv_iadd hx hb d_D_init_67 ?_
    refine lv_topi (fun v1 ev1 => ?_)
    obtain rfl : v1 = nI (a + (dg - a + 1)) := ev1.trans (nI_add _ _)
    refine lv_iload hx hb d_D_init_68 (lv_at hl 2 rfl) ?_
    refine lv_icmp_gt (tgt := 110) hx hb d_D_init_70 (by decide) (fun _ => ?_) (fun h9 => absurd ((nI_ltI (by omega) (by omega)).mpr (by omega)) h9)
    exact kx kp S H locs ls hFL h_o h_ka hfr hI (lv_sub hl [1, 2, 3, 4, 5, 6] rfl)
  | succ n ih =>
    intro b kp S H locs ls hn hFL h_o h_ka hfr hI hl kx
    have hP := tr3_le hM
    have hrow := pl_row (show a + b ≤ dg by omega)
    have hlt := pl_lt (show a + b + (dg - a - b) ≤ M by omega)
    rw [hrow] at hlt
    refine lv_iload hx hb d_D_init_63 (lv_at hl 1 rfl) ?_
    refine lv_iload hx hb d_D_init_65 (lv_at hl 0 rfl) ?_
    refine lv_iadd hx hb d_D_init_67 ?_
    refine lv_topi (fun v1 ev1 => ?_)
    obtain rfl : v1 = nI (a + b) := ev1.trans (nI_add _ _)
    refine lv_iload hx hb d_D_init_68 (lv_at hl 2 rfl) ?_
    refine lv_icmp_gt (tgt := 110) hx hb d_D_init_70 (by decide) (fun h9 => absurd h9 (by rw [nI_ltI (by omega) (by omega)]; omega)) (fun _ => ?_)
    refine lv_iload hx hb d_D_init_73 (lv_at hl 3 rfl) ?_
    refine lv_iload_n hx hb d_D_init_75 rfl (lv_at hl 4 rfl) ?_
    refine lv_icmp_ge (tgt := 110) hx hb d_D_init_76 (by decide) (fun h9 => absurd h9 (by rw [nI_leI (by omega) (by omega)]; omega)) (fun _ => ?_)
    refine lv_aload_n hx hb d_D_init_79 rfl (lv_at hl 6 rfl) ?_
    refine mp_get (C := R_D) (T := F_D) (N := 2) (v := .ref ka) hx hb hg i_D hown hK.va hI h_o rfl 1 (by decide) (hg _ q_185) (fun _ h9 => h9) rfl d_D_init_80 ?_
    refine lv_iload hx hb d_D_init_83 (lv_at hl 3 rfl) ?_
    refine lv_iload hx hb d_D_init_85 (lv_at hl 1 rfl) ?_
    refine lv_iload hx hb d_D_init_87 (lv_at hl 0 rfl) ?_
    refine lv_iload hx hb d_D_init_89 (lv_at hl 2 rfl) ?_
    refine lv_iload hx hb d_D_init_91 (lv_at hl 1 rfl) ?_
    refine lv_isub hx hb d_D_init_93 ?_
    refine lv_topi (fun v2 ev2 => ?_)
    obtain rfl : v2 = nI (dg - a) := ev2.trans (pk_sub (by omega))
    refine lv_iload hx hb d_D_init_94 (lv_at hl 0 rfl) ?_
    refine lv_isub hx hb d_D_init_96 ?_
    refine lv_topi (fun v3 ev3 => ?_)
    obtain rfl : v3 = nI ((dg - a) - b) := ev3.trans (pk_sub (by omega))
    refine mp_calli hI (va_runS (As := [.int (nI a), .int (nI b), .int (nI ((dg - a) - b))]) (rest := [.int (nI (plN a 0 (dg - a) + b)), .ref ka]) ⟨hx, hb, hml, hown, hg⟩ (c_W_key l D g S _ a b (dg - a - b) (by omega) (by omega) (by omega)) ⟨(callB_of 3 hg (wd_goodG q_183) rfl rfl rfl (hg _ q_11) (hg _ q_181) (by decide +kernel) ⟨Nat.le_trans (Nat.le_of_ble_eq_true rfl) hRf, Nat.le_trans (Nat.le_of_ble_eq_true rfl) hRl⟩), hg _ q_182⟩ (mp_pre hI hK [.int (nI a), .int (nI b), .int (nI ((dg - a) - b))]) rfl rfl hl.1 rfl (lv_room (Nat.le_of_ble_eq_true rfl)) d_D_init_97 ⟨by omega, by omega⟩) (fun r7 S4 H5 locs p_6 hI => ?_)
    obtain ⟨er7, eS8⟩ := p_6
    rw [eS8] at hI
    have er7 : r7 = nI (kN a b (dg - a - b)) := er7
    subst er7
    refine mp_iast hx hb hK.va hI 0 h_ka rfl (vp_in_nI (by omega) (by omega)) d_D_init_100 (fun S9 H10 locs e_11 hI => ?_)
    have e_11 : S9 = va_up S ka (some (13, .inl ((g 0), (tr3 (M + 1)), .inl (upd kp (nI (plN a 0 (dg - a) + b)).toNatClampNeg (nI (kN a b (dg - a - b))))))) := e_11
    have h_o : S9 o = some (11, .inr (5, [.ref ra, .ref ka])) := by rw [e_11]; exact mp_keep h_o h_ka (by decide)
    have h_ka : S9 ka = some (13, .inl ((g 0), (tr3 (M + 1)), .inl (upd kp (nI (plN a 0 (dg - a) + b)).toNatClampNeg (nI (kN a b (dg - a - b)))))) := by rw [e_11]; exact mp_us _ _ _
    have hfr : ∀ b, B b ≠ none → b ≠ ka → S9 b = B b := fun b h9 k0 => by rw [e_11]; exact (mp_un k0).trans (hfr b h9 k0)
    rw [nI_clamp (by omega)] at h_ka
    have hFL1 : FL (upd kp (plN a 0 (dg - a) + b) (nI (kN a b (dg - a - b)))) (plN a 0 (dg - a) + b + 1) := FL_up hFL (by rw [← hrow, kE_pl])
    refine lv_iinc (v := nI ((plN a 0 (dg - a) + b) + 1)) (lv' := [(4, .int (nI ((plN a 0 (dg - a) + b) + 1))), (7, .int (nI b)), (6, .int (nI a)), (5, .int (nI dg)), (3, .int (nI (tr3 (M + 1)))), (2, .int (nI M)), (0, .ref o)]) hx hb d_D_init_101 hl (k := 3) rfl (nI_1 _) (by decide) rfl (fun ls hl => ?_)
    refine lv_iinc (v := nI (b + 1)) (lv' := [(7, .int (nI (b + 1))), (4, .int (nI ((plN a 0 (dg - a) + b) + 1))), (6, .int (nI a)), (5, .int (nI dg)), (3, .int (nI (tr3 (M + 1)))), (2, .int (nI M)), (0, .ref o)]) hx hb d_D_init_104 hl (k := 1) rfl (nI_1 _) (by decide) rfl (fun ls hl => ?_)
    refine lv_goto (tgt := 63) hx hb d_D_init_107 (by decide) ?_
    exact ih (b + 1) _ S9 H10 locs ls (by omega) hFL1 h_o h_ka hfr hI (lv_sub hl [0, 2, 3, 1, 4, 5, 6] rfl) kx
set_option maxHeartbeats 4000000 in
set_option maxRecDepth 100000 in
theorem lp_D2 {p : Program} {l : Launch} {e : Env} {R : Room} {s : State} {m : MethodId} {args : Array Value} {below : List Frame} {meth : Method} {c : Code} {Q : State → Prop} {D : mp_G} {g : Nat → ClassId} {A : Nat → Prop} {cells slots : Nat} (hx : p.tables.exec = Jvm.exec) (hb : c.code = b_D_init) (hml : c.maxLocals = 8) (hg : ∀ w ∈ gw, w.before args s = true) (hown : s.vm.findClass R_D = some m.cls) (hK : mp_K D classes (tys g) s) (hRf : 1 ≤ R.frames) (hRl : 22 ≤ R.locals) (hRc : cells ≤ R.cells) (hRs : slots ≤ R.slots) {B : mp_M} {o ra ka M : Nat} (hM : M ≤ 27) {dg : Nat} (hdg : dg ≤ M) : ∀ (n a : Nat) (kp : Nat → Int32) (S : mp_M) (H : Heap) (locs : List Loc) (ls : Array Slot), a + n = dg + 1 → FL kp (if a ≤ dg then plN a 0 (dg - a) else tr3 (dg + 1)) → S o = some (11, .inr (5, [.ref ra, .ref ka])) → S ka = some (13, .inl ((g 0), (tr3 (M + 1)), .inl kp)) → (∀ b, B b ≠ none → b ≠ ka → S b = B b) → mp_I D classes A s.heap S H locs → lv_has ls 8 [(6, .int (nI a)), (5, .int (nI dg)), (4, .int (nI (if a ≤ dg then plN a 0 (dg - a) else tr3 (dg + 1)))), (3, .int (nI (tr3 (M + 1)))), (2, .int (nI M)), (0, .ref o)] → (∀ (kp : Nat → Int32) (S : mp_M) (H : Heap) (locs : List Loc) (ls : Array Slot), FL kp (tr3 (dg + 1)) → S o = some (11, .inr (5, [.ref ra, .ref ka])) → S ka = some (13, .inl ((g 0), (tr3 (M + 1)), .inl kp)) → (∀ b, B b ≠ none → b ≠ ka → S b = B b) → mp_I D classes A s.heap S H locs → lv_has ls 8 [(5, .int (nI dg)), (4, .int (nI (tr3 (dg + 1)))), (3, .int (nI (tr3 (M + 1)))), (2, .int (nI M)), (0, .ref o)] → W p l e R s m args below meth c H locs cells slots Q (F0 m 116 ls [])) → W p l e R s m args below meth c H locs cells slots Q (F0 m 53 ls []) := by
  intro n
  induction n with
  | zero =>
    intro a kp S H locs ls hn hFL h_o h_ka hfr hI hl kx
    obtain rfl : a = dg + 1 := by omega
    rw [if_neg (by omega)] at hFL hl
    refine lv_iload hx hb d_D_init_53 (lv_at hl 0 rfl) ?_
    refine lv_iload hx hb d_D_init_55 (lv_at hl 1 rfl) ?_
    refine lv_icmp_gt (tgt := 116) hx hb d_D_init_57 (by decide) (fun _ => ?_) (fun h9 => absurd ((nI_ltI (by omega) (by omega)).mpr (by omega)) h9)
    exact kx kp S H locs ls hFL h_o h_ka hfr hI (lv_sub hl [1, 2, 3, 4, 5] rfl)
  | succ n ih =>
    intro a kp S H locs ls hn hFL h_o h_ka hfr hI hl kx
    rw [if_pos (by omega)] at hFL hl
    refine lv_iload hx hb d_D_init_53 (lv_at hl 0 rfl) ?_
    refine lv_iload hx hb d_D_init_55 (lv_at hl 1 rfl) ?_
    refine lv_icmp_gt (tgt := 116) hx hb d_D_init_57 (by decide) (fun h9 => absurd h9 (by rw [nI_ltI (by omega) (by omega)]; omega)) (fun _ => ?_)
    refine lv_iconst (v := nI 0) hx hb d_D_init_60 (by decide) ?_
    refine lv_istore (lv' := [(7, .int (nI 0)), (6, .int (nI a)), (5, .int (nI dg)), (4, .int (nI (plN a 0 (dg - a)))), (3, .int (nI (tr3 (M + 1)))), (2, .int (nI M)), (0, .ref o)]) hx hb d_D_init_61 hl (by decide) rfl (fun ls hl => ?_)
    refine lp_D3 hx hb hml hg hown hK hRf hRl hRc hRs hM (show a ≤ dg by omega) hdg (dg - a + 1) 0 kp S H locs ls (by omega) hFL h_o h_ka hfr hI (lv_sub hl [0, 1, 2, 3, 4, 5, 6] rfl) (fun kp S H locs ls hFL h_o h_ka hfr hI hl => ?_)
    refine lv_iinc (v := nI (a + 1)) (lv' := [(6, .int (nI (a + 1))), (5, .int (nI dg)), (4, .int (nI (plN a 0 (dg - a) + (dg - a + 1)))), (3, .int (nI (tr3 (M + 1)))), (2, .int (nI M)), (0, .ref o)]) hx hb d_D_init_110 hl (k := 0) rfl (nI_1 _) (by decide) rfl (fun ls hl => ?_)
    refine lv_goto (tgt := 53) hx hb d_D_init_113 (by decide) ?_
    have hnx : plN a 0 (dg - a) + (dg - a + 1) = if a + 1 ≤ dg then plN (a + 1) 0 (dg - (a + 1)) else tr3 (dg + 1) := by
      by_cases q : a + 1 ≤ dg
      · rw [if_pos q, pl_next (by omega)]
      · obtain rfl : a = dg := by omega
        rw [if_neg q, ← pl_000, pl_last]
    rw [hnx] at hFL hl
    exact ih (a + 1) kp S H locs ls (by omega) hFL h_o h_ka hfr hI (lv_sub hl [0, 1, 2, 3, 4, 5] rfl) kx
set_option maxHeartbeats 4000000 in
set_option maxRecDepth 100000 in
theorem lp_D1 {p : Program} {l : Launch} {e : Env} {R : Room} {s : State} {m : MethodId} {args : Array Value} {below : List Frame} {meth : Method} {c : Code} {Q : State → Prop} {D : mp_G} {g : Nat → ClassId} {A : Nat → Prop} {cells slots : Nat} (hx : p.tables.exec = Jvm.exec) (hb : c.code = b_D_init) (hml : c.maxLocals = 8) (hg : ∀ w ∈ gw, w.before args s = true) (hown : s.vm.findClass R_D = some m.cls) (hK : mp_K D classes (tys g) s) (hRf : 1 ≤ R.frames) (hRl : 22 ≤ R.locals) (hRc : cells ≤ R.cells) (hRs : slots ≤ R.slots) {B : mp_M} {o ra ka M : Nat} (hM : M ≤ 27)  : ∀ (n dg : Nat) (kp : Nat → Int32) (S : mp_M) (H : Heap) (locs : List Loc) (ls : Array Slot), dg + n = M + 1 → FL kp (tr3 dg) → S o = some (11, .inr (5, [.ref ra, .ref ka])) → S ka = some (13, .inl ((g 0), (tr3 (M + 1)), .inl kp)) → (∀ b, B b ≠ none → b ≠ ka → S b = B b) → mp_I D classes A s.heap S H locs → lv_has ls 8 [(5, .int (nI dg)), (4, .int (nI (tr3 dg))), (3, .int (nI (tr3 (M + 1)))), (2, .int (nI M)), (0, .ref o)] → (∀ (kp : Nat → Int32) (S : mp_M) (H : Heap) (locs : List Loc) (ls : Array Slot), FL kp (tr3 (M + 1)) → S o = some (11, .inr (5, [.ref ra, .ref ka])) → S ka = some (13, .inl ((g 0), (tr3 (M + 1)), .inl kp)) → (∀ b, B b ≠ none → b ≠ ka → S b = B b) → mp_I D classes A s.heap S H locs → lv_has ls 8 [(3, .int (nI (tr3 (M + 1)))), (2, .int (nI M)), (0, .ref o)] → W p l e R s m args below meth c H locs cells slots Q (F0 m 122 ls [])) → W p l e R s m args below meth c H locs cells slots Q (F0 m 44 ls []) := by
  intro n
  induction n with
  | zero =>
    intro dg kp S H locs ls hn hFL h_o h_ka hfr hI hl kx
    obtain rfl : dg = M + 1 := by omega
    refine lv_iload hx hb d_D_init_44 (lv_at hl 0 rfl) ?_
    refine lv_iload_n hx hb d_D_init_46 rfl (lv_at hl 3 rfl) ?_
    refine lv_icmp_gt (tgt := 122) hx hb d_D_init_47 (by decide) (fun _ => ?_) (fun h9 => absurd ((nI_ltI (by omega) (by omega)).mpr (by omega)) h9)
    exact kx kp S H locs ls hFL h_o h_ka hfr hI (lv_sub hl [2, 3, 4] rfl)
  | succ n ih =>
    intro dg kp S H locs ls hn hFL h_o h_ka hfr hI hl kx
    refine lv_iload hx hb d_D_init_44 (lv_at hl 0 rfl) ?_
    refine lv_iload_n hx hb d_D_init_46 rfl (lv_at hl 3 rfl) ?_
    refine lv_icmp_gt (tgt := 122) hx hb d_D_init_47 (by decide) (fun h9 => absurd h9 (by rw [nI_ltI (by omega) (by omega)]; omega)) (fun _ => ?_)
    refine lv_iconst (v := nI 0) hx hb d_D_init_50 (by decide) ?_
    refine lv_istore (lv' := [(6, .int (nI 0)), (5, .int (nI dg)), (4, .int (nI (tr3 dg))), (3, .int (nI (tr3 (M + 1)))), (2, .int (nI M)), (0, .ref o)]) hx hb d_D_init_51 hl (by decide) rfl (fun ls hl => ?_)
    have h0 : tr3 dg = if 0 ≤ dg then plN 0 0 (dg - 0) else tr3 (dg + 1) := by rw [if_pos (Nat.zero_le _), Nat.sub_zero, pl_000]
    rw [h0] at hFL hl
    refine lp_D2 hx hb hml hg hown hK hRf hRl hRc hRs hM (show dg ≤ M by omega) (dg + 1) 0 kp S H locs ls (by omega) hFL h_o h_ka hfr hI (lv_sub hl [0, 1, 2, 3, 4, 5] rfl) (fun kp S H locs ls hFL h_o h_ka hfr hI hl => ?_)
    refine lv_iinc (v := nI (dg + 1)) (lv' := [(5, .int (nI (dg + 1))), (4, .int (nI (tr3 (dg + 1)))), (3, .int (nI (tr3 (M + 1)))), (2, .int (nI M)), (0, .ref o)]) hx hb d_D_init_116 hl (k := 0) rfl (nI_1 _) (by decide) rfl (fun ls hl => ?_)
    refine lv_goto (tgt := 44) hx hb d_D_init_119 (by decide) ?_
    exact ih (dg + 1) kp S H locs ls (by omega) hFL h_o h_ka hfr hI (lv_sub hl [0, 1, 2, 3, 4] rfl) kx
set_option maxHeartbeats 4000000 in
set_option maxRecDepth 100000 in
/-- a new reducer -/
theorem c_D_init (l : Launch) (D : mp_G) (g : Nat → ClassId) (S : mp_M) (sz : Nat) (o n : Nat) (h_o : S o = some (11, .inr (5, [.null, .null]))) (hn : n ≤ 3) : Met l y_D_init w_D_init ({ frames := 1, cells := 2, slots := 8120, locals := 22 }) (va_Pc [.ref o, .int (nI n)] (mp_B0 D classes (tys g) S sz)) (va_Qv (fun (S1 : mp_M) => ∃ (ra ka : Nat) (kp : Nat → Int32), S1 o = some (11, .inr (5, [.ref ra, .ref ka])) ∧ S1 ra = some (12, .inl (g 0, tr3 (9 * n + 1), .inl (fun _ => 0))) ∧ S1 ka = some (13, .inl (g 0, tr3 (9 * n + 1), .inl kp)) ∧ FL kp (tr3 (9 * n + 1)) ∧ (∀ b, S b ≠ none → b ≠ o → S1 b = S b)) (mp_B1 D classes S sz) (mp_A S sz)) 2 8120 (mp_A S sz) := by
  refine Met.ofW (cc := b_D_init) (maxL := 8) (ret := none) (by decide) rfl ?_
  intro p e s m args below meth c s₁ B hml hv
  obtain ⟨rfl, hsz, hH, hK⟩ := hv
  have hx := B.exec
  have hb := B.bytes
  have hr := B.returns
  have hts := atoms_spec (ws := w_D_init) B.pre
  have hg : ∀ w ∈ gw, w.before _ s = true := fun w h => hts w (List.mem_cons_of_mem _ h)
  have hown : s.vm.findClass R_D = some m.cls := findClass_of_methodNamed B.named
  have hlocks := B.notSynchronized
  have hin : meth.name = "<init>" := (name_of_methodNamed B.named B.method).1
  subst hsz
  have hI := mp_I.start hH
  have hl := lv_entry ([.ref o, .int (nI n)]) (n := 8) (Nat.le_of_ble_eq_true rfl)
  rw [lg_entry_eq]
  generalize (lg_sl ([.ref o, .int (nI n)]) ++ List.replicate (8 - (lg_sl ([.ref o, .int (nI n)])).length) Slot.unset).toArray = ls at hl ⊢
  have hl : lv_has ls 8 [(0, .ref o), (1, .int (nI n))] := hl
  have hfr : ∀ b, S b ≠ none → b ≠ o → S b = S b := fun _ _ _ => rfl
  have hP := tr3_le (show 9 * n ≤ 27 by omega)
  refine lv_aload_n hx hb d_D_init_0 rfl (lv_at hl 0 rfl) ?_
  refine W.objInit hx hb hown (hg _ q_180) (hg _ q_29) (hg _ q_30) rfl (by rw [hml]; exact hl.1) rfl d_D_init_1 (Nat.le_of_ble_eq_true rfl) (Nat.le_of_ble_eq_true rfl) ?_
  refine lv_bipush (v := nI 9) hx hb d_D_init_4 (by decide) ?_
  refine lv_iload_n hx hb d_D_init_6 rfl (lv_at hl 1 rfl) ?_
  refine lv_imul hx hb d_D_init_7 ?_
  refine lv_topi (fun v1 ev1 => ?_)
  obtain rfl : v1 = nI (9 * n) := ev1.trans (pk_mul _ _)
  refine lv_istore_n (lv' := [(2, .int (nI (9 * n))), (0, .ref o), (1, .int (nI n))]) hx hb d_D_init_8 rfl hl (by decide) rfl (fun ls hl => ?_)
  refine lv_iload_n hx hb d_D_init_9 rfl (lv_at hl 0 rfl) ?_
  refine lv_iconst (v := nI 1) hx hb d_D_init_10 (by decide) ?_
  refine lv_iadd hx hb d_D_init_11 ?_
  refine lv_topi (fun v2 ev2 => ?_)
  obtain rfl : v2 = nI ((9 * n) + 1) := ev2.trans (nI_add _ _)
  refine lv_iload_n hx hb d_D_init_12 rfl (lv_at hl 0 rfl) ?_
  refine lv_iconst (v := nI 2) hx hb d_D_init_13 (by decide) ?_
  refine lv_iadd hx hb d_D_init_14 ?_
  refine lv_topi (fun v3 ev3 => ?_)
  obtain rfl : v3 = nI ((9 * n) + 2) := ev3.trans (nI_add _ _)
  refine lv_imul hx hb d_D_init_15 ?_
  refine lv_topi (fun v4 ev4 => ?_)
  obtain rfl : v4 = nI (((9 * n) + 1) * ((9 * n) + 2)) := ev4.trans (pk_mul _ _)
  refine lv_iload_n hx hb d_D_init_16 rfl (lv_at hl 0 rfl) ?_
  refine lv_iconst (v := nI 3) hx hb d_D_init_17 (by decide) ?_
  refine lv_iadd hx hb d_D_init_18 ?_
  refine lv_topi (fun v5 ev5 => ?_)
  obtain rfl : v5 = nI ((9 * n) + 3) := ev5.trans (nI_add _ _)
  refine lv_imul hx hb d_D_init_19 ?_
  refine lv_topi (fun v6 ev6 => ?_)
  obtain rfl : v6 = nI ((((9 * n) + 1) * ((9 * n) + 2)) * ((9 * n) + 3)) := ev6.trans (pk_mul _ _)
  refine lv_bipush (v := nI 6) hx hb d_D_init_20 (by decide) ?_
  refine lv_idiv hx hb d_D_init_22 (by decide) ?_
  refine lv_topi (fun v7 ev7 => ?_)
  obtain rfl : v7 = nI (((((9 * n) + 1) * ((9 * n) + 2)) * ((9 * n) + 3)) / 6) := ev7.trans (pk_div (cub_lt (s := 9 * n + 1) (by omega)) (by omega) (by omega))
  refine lv_topi (fun v8 ev8 => ?_)
  obtain rfl : v8 = nI (tr3 (9 * n + 1)) := ev8.trans (rfl)
  refine lv_istore_n (lv' := [(3, .int (nI (tr3 (9 * n + 1)))), (2, .int (nI (9 * n))), (0, .ref o), (1, .int (nI n))]) hx hb d_D_init_23 rfl hl (by decide) rfl (fun ls hl => ?_)
  refine lv_aload_n hx hb d_D_init_24 rfl (lv_at hl 2 rfl) ?_
  refine lv_iload_n hx hb d_D_init_25 rfl (lv_at hl 0 rfl) ?_
  have hI0 := hI
  refine mp_newi (N' := (tr3 (9 * n + 1))) hx hb (hg _ q_60) hK.va hI 0 12 rfl (nI_pos (by omega)) (nI_clamp (by omega)) (Nat.le_trans (Nat.mul_le_mul_right _ hP) (by decide)) (Nat.le_of_ble_eq_true rfl) (by show 0 + _ ≤ 8120; omega) d_D_init_26 (fun S9 H10 z_12 e_11 hI => ?_)
  obtain ⟨a13, ea13⟩ : ∃ z, z = s.heap.size := ⟨_, rfl⟩
  have g_a13 : s.heap.size ≤ a13 := by rw [ea13]; exact hI0.2.2.1.1
  rw [← ea13] at z_12 e_11
  refine W.eq (g2 := F0 m 28 ls [.ref a13, .ref o]) (by rw [ea13]) ?_
  have h_o : S9 o = some (11, .inr (5, [.null, .null])) := by rw [e_11]; exact mp_keepN h_o z_12
  have h_14 : S9 a13 = some (12, .inl ((g 0), (tr3 (9 * n + 1)), .inl (fun _ => 0))) := by rw [e_11]; exact mp_us _ _ _
  have nb_a13 : ∀ b, S b ≠ none → b ≠ o → b ≠ a13 := fun b h9 k0 z9 => h9 ((hfr b h9 k0).symm.trans (by rw [z9]; exact z_12))
  have hfr : ∀ b, S b ≠ none → b ≠ o → S9 b = S b := fun b h9 k0 => by rw [e_11]; exact (mp_un (nb_a13 b h9 k0)).trans (hfr b h9 k0)
  refine mp_putF (C := R_D) (T := F_D) (N := 2) (v := .ref a13) (ty := .array .int) hx hb hg i_D t_D t_D_ok n_D hown hK.va hI h_o rfl 0 (by decide) (hg _ q_184) (fun _ h9 => h9) rfl hin rfl (by decide +kernel) (rfl) rfl (Nat.le_of_ble_eq_true rfl) d_D_init_28 (fun S15 H16 locs e_17 hI => ?_)
  have e_17 : S15 = va_up S9 o (some (11, .inr (5, [.ref a13, .null]))) := e_17
  have h_14 : S15 a13 = some (12, .inl ((g 0), (tr3 (9 * n + 1)), .inl (fun _ => 0))) := by rw [e_17]; exact mp_keep h_14 h_o (by decide)
  have h_o : S15 o = some (11, .inr (5, [.ref a13, .null])) := by rw [e_17]; exact mp_us _ _ _
  have hfr : ∀ b, S b ≠ none → b ≠ o → S15 b = S b := fun b h9 k0 => by rw [e_17]; exact (mp_un k0).trans (hfr b h9 k0)
  refine lv_aload_n hx hb d_D_init_31 rfl (lv_at hl 2 rfl) ?_
  refine lv_iload_n hx hb d_D_init_32 rfl (lv_at hl 0 rfl) ?_
  have hI0 := hI
  refine mp_newi (N' := (tr3 (9 * n + 1))) hx hb (hg _ q_60) hK.va hI 0 13 rfl (nI_pos (by omega)) (nI_clamp (by omega)) (Nat.le_trans (Nat.mul_le_mul_right _ hP) (by decide)) (Nat.le_of_ble_eq_true rfl) (by show 0 + _ + _ ≤ 8120; omega) d_D_init_33 (fun S18 H19 z_21 e_20 hI => ?_)
  obtain ⟨a22, ea22⟩ : ∃ z, z = H16.size := ⟨_, rfl⟩
  have g_a22 : s.heap.size ≤ a22 := by rw [ea22]; exact hI0.2.2.1.1
  rw [← ea22] at z_21 e_20
  refine W.eq (g2 := F0 m 35 ls [.ref a22, .ref o]) (by rw [ea22]) ?_
  have h_o : S18 o = some (11, .inr (5, [.ref a13, .null])) := by rw [e_20]; exact mp_keepN h_o z_21
  have h_14 : S18 a13 = some (12, .inl ((g 0), (tr3 (9 * n + 1)), .inl (fun _ => 0))) := by rw [e_20]; exact mp_keepN h_14 z_21
  have h_23 : S18 a22 = some (13, .inl ((g 0), (tr3 (9 * n + 1)), .inl (fun _ => 0))) := by rw [e_20]; exact mp_us _ _ _
  have nb_a22 : ∀ b, S b ≠ none → b ≠ o → b ≠ a22 := fun b h9 k0 z9 => h9 ((hfr b h9 k0).symm.trans (by rw [z9]; exact z_21))
  have hfr : ∀ b, S b ≠ none → b ≠ o → S18 b = S b := fun b h9 k0 => by rw [e_20]; exact (mp_un (nb_a22 b h9 k0)).trans (hfr b h9 k0)
  refine mp_putF (C := R_D) (T := F_D) (N := 2) (v := .ref a22) (ty := .array .int) hx hb hg i_D t_D t_D_ok n_D hown hK.va hI h_o rfl 1 (by decide) (hg _ q_185) (fun _ h9 => h9) rfl hin rfl (by decide +kernel) (rfl) rfl (Nat.le_of_ble_eq_true rfl) d_D_init_35 (fun S24 H25 locs e_26 hI => ?_)
  have e_26 : S24 = va_up S18 o (some (11, .inr (5, [.ref a13, .ref a22]))) := e_26
  have h_14 : S24 a13 = some (12, .inl ((g 0), (tr3 (9 * n + 1)), .inl (fun _ => 0))) := by rw [e_26]; exact mp_keep h_14 h_o (by decide)
  have h_23 : S24 a22 = some (13, .inl ((g 0), (tr3 (9 * n + 1)), .inl (fun _ => 0))) := by rw [e_26]; exact mp_keep h_23 h_o (by decide)
  have h_o : S24 o = some (11, .inr (5, [.ref a13, .ref a22])) := by rw [e_26]; exact mp_us _ _ _
  have hfr : ∀ b, S b ≠ none → b ≠ o → S24 b = S b := fun b h9 k0 => by rw [e_26]; exact (mp_un k0).trans (hfr b h9 k0)
  refine lv_iconst (v := nI 0) hx hb d_D_init_38 (by decide) ?_
  refine lv_istore (lv' := [(4, .int (nI 0)), (3, .int (nI (tr3 (9 * n + 1)))), (2, .int (nI (9 * n))), (0, .ref o), (1, .int (nI n))]) hx hb d_D_init_39 hl (by decide) rfl (fun ls hl => ?_)
  refine lv_iconst (v := nI 0) hx hb d_D_init_41 (by decide) ?_
  refine lv_istore (lv' := [(5, .int (nI 0)), (4, .int (nI 0)), (3, .int (nI (tr3 (9 * n + 1)))), (2, .int (nI (9 * n))), (0, .ref o), (1, .int (nI n))]) hx hb d_D_init_42 hl (by decide) rfl (fun ls hl => ?_)
  refine lp_D1 (B := S24) (o := o) (ra := a13) (ka := a22) (M := 9 * n) hx hb hml hg hown hK (Nat.le_of_ble_eq_true rfl) (Nat.le_of_ble_eq_true rfl) (Nat.le_of_ble_eq_true rfl) (by show 0 + _ + _ ≤ 8120; omega) (by omega) (9 * n + 1) 0 _ S24 H25 _ ls (by omega) (FL_0 _) h_o h_23 (fun _ _ _ => rfl) hI (lv_sub hl [0, 1, 2, 3, 4] rfl) (fun kp S9 H9 locs9 ls9 jF j_o j_ka jfr hI hl => ?_)
  refine mp_vret hx hb hr hlocks hI (by decide) (by omega) ?_ d_D_init_122
  exact ⟨a13, a22, kp, j_o, (jfr _ (mp_in h_14) (mp_ne h_14 h_23 (by decide))).trans h_14, j_ka, jF, fun b h9 k0 => (jfr b (by rw [hfr b h9 k0]; exact h9) (nb_a22 b h9 k0)).trans (hfr b h9 k0)⟩
