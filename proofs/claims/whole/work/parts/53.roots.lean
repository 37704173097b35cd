/-- numbers moved up for one that is put in at p -/
def inI (IT : Nat → Nat) (i p : Nat) : Nat → Nat := fun j => if p < j ∧ j ≤ i then IT (j - 1) else IT j
theorem inI_i (IT : Nat → Nat) (i : Nat) : inI IT i i = IT := by funext j; unfold inI; rw [if_neg (by omega)]
theorem inI_up {IT : Nat → Nat} {i p : Nat} (h : p + 1 ≤ i) : va_up (inI IT i (p + 1)) (p + 1) (IT p) = inI IT i p := by
  funext j
  by_cases e : j = p + 1
  · rw [e, mp_us]; unfold inI; rw [if_pos (by omega), Nat.add_sub_cancel]
  · rw [mp_un e]; unfold inI
    by_cases q : p < j ∧ j ≤ i
    · rw [if_pos q, if_pos (by omega)]
    · rw [if_neg q, if_neg (by omega)]
theorem inI_lo {IT : Nat → Nat} {i p j : Nat} (h : j ≤ p) : inI IT i p j = IT j := by unfold inI; rw [if_neg (by omega)]
theorem ins_ok {IT : Nat → Nat} {i p x : Nat} (hp : p ≤ i) (hs : ∀ a b, a < b → b < i → IT a < IT b) (hne : ∀ j, j < i → IT j ≠ x) (h1 : ∀ j, p ≤ j → j < i → x < IT j) (h2 : 0 < p → IT (p - 1) ≤ x) :
    (∀ a b, a < b → b < i + 1 → va_up (inI IT i p) p x a < va_up (inI IT i p) p x b) ∧ (∀ y, (∃ j, j < i + 1 ∧ va_up (inI IT i p) p x j = y) ↔ ((∃ j, j < i ∧ IT j = y) ∨ y = x)) := by
  have hlow : ∀ j, j < p → IT j < x := by
    intro j hj
    have k1 : IT j ≤ IT (p - 1) := by
      by_cases e : j = p - 1
      · rw [e]; exact Nat.le_refl _
      · exact Nat.le_of_lt (hs j (p - 1) (by omega) (by omega))
    have k2 := h2 (by omega)
    have k3 := hne j (by omega)
    omega
  have v1 : ∀ j, j < p → va_up (inI IT i p) p x j = IT j := fun j hj => by rw [mp_un (by omega), inI_lo (by omega)]
  have v2 : ∀ j, p < j → j ≤ i → va_up (inI IT i p) p x j = IT (j - 1) := fun j hj hi => by rw [mp_un (by omega)]; unfold inI; rw [if_pos ⟨hj, hi⟩]
  have v3 : va_up (inI IT i p) p x p = x := mp_us _ _ _
  refine ⟨fun a b hab hb => ?_, fun y => ⟨?_, ?_⟩⟩
  · rcases Nat.lt_trichotomy b p with q | q | q
    · rw [v1 a (by omega), v1 b q]; exact hs a b hab (by omega)
    · rw [q, v3, v1 a (by omega)]; exact hlow a (by omega)
    · rw [v2 b q (by omega)]
      rcases Nat.lt_trichotomy a p with w | w | w
      · rw [v1 a w]
        exact Nat.lt_trans (hlow a w) (h1 (b - 1) (by omega) (by omega))
      · rw [w, v3]; exact h1 (b - 1) (by omega) (by omega)
      · rw [v2 a w (by omega)]; exact hs (a - 1) (b - 1) (by omega) (by omega)
  · rintro ⟨j, hj, rfl⟩
    rcases Nat.lt_trichotomy j p with q | q | q
    · rw [v1 j q]; exact Or.inl ⟨j, by omega, rfl⟩
    · rw [q, v3]; exact Or.inr rfl
    · rw [v2 j q (by omega)]; exact Or.inl ⟨j - 1, by omega, rfl⟩
  · rintro (⟨j, hj, rfl⟩ | rfl)
    · by_cases q : j < p
      · exact ⟨j, by omega, v1 j q⟩
      · exact ⟨j + 1, by omega, by rw [v2 (j + 1) (by omega) (by omega), Nat.add_sub_cancel]⟩
    · exact ⟨p, by omega, v3⟩
/-- a row of roots: in order, the numbers at which f is 0 -/
def rtS (n : Nat) (IT : Nat → Nat) (f : fF → fF) : Prop := (∀ a b, a < b → b < n → IT a < IT b) ∧ ∀ y, (∃ j, j < n ∧ IT j = y) ↔ (y < 32003 ∧ f (fc y) = 0)
theorem ph1 {c : Nat → fF} (h : fOK 1 c) (a : fF) : phF c a = 0 ↔ a = -c 0 := by
  have h1 : phF c a = pe 1 c a + a ^ 1 := mon_pe h.2.2.1.2.1 h.2.2.1.1 h.2.2.2 a
  rw [h1]; unfold pe; rw [sm_s, sm_0]
  constructor <;> intro q <;> grind
theorem wr_set {i : Nat} {v : Nat → Nat} {y : Nat} : ((∃ r, r < i ∧ v r = y) ∨ y = v i) ↔ (∃ r, r < i + 1 ∧ v r = y) := by
  constructor
  · rintro (⟨r, hr, h⟩ | h)
    · exact ⟨r, by omega, h⟩
    · exact ⟨i, by omega, h.symm⟩
  · rintro ⟨r, hr, h⟩
    by_cases e : r = i
    · right; rw [← h, e]
    · left; exact ⟨r, by omega, h⟩
theorem sd_sub {s : fF} {f g : fF → fF} (h : sdN s g) (hs : ∀ a, f a = 0 → g a = 0) : sdN s f := fun a b ha hb => h a b (hs a ha) (hs b hb)
theorem rt_eq {d n e : Nat} {cp c1 ce : Nat → fF} (hc : fOK d cp) (hp : bpS d cp 0 32003 n c1) (hg : gcP d (phF cp) (fun a => pe 33 (va_up c1 1 (c1 1 + -1)) a) e ce) : SPl e (phF ce) ∧ ∀ a, phF ce a = 0 ↔ phF cp a = 0 := by
  obtain ⟨_, _, w, w1, w2, _⟩ := hp
  obtain ⟨g1, g2, g3, g4, A, C, g5, g6, g7, g8⟩ := hg
  have hd := hc.2.1
  have hPM : PM e (phF ce) := PM_cg (fun a => (mon_pe g1.2.1 g1.1 g2 a).symm) (mf_PM e ce)
  exact rt_first (w2 (by omega)) hd (fun a => by
    have h1 := w1 a
    rw [ok_mf hc, show a + 0 = a by grind] at h1
    show a ^ 32003 - a = w a * phF cp a + pe 33 (va_up c1 1 (c1 1 + -1)) a
    rw [pe_up1, h1]; grind) hPM g3 g5 g6 g7 g8 g4
theorem rt_0 {c : Nat → fF} {f : fF → fF} (hc : olP 1 c) (h1 : c 0 = 1) (hf : ∀ a, f a = 0 → phF c a = 0) (IT : Nat → Nat) : rtS 0 IT f := by
  refine ⟨fun a b _ h => absurd h (Nat.not_lt_zero b), fun y => ⟨fun ⟨j, hj, _⟩ => absurd hj (Nat.not_lt_zero j), fun ⟨_, h⟩ => ?_⟩⟩
  have h2 := hf _ h
  have h3 : phF c (fc y) = 1 := by
    show pe 33 c (fc y) = 1
    rw [pe_ol hc.2.1 hc.1, pe_s, h1]; unfold pe; rw [sm_0]; grind
  rw [h3] at h2; exact absurd h2 (by decide)
theorem rt_all {k : Nat} {dg : Nat → Int32} {dN : Nat → Nat} {CF : Nat → Nat → fF} {g f : fF → fF} (H : ZP k dg dN CF g) (h1 : ∀ i, i < k → dN i = 1) (hg : ∀ a, g a = 0 ↔ f a = 0) : (∀ r q, r < k → q < k → CF r 0 = CF q 0 → r = q) ∧ ∀ IT : Nat → Nat, (∀ a b, a < b → b < k → IT a < IT b) → (∀ y, (∃ j, j < k ∧ IT j = y) ↔ (∃ r, r < k ∧ (-CF r 0).val = y)) → rtS k IT f := by
  obtain ⟨z1, z2, z3, z4, z5⟩ := H
  have hok : ∀ i, i < k → fOK 1 (CF i) := fun i hi => by have := (z1 i hi).2; rw [h1 i hi] at this; exact this
  refine ⟨fun r q hr hq e => z4 r q (-CF r 0) hr hq ((ph1 (hok r hr) _).mpr rfl) ((ph1 (hok q hq) _).mpr (by rw [e])), fun IT hs hm => ⟨hs, fun y => ?_⟩⟩
  rw [hm y]
  constructor
  · rintro ⟨r, hr, rfl⟩
    refine ⟨(-CF r 0).isLt, ?_⟩
    rw [fc_of, ← hg, z5]
    exact ⟨r, hr, (ph1 (hok r hr) _).mpr rfl⟩
  · rintro ⟨hy, hf⟩
    rw [← hg, z5] at hf
    obtain ⟨r, hr, hz⟩ := hf
    refine ⟨r, hr, ?_⟩
    rw [← (ph1 (hok r hr) _).mp hz, fc_v, Nat.mod_eq_of_lt hy]

theorem d_Z_find_0 : decode b_Z_find 0 = .ok (.aload_n 1, 1) := by decide +kernel
theorem d_Z_find_1 : decode b_Z_find 1 = .ok (.getfield 25, 3) := by decide +kernel
theorem d_Z_find_4 : decode b_Z_find 4 = .ok (.iconst 1, 1) := by decide +kernel
theorem d_Z_find_5 : decode b_Z_find 5 = .ok (.if_icmp .lt 12, 3) := by decide +kernel
theorem d_Z_find_8 : decode b_Z_find 8 = .ok (.aload_n 1, 1) := by decide +kernel
theorem d_Z_find_9 : decode b_Z_find 9 = .ok (.getfield 25, 3) := by decide +kernel
theorem d_Z_find_12 : decode b_Z_find 12 = .ok (.bipush 16, 2) := by decide +kernel
theorem d_Z_find_14 : decode b_Z_find 14 = .ok (.if_icmp .le 5, 3) := by decide +kernel
theorem d_Z_find_17 : decode b_Z_find 17 = .ok (.iconst 0, 1) := by decide +kernel
theorem d_Z_find_18 : decode b_Z_find 18 = .ok (.ireturn, 1) := by decide +kernel
theorem d_Z_find_19 : decode b_Z_find 19 = .ok (.aload_n 0, 1) := by decide +kernel
theorem d_Z_find_20 : decode b_Z_find 20 = .ok (.getfield 18, 3) := by decide +kernel
theorem d_Z_find_23 : decode b_Z_find 23 = .ok (.iconst 0, 1) := by decide +kernel
theorem d_Z_find_24 : decode b_Z_find 24 = .ok (.sipush 32003, 3) := by decide +kernel
theorem d_Z_find_27 : decode b_Z_find 27 = .ok (.aload_n 1, 1) := by decide +kernel
theorem d_Z_find_28 : decode b_Z_find 28 = .ok (.invokevirtual 29, 3) := by decide +kernel
theorem d_Z_find_31 : decode b_Z_find 31 = .ok (.aload_n 0, 1) := by decide +kernel
theorem d_Z_find_32 : decode b_Z_find 32 = .ok (.getfield 18, 3) := by decide +kernel
theorem d_Z_find_35 : decode b_Z_find 35 = .ok (.iconst 1, 1) := by decide +kernel
theorem d_Z_find_36 : decode b_Z_find 36 = .ok (.sipush 32002, 3) := by decide +kernel
theorem d_Z_find_39 : decode b_Z_find 39 = .ok (.invokevirtual 33, 3) := by decide +kernel
theorem d_Z_find_42 : decode b_Z_find 42 = .ok (.aload_n 0, 1) := by decide +kernel
theorem d_Z_find_43 : decode b_Z_find 43 = .ok (.getfield 22, 3) := by decide +kernel
theorem d_Z_find_46 : decode b_Z_find 46 = .ok (.aload_n 1, 1) := by decide +kernel
theorem d_Z_find_47 : decode b_Z_find 47 = .ok (.invokevirtual 37, 3) := by decide +kernel
theorem d_Z_find_50 : decode b_Z_find 50 = .ok (.aload_n 0, 1) := by decide +kernel
theorem d_Z_find_51 : decode b_Z_find 51 = .ok (.getfield 11, 3) := by decide +kernel
theorem d_Z_find_54 : decode b_Z_find 54 = .ok (.iconst 0, 1) := by decide +kernel
theorem d_Z_find_55 : decode b_Z_find 55 = .ok (.aaload, 1) := by decide +kernel
theorem d_Z_find_56 : decode b_Z_find 56 = .ok (.aload_n 0, 1) := by decide +kernel
theorem d_Z_find_57 : decode b_Z_find 57 = .ok (.getfield 22, 3) := by decide +kernel
theorem d_Z_find_60 : decode b_Z_find 60 = .ok (.aload_n 0, 1) := by decide +kernel
theorem d_Z_find_61 : decode b_Z_find 61 = .ok (.getfield 18, 3) := by decide +kernel
theorem d_Z_find_64 : decode b_Z_find 64 = .ok (.invokestatic 41, 3) := by decide +kernel
theorem d_Z_find_67 : decode b_Z_find 67 = .ok (.invokevirtual 37, 3) := by decide +kernel
theorem d_Z_find_70 : decode b_Z_find 70 = .ok (.aload_n 0, 1) := by decide +kernel
theorem d_Z_find_71 : decode b_Z_find 71 = .ok (.iconst 1, 1) := by decide +kernel
theorem d_Z_find_72 : decode b_Z_find 72 = .ok (.putfield 45, 3) := by decide +kernel
theorem d_Z_find_75 : decode b_Z_find 75 = .ok (.aload_n 0, 1) := by decide +kernel
theorem d_Z_find_76 : decode b_Z_find 76 = .ok (.getfield 11, 3) := by decide +kernel
theorem d_Z_find_79 : decode b_Z_find 79 = .ok (.iconst 0, 1) := by decide +kernel
theorem d_Z_find_80 : decode b_Z_find 80 = .ok (.aaload, 1) := by decide +kernel
theorem d_Z_find_81 : decode b_Z_find 81 = .ok (.getfield 25, 3) := by decide +kernel
theorem d_Z_find_84 : decode b_Z_find 84 = .ok (.istore_n 3, 1) := by decide +kernel
theorem d_Z_find_85 : decode b_Z_find 85 = .ok (.iload_n 3, 1) := by decide +kernel
theorem d_Z_find_86 : decode b_Z_find 86 = .ok (.iconst 1, 1) := by decide +kernel
theorem d_Z_find_87 : decode b_Z_find 87 = .ok (.if_icmp .ge 5, 3) := by decide +kernel
theorem d_Z_find_90 : decode b_Z_find 90 = .ok (.iconst 0, 1) := by decide +kernel
theorem d_Z_find_91 : decode b_Z_find 91 = .ok (.ireturn, 1) := by decide +kernel
theorem d_Z_find_92 : decode b_Z_find 92 = .ok (.iconst 0, 1) := by decide +kernel
theorem d_Z_find_93 : decode b_Z_find 93 = .ok (.istore 4, 2) := by decide +kernel
theorem d_Z_find_95 : decode b_Z_find 95 = .ok (.iload 4, 2) := by decide +kernel
theorem d_Z_find_97 : decode b_Z_find 97 = .ok (.sipush 32003, 3) := by decide +kernel
theorem d_Z_find_100 : decode b_Z_find 100 = .ok (.if_icmp .ge 47, 3) := by decide +kernel
theorem d_Z_find_103 : decode b_Z_find 103 = .ok (.aload_n 0, 1) := by decide +kernel
theorem d_Z_find_104 : decode b_Z_find 104 = .ok (.getfield 45, 3) := by decide +kernel
theorem d_Z_find_107 : decode b_Z_find 107 = .ok (.iload_n 3, 1) := by decide +kernel
theorem d_Z_find_108 : decode b_Z_find 108 = .ok (.if_icmp .ge 39, 3) := by decide +kernel
theorem d_Z_find_111 : decode b_Z_find 111 = .ok (.aload_n 0, 1) := by decide +kernel
theorem d_Z_find_112 : decode b_Z_find 112 = .ok (.getfield 45, 3) := by decide +kernel
theorem d_Z_find_115 : decode b_Z_find 115 = .ok (.istore 5, 2) := by decide +kernel
theorem d_Z_find_117 : decode b_Z_find 117 = .ok (.iconst 0, 1) := by decide +kernel
theorem d_Z_find_118 : decode b_Z_find 118 = .ok (.istore 6, 2) := by decide +kernel
theorem d_Z_find_120 : decode b_Z_find 120 = .ok (.iload 6, 2) := by decide +kernel
theorem d_Z_find_122 : decode b_Z_find 122 = .ok (.iload 5, 2) := by decide +kernel
theorem d_Z_find_124 : decode b_Z_find 124 = .ok (.if_icmp .ge 17, 3) := by decide +kernel
theorem d_Z_find_127 : decode b_Z_find 127 = .ok (.aload_n 0, 1) := by decide +kernel
theorem d_Z_find_128 : decode b_Z_find 128 = .ok (.iload 6, 2) := by decide +kernel
theorem d_Z_find_130 : decode b_Z_find 130 = .ok (.iload 4, 2) := by decide +kernel
theorem d_Z_find_132 : decode b_Z_find 132 = .ok (.invokevirtual 48, 3) := by decide +kernel
theorem d_Z_find_135 : decode b_Z_find 135 = .ok (.iinc 6 1, 3) := by decide +kernel
theorem d_Z_find_138 : decode b_Z_find 138 = .ok (.goto (-18), 3) := by decide +kernel
theorem d_Z_find_141 : decode b_Z_find 141 = .ok (.iinc 4 1, 3) := by decide +kernel
theorem d_Z_find_144 : decode b_Z_find 144 = .ok (.goto (-49), 3) := by decide +kernel
theorem d_Z_find_147 : decode b_Z_find 147 = .ok (.aload_n 0, 1) := by decide +kernel
theorem d_Z_find_148 : decode b_Z_find 148 = .ok (.aload_n 2, 1) := by decide +kernel
theorem d_Z_find_149 : decode b_Z_find 149 = .ok (.invokevirtual 51, 3) := by decide +kernel
theorem d_Z_find_152 : decode b_Z_find 152 = .ok (.ireturn, 1) := by decide +kernel
theorem d_Z_writeRoots_0 : decode b_Z_writeRoots 0 = .ok (.iconst 0, 1) := by decide +kernel
theorem d_Z_writeRoots_1 : decode b_Z_writeRoots 1 = .ok (.istore_n 2, 1) := by decide +kernel
theorem d_Z_writeRoots_2 : decode b_Z_writeRoots 2 = .ok (.iconst 0, 1) := by decide +kernel
theorem d_Z_writeRoots_3 : decode b_Z_writeRoots 3 = .ok (.istore_n 3, 1) := by decide +kernel
theorem d_Z_writeRoots_4 : decode b_Z_writeRoots 4 = .ok (.iload_n 3, 1) := by decide +kernel
theorem d_Z_writeRoots_5 : decode b_Z_writeRoots 5 = .ok (.aload_n 0, 1) := by decide +kernel
theorem d_Z_writeRoots_6 : decode b_Z_writeRoots 6 = .ok (.getfield 45, 3) := by decide +kernel
theorem d_Z_writeRoots_9 : decode b_Z_writeRoots 9 = .ok (.if_icmp .ge 80, 3) := by decide +kernel
theorem d_Z_writeRoots_12 : decode b_Z_writeRoots 12 = .ok (.iload_n 2, 1) := by decide +kernel
theorem d_Z_writeRoots_13 : decode b_Z_writeRoots 13 = .ok (.aload_n 1, 1) := by decide +kernel
theorem d_Z_writeRoots_14 : decode b_Z_writeRoots 14 = .ok (.arraylength, 1) := by decide +kernel
theorem d_Z_writeRoots_15 : decode b_Z_writeRoots 15 = .ok (.if_icmp .ge 74, 3) := by decide +kernel
theorem d_Z_writeRoots_18 : decode b_Z_writeRoots 18 = .ok (.sipush 32003, 3) := by decide +kernel
theorem d_Z_writeRoots_21 : decode b_Z_writeRoots 21 = .ok (.aload_n 0, 1) := by decide +kernel
theorem d_Z_writeRoots_22 : decode b_Z_writeRoots 22 = .ok (.getfield 11, 3) := by decide +kernel
theorem d_Z_writeRoots_25 : decode b_Z_writeRoots 25 = .ok (.iload_n 3, 1) := by decide +kernel
theorem d_Z_writeRoots_26 : decode b_Z_writeRoots 26 = .ok (.aaload, 1) := by decide +kernel
theorem d_Z_writeRoots_27 : decode b_Z_writeRoots 27 = .ok (.getfield 64, 3) := by decide +kernel
theorem d_Z_writeRoots_30 : decode b_Z_writeRoots 30 = .ok (.iconst 0, 1) := by decide +kernel
theorem d_Z_writeRoots_31 : decode b_Z_writeRoots 31 = .ok (.iaload, 1) := by decide +kernel
theorem d_Z_writeRoots_32 : decode b_Z_writeRoots 32 = .ok (.isub, 1) := by decide +kernel
theorem d_Z_writeRoots_33 : decode b_Z_writeRoots 33 = .ok (.sipush 32003, 3) := by decide +kernel
theorem d_Z_writeRoots_36 : decode b_Z_writeRoots 36 = .ok (.irem, 1) := by decide +kernel
theorem d_Z_writeRoots_37 : decode b_Z_writeRoots 37 = .ok (.istore 4, 2) := by decide +kernel
theorem d_Z_writeRoots_39 : decode b_Z_writeRoots 39 = .ok (.iload_n 2, 1) := by decide +kernel
theorem d_Z_writeRoots_40 : decode b_Z_writeRoots 40 = .ok (.istore 5, 2) := by decide +kernel
theorem d_Z_writeRoots_42 : decode b_Z_writeRoots 42 = .ok (.iload 5, 2) := by decide +kernel
theorem d_Z_writeRoots_44 : decode b_Z_writeRoots 44 = .ok (.ifCond .le 30, 3) := by decide +kernel
theorem d_Z_writeRoots_47 : decode b_Z_writeRoots 47 = .ok (.aload_n 1, 1) := by decide +kernel
theorem d_Z_writeRoots_48 : decode b_Z_writeRoots 48 = .ok (.iload 5, 2) := by decide +kernel
theorem d_Z_writeRoots_50 : decode b_Z_writeRoots 50 = .ok (.iconst 1, 1) := by decide +kernel
theorem d_Z_writeRoots_51 : decode b_Z_writeRoots 51 = .ok (.isub, 1) := by decide +kernel
theorem d_Z_writeRoots_52 : decode b_Z_writeRoots 52 = .ok (.iaload, 1) := by decide +kernel
theorem d_Z_writeRoots_53 : decode b_Z_writeRoots 53 = .ok (.iload 4, 2) := by decide +kernel
theorem d_Z_writeRoots_55 : decode b_Z_writeRoots 55 = .ok (.if_icmp .le 19, 3) := by decide +kernel
theorem d_Z_writeRoots_58 : decode b_Z_writeRoots 58 = .ok (.aload_n 1, 1) := by decide +kernel
theorem d_Z_writeRoots_59 : decode b_Z_writeRoots 59 = .ok (.iload 5, 2) := by decide +kernel
theorem d_Z_writeRoots_61 : decode b_Z_writeRoots 61 = .ok (.aload_n 1, 1) := by decide +kernel
theorem d_Z_writeRoots_62 : decode b_Z_writeRoots 62 = .ok (.iload 5, 2) := by decide +kernel
theorem d_Z_writeRoots_64 : decode b_Z_writeRoots 64 = .ok (.iconst 1, 1) := by decide +kernel
theorem d_Z_writeRoots_65 : decode b_Z_writeRoots 65 = .ok (.isub, 1) := by decide +kernel
theorem d_Z_writeRoots_66 : decode b_Z_writeRoots 66 = .ok (.iaload, 1) := by decide +kernel
theorem d_Z_writeRoots_67 : decode b_Z_writeRoots 67 = .ok (.iastore, 1) := by decide +kernel
theorem d_Z_writeRoots_68 : decode b_Z_writeRoots 68 = .ok (.iinc 5 (-1), 3) := by decide +kernel
theorem d_Z_writeRoots_71 : decode b_Z_writeRoots 71 = .ok (.goto (-29), 3) := by decide +kernel
theorem d_Z_writeRoots_74 : decode b_Z_writeRoots 74 = .ok (.aload_n 1, 1) := by decide +kernel
theorem d_Z_writeRoots_75 : decode b_Z_writeRoots 75 = .ok (.iload 5, 2) := by decide +kernel
theorem d_Z_writeRoots_77 : decode b_Z_writeRoots 77 = .ok (.iload 4, 2) := by decide +kernel
theorem d_Z_writeRoots_79 : decode b_Z_writeRoots 79 = .ok (.iastore, 1) := by decide +kernel
theorem d_Z_writeRoots_80 : decode b_Z_writeRoots 80 = .ok (.iinc 2 1, 3) := by decide +kernel
theorem d_Z_writeRoots_83 : decode b_Z_writeRoots 83 = .ok (.iinc 3 1, 3) := by decide +kernel
theorem d_Z_writeRoots_86 : decode b_Z_writeRoots 86 = .ok (.goto (-82), 3) := by decide +kernel
theorem d_Z_writeRoots_89 : decode b_Z_writeRoots 89 = .ok (.iload_n 2, 1) := by decide +kernel
theorem d_Z_writeRoots_90 : decode b_Z_writeRoots 90 = .ok (.ireturn, 1) := by decide +kernel
set_option maxHeartbeats 4000000 in
set_option maxRecDepth 100000 in
theorem lp_Z_wr1 {p : Program} {l : Launch} {e : Env} {R : Room} {s : State} {m : MethodId} {args : Array Value} {below : List Frame} {meth : Method} {c : Code} {Q : State → Prop} {D : mp_G} {g : Nat → ClassId} {A : Nat → Prop} {cells slots : Nat} (hx : p.tables.exec = Jvm.exec) (hb : c.code = b_Z_writeRoots) (hml : c.maxLocals = 6) (hg : ∀ w ∈ gw, w.before args s = true) (hown : s.vm.findClass R_Z = some m.cls) (hK : mp_K D classes (tys g) s) (hRf : 0 ≤ R.frames) (hRl : 0 ≤ R.locals) (hRc : cells ≤ R.cells) (hRs : slots ≤ R.slots) {B : mp_M} {zo fs ia TI k9 : Nat} {w2 w3 : Value} {fe fz : Nat → Nat} {dg : Nat → Int32} {CF : Nat → Nat → fF} {i : Nat} {IT : Nat → Nat} (hTI : 564 ≤ TI) (hk : k9 ≤ 16) (hdis : ∀ r q, r < k9 → q < k9 → CF r 0 = CF q 0 → r = q) (hi9 : i < k9) (hlt : ∀ j, j < i → IT j < 32003) : ∀ (k : Nat) (S : mp_M) (H : Heap) (locs : List Loc) (ls : Array Slot), k ≤ i → (∀ j, k ≤ j → j < i → (-CF i 0).val < IT j) → S zo = some (30, .inr (6, [.ref fs, .int (nI k9), w2, w3])) → S fs = some (31, .inl ((g 3), 16, .inr (.inr (.inr (.inr (rfs fe 16)))))) → S ia = some (TI, .inl ((g 0), 16, .inl (fun j => nI ((inI IT i k) j)))) → (oS g 520 16 fe fz dg (fun ii j => nI (CF ii j).val) S) → (∀ b t e9, B b = some (t, e9) → (t ≠ TI) → S b = some (t, e9)) → mp_I D classes A s.heap S H locs → lv_has ls 6 [(5, .int (nI k)), (4, .int (nI (-CF i 0).val)), (3, .int (nI i)), (2, .int (nI i)), (1, .ref ia), (0, .ref zo)] → (∀ (S : mp_M) (H : Heap) (locs : List Loc) (ls : Array Slot), (∀ j, 0 ≤ j → j < i → (-CF i 0).val < IT j) → S zo = some (30, .inr (6, [.ref fs, .int (nI k9), w2, w3])) → S fs = some (31, .inl ((g 3), 16, .inr (.inr (.inr (.inr (rfs fe 16)))))) → S ia = some (TI, .inl ((g 0), 16, .inl (fun j => nI ((inI IT i 0) j)))) → (oS g 520 16 fe fz dg (fun ii j => nI (CF ii j).val) S) → (∀ b t e9, B b = some (t, e9) → (t ≠ TI) → S b = some (t, e9)) → mp_I D classes A s.heap S H locs → lv_has ls 6 [(5, .int (nI 0)), (4, .int (nI (-CF i 0).val)), (3, .int (nI i)), (2, .int (nI i)), (1, .ref ia), (0, .ref zo)] → W p l e R s m args below meth c H locs cells slots Q (F0 m 74 ls [])) → (∀ (p9 : Nat) (S : mp_M) (H : Heap) (locs : List Loc) (ls : Array Slot), (p9 ≤ i ∧ (∀ j, p9 ≤ j → j < i → (-CF i 0).val < IT j) ∧ (0 < p9 → IT (p9 - 1) ≤ (-CF i 0).val)) → S zo = some (30, .inr (6, [.ref fs, .int (nI k9), w2, w3])) → S fs = some (31, .inl ((g 3), 16, .inr (.inr (.inr (.inr (rfs fe 16)))))) → S ia = some (TI, .inl ((g 0), 16, .inl (fun j => nI ((inI IT i p9) j)))) → (oS g 520 16 fe fz dg (fun ii j => nI (CF ii j).val) S) → (∀ b t e9, B b = some (t, e9) → (t ≠ TI) → S b = some (t, e9)) → mp_I D classes A s.heap S H locs → lv_has ls 6 [(5, .int (nI p9)), (4, .int (nI (-CF i 0).val)), (3, .int (nI i)), (2, .int (nI i)), (1, .ref ia), (0, .ref zo)] → W p l e R s m args below meth c H locs cells slots Q (F0 m 74 ls [])) → W p l e R s m args below meth c H locs cells slots Q (F0 m 42 ls []) := by
  intro k
  induction k with
  | zero =>
    intro S H locs ls hi hgt h_zo h_fs h_ia hE hfr hI hl kx ky
    refine lv_iload hx hb d_Z_writeRoots_42 (lv_at hl 0 rfl) ?_
    refine lv_if_le (tgt := 74) hx hb d_Z_writeRoots_44 (by decide) (fun _ => ?_) (fun h9 => absurd (by decide) h9)
    exact kx S H locs ls hgt h_zo h_fs h_ia hE hfr hI (lv_sub hl [0, 1, 2, 3, 4, 5] rfl)
  | succ k ih =>
    intro S H locs ls hi hgt h_zo h_fs h_ia hE hfr hI hl kx ky
    refine lv_iload hx hb d_Z_writeRoots_42 (lv_at hl 0 rfl) ?_
    refine lv_if_le (tgt := 74) hx hb d_Z_writeRoots_44 (by decide) (fun h9 => absurd h9 (by rw [zI_le (by omega)]; omega)) (fun _ => ?_)
    have hIk := hlt k (by omega)
    refine lv_aload_n hx hb d_Z_writeRoots_47 rfl (lv_at hl 4 rfl) ?_
    refine lv_iload hx hb d_Z_writeRoots_48 (lv_at hl 0 rfl) ?_
    refine lv_iconst (v := nI 1) hx hb d_Z_writeRoots_50 (by decide) ?_
    refine lv_isub hx hb d_Z_writeRoots_51 ?_
    refine lv_topi (fun v1 ev1 => ?_)
    obtain rfl : v1 = nI ((k + 1) - 1) := ev1.trans (pk_sub (by omega))
    refine mp_iald hx hb hK.va hI 0 h_ia rfl (vp_in_nI (show (k + 1) - 1 < 16 by omega) (by omega)) d_Z_writeRoots_52 ?_
    refine lv_topi (fun v2 ev2 => ?_)
    obtain rfl : v2 = nI (IT k) := ev2.trans (by rw [nI_clamp (by omega), inI_lo (by omega)]; rfl)
    refine lv_iload hx hb d_Z_writeRoots_53 (lv_at hl 1 rfl) ?_
    refine lv_icmp_le (tgt := 74) hx hb d_Z_writeRoots_55 (by decide) (fun c1 => ?_) (fun c1 => ?_)
    · rw [nI_leI (by omega) (by omega)] at c1
      exact ky (k + 1) S H locs ls ⟨by omega, hgt, fun _ => c1⟩ h_zo h_fs h_ia hE hfr hI (lv_sub hl [0, 1, 2, 3, 4, 5] rfl)
    · rw [nI_leI (by omega) (by omega)] at c1
      refine lv_aload_n hx hb d_Z_writeRoots_58 rfl (lv_at hl 4 rfl) ?_
      refine lv_iload hx hb d_Z_writeRoots_59 (lv_at hl 0 rfl) ?_
      refine lv_aload_n hx hb d_Z_writeRoots_61 rfl (lv_at hl 4 rfl) ?_
      refine lv_iload hx hb d_Z_writeRoots_62 (lv_at hl 0 rfl) ?_
      refine lv_iconst (v := nI 1) hx hb d_Z_writeRoots_64 (by decide) ?_
      refine lv_isub hx hb d_Z_writeRoots_65 ?_
      refine lv_topi (fun v3 ev3 => ?_)
      obtain rfl : v3 = nI ((k + 1) - 1) := ev3.trans (pk_sub (by omega))
      refine mp_iald hx hb hK.va hI 0 h_ia rfl (vp_in_nI (show (k + 1) - 1 < 16 by omega) (by omega)) d_Z_writeRoots_66 ?_
      refine lv_topi (fun v4 ev4 => ?_)
      obtain rfl : v4 = nI (IT k) := ev4.trans (by rw [nI_clamp (by omega), inI_lo (by omega)]; rfl)
      refine mp_iast hx hb hK.va hI 0 h_ia rfl (vp_in_nI (show k + 1 < 16 by omega) (by omega)) d_Z_writeRoots_67 (fun S5 H6 locs e_7 hI => ?_)
      have h_ia_o := h_ia
      have e_7 : S5 = va_up S ia (some (TI, .inl ((g 0), 16, .inl (upd (fun j => nI ((inI IT i (k + 1)) j)) (nI (k + 1)).toNatClampNeg (nI (IT k)))))) := e_7
      have h_ia_o := h_ia
      have h_zo : S5 zo = some (30, .inr (6, [.ref fs, .int (nI k9), w2, w3])) := by rw [e_7]; exact mp_keep h_zo h_ia (by omega)
      have h_fs : S5 fs = some (31, .inl ((g 3), 16, .inr (.inr (.inr (.inr (rfs fe 16)))))) := by rw [e_7]; exact mp_keep h_fs h_ia (by omega)
      have h_ia : S5 ia = some (TI, .inl ((g 0), 16, .inl (upd (fun j => nI ((inI IT i (k + 1)) j)) (nI (k + 1)).toNatClampNeg (nI (IT k))))) := by rw [e_7]; exact mp_us _ _ _
      have hE := oS_kept hE (S1 := S5) (fun b t9 e9 hb9 h1 h2 => by rw [e_7]; exact mp_un (mp_ne hb9 h_ia_o (by omega)))
      have hfr : ∀ b t e9, B b = some (t, e9) → (t ≠ TI) → S5 b = some (t, e9) := fun b t e9 h9 k0 => by rw [e_7]; exact mp_keep (hfr b t e9 h9 k0) h_ia_o (by omega)
      rw [nI_clamp (by omega), nIf_up] at h_ia
      have e9h_ia : (fun j => nI (va_up (inI IT i (k + 1)) (k + 1) (IT k) j)) = (fun j => nI ((inI IT i k) j)) := by rw [inI_up (by omega)]
      rw [e9h_ia] at h_ia
      refine lv_iinc (v := (nI (k + 1) + (-1))) (lv' := [(5, .int (nI (k + 1) + (-1))), (4, .int (nI (-CF i 0).val)), (3, .int (nI i)), (2, .int (nI i)), (1, .ref ia), (0, .ref zo)]) hx hb d_Z_writeRoots_68 hl (k := 0) rfl (rfl) (by decide) rfl (fun ls hl => ?_)
      refine lv_goto (tgt := 42) hx hb d_Z_writeRoots_71 (by decide) ?_
      rw [nI_dec] at hl
      exact ih S5 H6 locs ls (by omega) (fun j h1 h2 => by by_cases e9 : j = k; exact (by rw [e9]; omega); exact hgt j (by omega) h2) h_zo h_fs h_ia hE hfr hI (lv_sub hl [0, 1, 2, 3, 4, 5] rfl) kx ky
set_option maxHeartbeats 4000000 in
set_option maxRecDepth 100000 in
theorem lp_Z_wr2 {p : Program} {l : Launch} {e : Env} {R : Room} {s : State} {m : MethodId} {args : Array Value} {below : List Frame} {meth : Method} {c : Code} {Q : State → Prop} {D : mp_G} {g : Nat → ClassId} {A : Nat → Prop} {cells slots : Nat} (hx : p.tables.exec = Jvm.exec) (hb : c.code = b_Z_writeRoots) (hml : c.maxLocals = 6) (hg : ∀ w ∈ gw, w.before args s = true) (hown : s.vm.findClass R_Z = some m.cls) (hK : mp_K D classes (tys g) s) (hRf : 0 ≤ R.frames) (hRl : 0 ≤ R.locals) (hRc : cells ≤ R.cells) (hRs : slots ≤ R.slots) {B : mp_M} {zo fs ia TI k9 : Nat} {w2 w3 : Value} {fe fz : Nat → Nat} {dg : Nat → Int32} {CF : Nat → Nat → fF} (hTI : 564 ≤ TI) (hk : k9 ≤ 16) (hdis : ∀ r q, r < k9 → q < k9 → CF r 0 = CF q 0 → r = q) : ∀ (k : Nat) (i : Nat) (IT : Nat → Nat) (S : mp_M) (H : Heap) (locs : List Loc) (ls : Array Slot), i + k = k9 → (∀ a b, a < b → b < i → IT a < IT b) → (∀ y, (∃ j, j < i ∧ IT j = y) ↔ (∃ r, r < i ∧ (-CF r 0).val = y)) → (∀ j, j < i → IT j < 32003) → S zo = some (30, .inr (6, [.ref fs, .int (nI k9), w2, w3])) → S fs = some (31, .inl ((g 3), 16, .inr (.inr (.inr (.inr (rfs fe 16)))))) → S ia = some (TI, .inl ((g 0), 16, .inl (fun j => nI (IT j)))) → (oS g 520 16 fe fz dg (fun ii j => nI (CF ii j).val) S) → (∀ b t e9, B b = some (t, e9) → (t ≠ TI) → S b = some (t, e9)) → mp_I D classes A s.heap S H locs → lv_has ls 6 [(3, .int (nI i)), (2, .int (nI i)), (1, .ref ia), (0, .ref zo)] → (∀ (IT : Nat → Nat) (S : mp_M) (H : Heap) (locs : List Loc) (ls : Array Slot), (∀ a b, a < b → b < k9 → IT a < IT b) → (∀ y, (∃ j, j < k9 ∧ IT j = y) ↔ (∃ r, r < k9 ∧ (-CF r 0).val = y)) → (∀ j, j < k9 → IT j < 32003) → S zo = some (30, .inr (6, [.ref fs, .int (nI k9), w2, w3])) → S fs = some (31, .inl ((g 3), 16, .inr (.inr (.inr (.inr (rfs fe 16)))))) → S ia = some (TI, .inl ((g 0), 16, .inl (fun j => nI (IT j)))) → (oS g 520 16 fe fz dg (fun ii j => nI (CF ii j).val) S) → (∀ b t e9, B b = some (t, e9) → (t ≠ TI) → S b = some (t, e9)) → mp_I D classes A s.heap S H locs → lv_has ls 6 [(3, .int (nI k9)), (2, .int (nI k9)), (1, .ref ia), (0, .ref zo)] → W p l e R s m args below meth c H locs cells slots Q (F0 m 89 ls [])) → W p l e R s m args below meth c H locs cells slots Q (F0 m 4 ls []) := by
  intro k
  induction k with
  | zero =>
    intro i IT S H locs ls hi hso hst hlt h_zo h_fs h_ia hE hfr hI hl kx
    refine lv_iload_n hx hb d_Z_writeRoots_4 rfl (lv_at hl 0 rfl) ?_
    refine lv_aload_n hx hb d_Z_writeRoots_5 rfl (lv_at hl 3 rfl) ?_
    refine mp_get (C := R_Z) (T := F_Z) (N := 4) (v := .int (nI k9)) hx hb hg i_Z hown hK.va hI h_zo rfl 1 (by decide) (hg _ q_146) (fun _ h9 => h9) rfl d_Z_writeRoots_6 ?_
    refine lv_icmp_ge (tgt := 89) hx hb d_Z_writeRoots_9 (by decide) (fun _ => ?_) (fun h9 => absurd ((nI_leI (by omega) (by omega)).mpr (by omega)) h9)
    obtain rfl : i = k9 := by omega
    exact kx IT S H locs ls hso hst hlt h_zo h_fs h_ia hE hfr hI (lv_sub hl [0, 1, 2, 3] rfl)
  | succ k ih =>
    intro i IT S H locs ls hi hso hst hlt h_zo h_fs h_ia hE hfr hI hl kx
    refine lv_iload_n hx hb d_Z_writeRoots_4 rfl (lv_at hl 0 rfl) ?_
    refine lv_aload_n hx hb d_Z_writeRoots_5 rfl (lv_at hl 3 rfl) ?_
    refine mp_get (C := R_Z) (T := F_Z) (N := 4) (v := .int (nI k9)) hx hb hg i_Z hown hK.va hI h_zo rfl 1 (by decide) (hg _ q_146) (fun _ h9 => h9) rfl d_Z_writeRoots_6 ?_
    refine lv_icmp_ge (tgt := 89) hx hb d_Z_writeRoots_9 (by decide) (fun h9 => absurd h9 (by rw [nI_leI (by omega) (by omega)]; omega)) (fun _ => ?_)
    refine lv_iload_n hx hb d_Z_writeRoots_12 rfl (lv_at hl 1 rfl) ?_
    refine lv_aload_n hx hb d_Z_writeRoots_13 rfl (lv_at hl 2 rfl) ?_
    refine mp_alen (v := nI 16) hx hb hK.va hI 0 h_ia rfl rfl d_Z_writeRoots_14 ?_
    refine lv_icmp_ge (tgt := 89) hx hb d_Z_writeRoots_15 (by decide) (fun h9 => absurd h9 (by rw [nI_leI (by omega) (by omega)]; omega)) (fun _ => ?_)
    obtain ⟨h_f, h_fa⟩ := hE i (by omega)
    refine lv_sipush (v := nI 32003) hx hb d_Z_writeRoots_18 (by decide) ?_
    refine lv_aload_n hx hb d_Z_writeRoots_21 rfl (lv_at hl 3 rfl) ?_
    refine mp_get (C := R_Z) (T := F_Z) (N := 4) (v := .ref fs) hx hb hg i_Z hown hK.va hI h_zo rfl 0 (by decide) (hg _ q_145) (fun _ h9 => h9) rfl d_Z_writeRoots_22 ?_
    refine lv_iload_n hx hb d_Z_writeRoots_25 rfl (lv_at hl 0 rfl) ?_
    refine mp_aldq (b := fe i) hx hb hK.va hI 3 h_fs rfl (vp_in_nI (show i < 16 by omega) (by omega)) (by rw [nI_clamp (by omega)]; exact rfs_at (by omega)) d_Z_writeRoots_26 ?_
    refine mp_getN (C := R_O) (T := F_O) (N := 2) (v := .ref (fz i)) hx hb hg i_O hown hK.va hI h_f rfl 0 (by decide) (hK.use q_137 rfl) (fun _ h9 => h9) rfl d_Z_writeRoots_27 ?_
    refine lv_iconst (v := nI 0) hx hb d_Z_writeRoots_30 (by decide) ?_
    refine mp_iald hx hb hK.va hI 0 h_fa rfl (vp_in_nI (show 0 < 33 by omega) (by omega)) d_Z_writeRoots_31 ?_
    refine lv_topi (fun v1 ev1 => ?_)
    obtain rfl : v1 = nI ((CF i) 0).val := ev1.trans (by rw [nI_clamp (by omega)])
    refine lv_isub hx hb d_Z_writeRoots_32 ?_
    refine lv_topi (fun v2 ev2 => ?_)
    obtain rfl : v2 = nI (32003 - (((CF i) 0).val)) := ev2.trans (pk_sub (by omega))
    refine lv_sipush (v := nI 32003) hx hb d_Z_writeRoots_33 (by decide) ?_
    refine lv_irem hx hb d_Z_writeRoots_36 (by decide) ?_
    refine lv_topi (fun v3 ev3 => ?_)
    obtain rfl : v3 = nI ((32003 - (((CF i) 0).val)) % 32003) := ev3.trans (pk_rem (by first | exact fb_1 _ _ | exact fb_2 _ _ _ | exact fb_3 _ _ _ | exact fb_4 _ _ | exact fb_5 _ _ _ | omega) (by omega) (by omega))
    refine lv_topi (fun v4 ev4 => ?_)
    obtain rfl : v4 = nI ((-((CF i) 0))).val := ev4.trans (congrArg nI (fv_mod (by simp only [fc_add, fc_mul, fc_of, fc_ng, fc_0, fc_1])))
    refine lv_istore (lv' := [(4, .int (nI ((-((CF i) 0))).val)), (3, .int (nI i)), (2, .int (nI i)), (1, .ref ia), (0, .ref zo)]) hx hb d_Z_writeRoots_37 hl (by decide) rfl (fun ls hl => ?_)
    refine lv_iload_n hx hb d_Z_writeRoots_39 rfl (lv_at hl 2 rfl) ?_
    refine lv_istore (lv' := [(5, .int (nI i)), (4, .int (nI ((-((CF i) 0))).val)), (3, .int (nI i)), (2, .int (nI i)), (1, .ref ia), (0, .ref zo)]) hx hb d_Z_writeRoots_40 hl (by decide) rfl (fun ls hl => ?_)
    rw [← inI_i IT i] at h_ia
    have hnew : ∀ j, j < i → IT j ≠ (-CF i 0).val := fun j hj e9 => by obtain ⟨r, hr9, h8⟩ := (hst _).mp ⟨j, hj, rfl⟩; have h7 := hdis r i (by omega) (by omega) (by have h6 : (-CF r 0) = (-CF i 0) := Fin.ext (h8.trans e9); grind); omega
    refine lp_Z_wr1 (B := B) (zo := zo) (fs := fs) (ia := ia) (TI := TI) (k9 := k9) (w2 := w2) (w3 := w3) (fe := fe) (fz := fz) (dg := dg) (CF := CF) (i := i) (IT := IT) hx hb hml hg hown hK (Nat.le_trans (Nat.le_of_ble_eq_true rfl) hRf) (Nat.le_trans (Nat.le_of_ble_eq_true rfl) hRl) (by omega) (by omega) hTI hk hdis (by omega) hlt i S H _ ls (Nat.le_refl _) (fun j h1 h2 => absurd h1 (by omega)) h_zo h_fs h_ia hE hfr hI (lv_sub hl [0, 1, 2, 3, 4, 5] rfl) (fun S5 H6 locs ls hgt j_zo j_fs j_ia hE hfr hI hl => ?_) (fun p9 S9 H9 locs ls hx9 j_zo j_fs j_ia hE hfr hI hl => ?_)
    · have hx9 : 0 ≤ i ∧ (∀ j, 0 ≤ j → j < i → (-CF i 0).val < IT j) ∧ (0 < 0 → IT (0 - 1) ≤ (-CF i 0).val) := ⟨Nat.zero_le _, hgt, fun h8 => absurd h8 (Nat.lt_irrefl 0)⟩
      refine lv_aload_n hx hb d_Z_writeRoots_74 rfl (lv_at hl 4 rfl) ?_
      refine lv_iload hx hb d_Z_writeRoots_75 (lv_at hl 0 rfl) ?_
      refine lv_iload hx hb d_Z_writeRoots_77 (lv_at hl 1 rfl) ?_
      refine mp_iast hx hb hK.va hI 0 j_ia rfl (vp_in_nI (show 0 < 16 by omega) (by omega)) d_Z_writeRoots_79 (fun S7 H8 locs e_9 hI => ?_)
      have j_ia_o := j_ia
      have e_9 : S7 = va_up S5 ia (some (TI, .inl ((g 0), 16, .inl (upd (fun j => nI ((inI IT i 0) j)) (nI 0).toNatClampNeg (nI (-CF i 0).val))))) := e_9
      have j_ia_o := j_ia
      have j_zo : S7 zo = some (30, .inr (6, [.ref fs, .int (nI k9), w2, w3])) := by rw [e_9]; exact mp_keep j_zo j_ia (by omega)
      have j_fs : S7 fs = some (31, .inl ((g 3), 16, .inr (.inr (.inr (.inr (rfs fe 16)))))) := by rw [e_9]; exact mp_keep j_fs j_ia (by omega)
      have j_ia : S7 ia = some (TI, .inl ((g 0), 16, .inl (upd (fun j => nI ((inI IT i 0) j)) (nI 0).toNatClampNeg (nI (-CF i 0).val)))) := by rw [e_9]; exact mp_us _ _ _
      have hE := oS_kept hE (S1 := S7) (fun b t9 e9 hb9 h1 h2 => by rw [e_9]; exact mp_un (mp_ne hb9 j_ia_o (by omega)))
      have hfr : ∀ b t e9, B b = some (t, e9) → (t ≠ TI) → S7 b = some (t, e9) := fun b t e9 h9 k0 => by rw [e_9]; exact mp_keep (hfr b t e9 h9 k0) j_ia_o (by omega)
      rw [nI_clamp (by omega), nIf_up] at j_ia
      have hins := ins_ok hx9.1 hso (fun j hj e9 => hnew j hj e9) hx9.2.1 hx9.2.2
      refine lv_iinc (v := nI (i + 1)) (lv' := [(2, .int (nI (i + 1))), (5, .int (nI 0)), (4, .int (nI (-CF i 0).val)), (3, .int (nI i)), (1, .ref ia), (0, .ref zo)]) hx hb d_Z_writeRoots_80 hl (k := 3) rfl (nI_1 _) (by decide) rfl (fun ls hl => ?_)
      refine lv_iinc (v := nI (i + 1)) (lv' := [(3, .int (nI (i + 1))), (2, .int (nI (i + 1))), (5, .int (nI 0)), (4, .int (nI (-CF i 0).val)), (1, .ref ia), (0, .ref zo)]) hx hb d_Z_writeRoots_83 hl (k := 3) rfl (nI_1 _) (by decide) rfl (fun ls hl => ?_)
      refine lv_goto (tgt := 4) hx hb d_Z_writeRoots_86 (by decide) ?_
      exact ih (i + 1) (va_up (inI IT i 0) 0 (-CF i 0).val) S7 H8 locs ls (by omega) hins.1 (fun y => by rw [hins.2 y, hst y]; exact wr_set) (fun j hj => by have q9 := (hins.2 _).mp ⟨j, hj, rfl⟩; rcases q9 with ⟨j9, h8, h7⟩ | h7; exact (by rw [← h7]; exact hlt j9 h8); exact (by rw [h7]; exact (-CF i 0).isLt)) j_zo j_fs j_ia hE hfr hI (lv_sub hl [0, 1, 4, 5] rfl) kx
    · have hp9 := hx9.1
      refine lv_aload_n hx hb d_Z_writeRoots_74 rfl (lv_at hl 4 rfl) ?_
      refine lv_iload hx hb d_Z_writeRoots_75 (lv_at hl 0 rfl) ?_
      refine lv_iload hx hb d_Z_writeRoots_77 (lv_at hl 1 rfl) ?_
      refine mp_iast hx hb hK.va hI 0 j_ia rfl (vp_in_nI (show p9 < 16 by omega) (by omega)) d_Z_writeRoots_79 (fun S10 H11 locs e_12 hI => ?_)
      have j_ia_o := j_ia
      have e_12 : S10 = va_up S9 ia (some (TI, .inl ((g 0), 16, .inl (upd (fun j => nI ((inI IT i p9) j)) (nI p9).toNatClampNeg (nI (-CF i 0).val))))) := e_12
      have j_ia_o := j_ia
      have j_zo : S10 zo = some (30, .inr (6, [.ref fs, .int (nI k9), w2, w3])) := by rw [e_12]; exact mp_keep j_zo j_ia (by omega)
      have j_fs : S10 fs = some (31, .inl ((g 3), 16, .inr (.inr (.inr (.inr (rfs fe 16)))))) := by rw [e_12]; exact mp_keep j_fs j_ia (by omega)
      have j_ia : S10 ia = some (TI, .inl ((g 0), 16, .inl (upd (fun j => nI ((inI IT i p9) j)) (nI p9).toNatClampNeg (nI (-CF i 0).val)))) := by rw [e_12]; exact mp_us _ _ _
      have hE := oS_kept hE (S1 := S10) (fun b t9 e9 hb9 h1 h2 => by rw [e_12]; exact mp_un (mp_ne hb9 j_ia_o (by omega)))
      have hfr : ∀ b t e9, B b = some (t, e9) → (t ≠ TI) → S10 b = some (t, e9) := fun b t e9 h9 k0 => by rw [e_12]; exact mp_keep (hfr b t e9 h9 k0) j_ia_o (by omega)
      rw [nI_clamp (by omega), nIf_up] at j_ia
      have hins := ins_ok hx9.1 hso (fun j hj e9 => hnew j hj e9) hx9.2.1 hx9.2.2
      refine lv_iinc (v := nI (i + 1)) (lv' := [(2, .int (nI (i + 1))), (5, .int (nI p9)), (4, .int (nI (-CF i 0).val)), (3, .int (nI i)), (1, .ref ia), (0, .ref zo)]) hx hb d_Z_writeRoots_80 hl (k := 3) rfl (nI_1 _) (by decide) rfl (fun ls hl => ?_)
      refine lv_iinc (v := nI (i + 1)) (lv' := [(3, .int (nI (i + 1))), (2, .int (nI (i + 1))), (5, .int (nI p9)), (4, .int (nI (-CF i 0).val)), (1, .ref ia), (0, .ref zo)]) hx hb d_Z_writeRoots_83 hl (k := 3) rfl (nI_1 _) (by decide) rfl (fun ls hl => ?_)
      refine lv_goto (tgt := 4) hx hb d_Z_writeRoots_86 (by decide) ?_
      exact ih (i + 1) (va_up (inI IT i p9) p9 (-CF i 0).val) S10 H11 locs ls (by omega) hins.1 (fun y => by rw [hins.2 y, hst y]; exact wr_set) (fun j hj => by have q9 := (hins.2 _).mp ⟨j, hj, rfl⟩; rcases q9 with ⟨j9, h8, h7⟩ | h7; exact (by rw [← h7]; exact hlt j9 h8); exact (by rw [h7]; exact (-CF i 0).isLt)) j_zo j_fs j_ia hE hfr hI (lv_sub hl [0, 1, 4, 5] rfl) kx
set_option maxHeartbeats 4000000 in
set_option maxRecDepth 100000 in
/-- the roots in order -/
theorem c_Z_writeRoots (l : Launch) (D : mp_G) (g : Nat → ClassId) (S : mp_M) (sz : Nat) (zo fs ia TI k9 : Nat) (w2 w3 : Value) (fe fz : Nat → Nat) (dg : Nat → Int32) (CF : Nat → Nat → fF) (IT0 : Nat → Nat) (h_zo : S zo = some (30, .inr (6, [.ref fs, .int (nI k9), w2, w3]))) (h_fs : S fs = some (31, .inl ((g 3), 16, .inr (.inr (.inr (.inr (rfs fe 16))))))) (h_ia : S ia = some (TI, .inl ((g 0), 16, .inl (fun j => nI (IT0 j))))) (hE : oS g 520 16 fe fz dg (fun ii j => nI (CF ii j).val) S) (hTI : 564 ≤ TI) (hk : k9 ≤ 16) (hdis : ∀ r q, r < k9 → q < k9 → CF r 0 = CF q 0 → r = q) : Met l y_Z_writeRoots w_Z_writeRoots ({ frames := 0, cells := 0, slots := 0, locals := 0 }) (va_Pc [.ref zo, .ref ia] (mp_B0 D classes (tys g) S sz)) (va_Qi (fun (r : Int32) (S1 : mp_M) => ∃ IT : Nat → Nat, r = nI k9 ∧ (∀ a b, a < b → b < k9 → IT a < IT b) ∧ (∀ y, (∃ j, j < k9 ∧ IT j = y) ↔ (∃ r, r < k9 ∧ (-CF r 0).val = y)) ∧ (∀ j, j < k9 → IT j < 32003) ∧ S1 ia = some (TI, .inl ((g 0), 16, .inl (fun j => nI (IT j)))) ∧ (∀ b t e9, S b = some (t, e9) → (t ≠ TI) → S1 b = some (t, e9))) (mp_B1 D classes S sz) (mp_A S sz)) 0 0 (mp_A S sz) := by
  refine Met.ofW (cc := b_Z_writeRoots) (maxL := 6) (ret := (some .int)) (by decide) rfl ?_
  intro p e s m args below meth c s₁ B hml hv
  obtain ⟨rfl, hsz, hH, hK⟩ := hv
  have hx := B.exec
  have hb := B.bytes
  have hr := B.returns
  have hts := atoms_spec (ws := w_Z_writeRoots) B.pre
  have hg : ∀ w ∈ gw, w.before _ s = true := fun w h => hts w (List.mem_cons_of_mem _ h)
  have hown : s.vm.findClass R_Z = some m.cls := findClass_of_methodNamed B.named
  have hlocks := B.notSynchronized
  subst hsz
  have hI := mp_I.start hH
  have hl := lv_entry ([.ref zo, .ref ia]) (n := 6) (Nat.le_of_ble_eq_true rfl)
  rw [lg_entry_eq]
  generalize (lg_sl ([.ref zo, .ref ia]) ++ List.replicate (6 - (lg_sl ([.ref zo, .ref ia])).length) Slot.unset).toArray = ls at hl ⊢
  have hl : lv_has ls 6 [(0, .ref zo), (1, .ref ia)] := hl
  have hfr : ∀ b t e9, S b = some (t, e9) → (t ≠ TI) → S b = some (t, e9) := fun _ _ _ h9 _ => h9
  refine lv_iconst (v := nI 0) hx hb d_Z_writeRoots_0 (by decide) ?_
  refine lv_istore_n (lv' := [(2, .int (nI 0)), (0, .ref zo), (1, .ref ia)]) hx hb d_Z_writeRoots_1 rfl hl (by decide) rfl (fun ls hl => ?_)
  refine lv_iconst (v := nI 0) hx hb d_Z_writeRoots_2 (by decide) ?_
  refine lv_istore_n (lv' := [(3, .int (nI 0)), (2, .int (nI 0)), (0, .ref zo), (1, .ref ia)]) hx hb d_Z_writeRoots_3 rfl hl (by decide) rfl (fun ls hl => ?_)
  refine lp_Z_wr2 (B := S) (zo := zo) (fs := fs) (ia := ia) (TI := TI) (k9 := k9) (w2 := w2) (w3 := w3) (fe := fe) (fz := fz) (dg := dg) (CF := CF) hx hb hml hg hown hK (Nat.le_of_ble_eq_true rfl) (Nat.le_of_ble_eq_true rfl) (Nat.le_of_ble_eq_true rfl) (Nat.le_of_ble_eq_true rfl) hTI hk hdis k9 0 IT0 S s.heap _ ls (by omega) (fun a b _ h2 => absurd h2 (Nat.not_lt_zero b)) (fun y => ⟨fun ⟨j, hj, _⟩ => absurd hj (Nat.not_lt_zero j), fun ⟨j, hj, _⟩ => absurd hj (Nat.not_lt_zero j)⟩) (fun j hj => absurd hj (Nat.not_lt_zero j)) h_zo h_fs h_ia hE hfr hI (lv_sub hl [0, 1, 3, 2] rfl) (fun IT S1 H2 locs ls hso hst hlt j_zo j_fs j_ia hE hfr hI hl => ?_)
  refine lv_iload_n hx hb d_Z_writeRoots_89 rfl (lv_at hl 1 rfl) ?_
  refine mp_iret hx hb hr hlocks hI (Nat.le_of_ble_eq_true rfl) (Nat.le_of_ble_eq_true rfl) ?_ d_Z_writeRoots_90
  exact ⟨IT, rfl, hso, hst, hlt, j_ia, hfr⟩
set_option maxHeartbeats 4000000 in
set_option maxRecDepth 100000 in
theorem lp_Z_find1 {p : Program} {l : Launch} {e : Env} {R : Room} {s : State} {m : MethodId} {args : Array Value} {below : List Frame} {meth : Method} {c : Code} {Q : State → Prop} {D : mp_G} {g : Nat → ClassId} {A : Nat → Prop} {cells slots : Nat} (hx : p.tables.exec = Jvm.exec) (hb : c.code = b_Z_find) (hml : c.maxLocals = 7) (hg : ∀ w ∈ gw, w.before args s = true) (hown : s.vm.findClass R_Z = some m.cls) (hK : mp_K D classes (tys g) s) (hRf : 5 ≤ R.frames) (hRl : 113 ≤ R.locals) (hRc : cells ≤ R.cells) (hRs : slots ≤ R.slots) {B : mp_M} {zo fs on na ot ta po pa ia TP TI d : Nat} {fe fz : Nat → Nat} {cp : Nat → fF} {e9 kb i : Nat} {g9 : fF → fF} {IT0 : Nat → Nat} (hlab : 564 ≤ TP ∧ TP + 1 < TI) (hd : d ≤ 16) (he9 : e9 ≤ 16) (hPM : PM e9 g9) (hi3 : i < 32003) (hkb16 : kb ≤ 16) : ∀ (k : Nat) (f : Nat) (k1 : Nat) (dg : Nat → Int32) (dN : Nat → Nat) (CF : Nat → Nat → fF) (dn : Int32) (dt : Int32) (cn : Nat → fF) (ct : Nat → fF) (S : mp_M) (H : Heap) (locs : List Loc) (ls : Array Slot), f + k = kb → (ZP k1 dg dN CF g9) → (1 ≤ k1) → (trn 33 cn) → (trn 33 ct) → (kb ≤ k1) → (∀ s, s < i → ∀ r, r < k1 → sdN (fc s) (phF (CF r))) → (∀ r, r < k1 → (r < f ∨ kb ≤ r) → sdN (fc i) (phF (CF r))) → S zo = some (30, .inr (6, [.ref fs, .int (nI k1), .ref on, .ref ot])) → S fs = some (31, .inl ((g 3), 16, .inr (.inr (.inr (.inr (rfs fe 16)))))) → S on = some (560, .inr (1, [.ref na, .int dn])) → S na = some ((560 + 1), .inl ((g 0), 33, .inl (fun j => nI (cn j).val))) → S ot = some (562, .inr (1, [.ref ta, .int dt])) → S ta = some ((562 + 1), .inl ((g 0), 33, .inl (fun j => nI (ct j).val))) → S po = some (TP, .inr (1, [.ref pa, .int (nI d)])) → S pa = some ((TP + 1), .inl ((g 0), 33, .inl (fun j => nI (cp j).val))) → S ia = some (TI, .inl ((g 0), 16, .inl (fun j => nI (IT0 j)))) → (oS g 520 16 fe fz dg (fun ii j => nI (CF ii j).val) S) → (∀ b t e9, B b = some (t, e9) → (t ≠ 30) → (t < 520 ∨ 564 ≤ t) → (t ≠ TI) → S b = some (t, e9)) → mp_I D classes A s.heap S H locs → lv_has ls 7 [(6, .int (nI f)), (5, .int (nI kb)), (4, .int (nI i)), (3, .int (nI e9)), (2, .ref ia), (1, .ref po), (0, .ref zo)] → (∀ (k1 : Nat) (dg : Nat → Int32) (dN : Nat → Nat) (CF : Nat → Nat → fF) (dn : Int32) (dt : Int32) (cn : Nat → fF) (ct : Nat → fF) (S : mp_M) (H : Heap) (locs : List Loc) (ls : Array Slot), (ZP k1 dg dN CF g9) → (1 ≤ k1) → (trn 33 cn) → (trn 33 ct) → (kb ≤ k1) → (∀ s, s < i → ∀ r, r < k1 → sdN (fc s) (phF (CF r))) → (∀ r, r < k1 → (r < kb ∨ kb ≤ r) → sdN (fc i) (phF (CF r))) → S zo = some (30, .inr (6, [.ref fs, .int (nI k1), .ref on, .ref ot])) → S fs = some (31, .inl ((g 3), 16, .inr (.inr (.inr (.inr (rfs fe 16)))))) → S on = some (560, .inr (1, [.ref na, .int dn])) → S na = some ((560 + 1), .inl ((g 0), 33, .inl (fun j => nI (cn j).val))) → S ot = some (562, .inr (1, [.ref ta, .int dt])) → S ta = some ((562 + 1), .inl ((g 0), 33, .inl (fun j => nI (ct j).val))) → S po = some (TP, .inr (1, [.ref pa, .int (nI d)])) → S pa = some ((TP + 1), .inl ((g 0), 33, .inl (fun j => nI (cp j).val))) → S ia = some (TI, .inl ((g 0), 16, .inl (fun j => nI (IT0 j)))) → (oS g 520 16 fe fz dg (fun ii j => nI (CF ii j).val) S) → (∀ b t e9, B b = some (t, e9) → (t ≠ 30) → (t < 520 ∨ 564 ≤ t) → (t ≠ TI) → S b = some (t, e9)) → mp_I D classes A s.heap S H locs → lv_has ls 7 [(6, .int (nI kb)), (5, .int (nI kb)), (4, .int (nI i)), (3, .int (nI e9)), (2, .ref ia), (1, .ref po), (0, .ref zo)] → W p l e R s m args below meth c H locs cells slots Q (F0 m 141 ls [])) → W p l e R s m args below meth c H locs cells slots Q (F0 m 120 ls []) := by
  intro k
  induction k with
  | zero =>
    intro f k1 dg dN CF dn dt cn ct S H locs ls hi hZ hk1 tcn tct hkb hold hnw h_zo h_fs h_on h_ona h_ot h_ota h_p h_pa h_ia hE hfr hI hl kx
    refine lv_iload hx hb d_Z_find_120 (lv_at hl 0 rfl) ?_
    refine lv_iload hx hb d_Z_find_122 (lv_at hl 1 rfl) ?_
    refine lv_icmp_ge (tgt := 141) hx hb d_Z_find_124 (by decide) (fun _ => ?_) (fun h9 => absurd ((nI_leI (by omega) (by omega)).mpr (by omega)) h9)
    obtain rfl : f = kb := by omega
    exact kx k1 dg dN CF dn dt cn ct S H locs ls hZ hk1 tcn tct hkb hold hnw h_zo h_fs h_on h_ona h_ot h_ota h_p h_pa h_ia hE hfr hI (lv_sub hl [0, 1, 2, 3, 4, 5, 6] rfl)
  | succ k ih =>
    intro f k1 dg dN CF dn dt cn ct S H locs ls hi hZ hk1 tcn tct hkb hold hnw h_zo h_fs h_on h_ona h_ot h_ota h_p h_pa h_ia hE hfr hI hl kx
    have hk16 := (FS_le hZ.2.2 hPM).1
    refine lv_iload hx hb d_Z_find_120 (lv_at hl 0 rfl) ?_
    refine lv_iload hx hb d_Z_find_122 (lv_at hl 1 rfl) ?_
    refine lv_icmp_ge (tgt := 141) hx hb d_Z_find_124 (by decide) (fun h9 => absurd h9 (by rw [nI_leI (by omega) (by omega)]; omega)) (fun _ => ?_)
    refine lv_aload_n hx hb d_Z_find_127 rfl (lv_at hl 6 rfl) ?_
    refine lv_iload hx hb d_Z_find_128 (lv_at hl 0 rfl) ?_
    refine lv_iload hx hb d_Z_find_130 (lv_at hl 2 rfl) ?_
    refine lv_topi (fun v1 ev1 => ?_)
    obtain rfl : v1 = nI (fc i).val := ev1.trans (by rw [fc_v, Nat.mod_eq_of_lt hi3])
    refine mp_callv hI (va_runV (As := [.int (nI f), .int (nI (fc i).val)]) (rest := []) ⟨hx, hb, hml, hown, hg⟩ (c_Z_split l D g S _ zo fs on na ot ta k1 f fe fz dg dN CF dn dt cn ct (fc i) g9 h_zo h_fs h_on h_ona h_ot h_ota hE hZ (by omega) (by omega) (fun h2 => by have := (FS_le hZ.2.2 hPM).2 ⟨f, by omega, h2⟩; omega) tcn tct) ⟨(callB_of 2 hg (wd_goodG q_477) rfl rfl rfl (hg _ q_17) (hg _ q_474) (by decide +kernel) ⟨Nat.le_trans (Nat.le_of_ble_eq_true rfl) hRf, Nat.le_trans (Nat.le_of_ble_eq_true rfl) hRl⟩), hg _ q_476, hg _ qs_14⟩ (mp_preV (C := R_Z) (T := F_Z) hI hK h_zo rfl [.int (nI f), .int (nI (fc i).val)]) rfl rfl hl.1 rfl (lv_room (Nat.le_of_ble_eq_true rfl)) d_Z_find_132 ⟨by omega, by omega⟩) (fun S2 H3 locs p_4 hI => ?_)
    obtain ⟨k2, dg2, dN2, CF2, dn2, dt2, cn2, ct2, hZ2, hsp, tcn2, tct2, q_zo, q_on, q_na, q_ot, q_ta, q_E, fq⟩ := p_4
    obtain ⟨p1, p2, p3, p4, p5, p6⟩ := hsp
    have h_fs : S2 fs = some (31, .inl ((g 3), 16, .inr (.inr (.inr (.inr (rfs fe 16)))))) := fq fs _ _ h_fs (by omega) (by omega)
    have h_p : S2 po = some (TP, .inr (1, [.ref pa, .int (nI d)])) := fq po _ _ h_p (by omega) (by omega)
    have h_pa : S2 pa = some ((TP + 1), .inl ((g 0), 33, .inl (fun j => nI (cp j).val))) := fq pa _ _ h_pa (by omega) (by omega)
    have h_ia : S2 ia = some (TI, .inl ((g 0), 16, .inl (fun j => nI (IT0 j)))) := fq ia _ _ h_ia (by omega) (by omega)
    have hfr : ∀ b t e9, B b = some (t, e9) → (t ≠ 30) → (t < 520 ∨ 564 ≤ t) → (t ≠ TI) → S2 b = some (t, e9) := fun b t e9 h9 k0 k1 k2 => by have h8 := hfr b t e9 h9 k0 k1 k2; exact fq b _ _ h8 (by omega) (by omega)
    have hE := q_E
    refine lv_iinc (v := nI (f + 1)) (lv' := [(6, .int (nI (f + 1))), (5, .int (nI kb)), (4, .int (nI i)), (3, .int (nI e9)), (2, .ref ia), (1, .ref po), (0, .ref zo)]) hx hb d_Z_find_135 hl (k := 0) rfl (nI_1 _) (by decide) rfl (fun ls hl => ?_)
    refine lv_goto (tgt := 120) hx hb d_Z_find_138 (by decide) ?_
    exact ih (f + 1) k2 dg2 dN2 CF2 dn2 dt2 cn2 ct2 S2 H3 locs ls (by omega) hZ2 (by omega) tcn2 tct2 (by omega) (fun s hs r hr => by obtain ⟨j, hj, hj2⟩ := p6 r hr; exact sd_sub (hold s hs j hj) hj2) (fun r hr h2 => by by_cases e1 : r = f; exact (by rw [e1]; exact p3); exact (if h3 : r < k1 then (by rw [p5 r h3 e1]; exact hnw r h3 (by omega)) else p4 r (by omega) hr)) q_zo h_fs q_on q_na q_ot q_ta h_p h_pa h_ia hE hfr hI (lv_sub hl [0, 1, 2, 3, 4, 5, 6] rfl) kx
set_option maxHeartbeats 4000000 in
set_option maxRecDepth 100000 in
theorem lp_Z_find2 {p : Program} {l : Launch} {e : Env} {R : Room} {s : State} {m : MethodId} {args : Array Value} {below : List Frame} {meth : Method} {c : Code} {Q : State → Prop} {D : mp_G} {g : Nat → ClassId} {A : Nat → Prop} {cells slots : Nat} (hx : p.tables.exec = Jvm.exec) (hb : c.code = b_Z_find) (hml : c.maxLocals = 7) (hg : ∀ w ∈ gw, w.before args s = true) (hown : s.vm.findClass R_Z = some m.cls) (hK : mp_K D classes (tys g) s) (hRf : 5 ≤ R.frames) (hRl : 113 ≤ R.locals) (hRc : cells ≤ R.cells) (hRs : slots ≤ R.slots) {B : mp_M} {zo fs on na ot ta po pa ia TP TI d : Nat} {fe fz : Nat → Nat} {cp : Nat → fF} {e9 : Nat} {g9 : fF → fF} {IT0 : Nat → Nat} (hlab : 564 ≤ TP ∧ TP + 1 < TI) (hd : d ≤ 16) (he9 : e9 ≤ 16) (hPM : PM e9 g9) : ∀ (k : Nat) (i : Nat) (k1 : Nat) (dg : Nat → Int32) (dN : Nat → Nat) (CF : Nat → Nat → fF) (dn : Int32) (dt : Int32) (cn : Nat → fF) (ct : Nat → fF) (S : mp_M) (H : Heap) (locs : List Loc) (ls : Array Slot), i + k = 32003 → (ZP k1 dg dN CF g9) → (1 ≤ k1) → (trn 33 cn) → (trn 33 ct) → (∀ s, s < i → ∀ r, r < k1 → sdN (fc s) (phF (CF r))) → S zo = some (30, .inr (6, [.ref fs, .int (nI k1), .ref on, .ref ot])) → S fs = some (31, .inl ((g 3), 16, .inr (.inr (.inr (.inr (rfs fe 16)))))) → S on = some (560, .inr (1, [.ref na, .int dn])) → S na = some ((560 + 1), .inl ((g 0), 33, .inl (fun j => nI (cn j).val))) → S ot = some (562, .inr (1, [.ref ta, .int dt])) → S ta = some ((562 + 1), .inl ((g 0), 33, .inl (fun j => nI (ct j).val))) → S po = some (TP, .inr (1, [.ref pa, .int (nI d)])) → S pa = some ((TP + 1), .inl ((g 0), 33, .inl (fun j => nI (cp j).val))) → S ia = some (TI, .inl ((g 0), 16, .inl (fun j => nI (IT0 j)))) → (oS g 520 16 fe fz dg (fun ii j => nI (CF ii j).val) S) → (∀ b t e9, B b = some (t, e9) → (t ≠ 30) → (t < 520 ∨ 564 ≤ t) → (t ≠ TI) → S b = some (t, e9)) → mp_I D classes A s.heap S H locs → lv_has ls 7 [(4, .int (nI i)), (3, .int (nI e9)), (2, .ref ia), (1, .ref po), (0, .ref zo)] → (∀ (k1 : Nat) (dg : Nat → Int32) (dN : Nat → Nat) (CF : Nat → Nat → fF) (dn : Int32) (dt : Int32) (cn : Nat → fF) (ct : Nat → fF) (S : mp_M) (H : Heap) (locs : List Loc) (ls : Array Slot), (ZP k1 dg dN CF g9) → (1 ≤ k1) → (trn 33 cn) → (trn 33 ct) → (∀ s, s < 32003 → ∀ r, r < k1 → sdN (fc s) (phF (CF r))) → S zo = some (30, .inr (6, [.ref fs, .int (nI k1), .ref on, .ref ot])) → S fs = some (31, .inl ((g 3), 16, .inr (.inr (.inr (.inr (rfs fe 16)))))) → S on = some (560, .inr (1, [.ref na, .int dn])) → S na = some ((560 + 1), .inl ((g 0), 33, .inl (fun j => nI (cn j).val))) → S ot = some (562, .inr (1, [.ref ta, .int dt])) → S ta = some ((562 + 1), .inl ((g 0), 33, .inl (fun j => nI (ct j).val))) → S po = some (TP, .inr (1, [.ref pa, .int (nI d)])) → S pa = some ((TP + 1), .inl ((g 0), 33, .inl (fun j => nI (cp j).val))) → S ia = some (TI, .inl ((g 0), 16, .inl (fun j => nI (IT0 j)))) → (oS g 520 16 fe fz dg (fun ii j => nI (CF ii j).val) S) → (∀ b t e9, B b = some (t, e9) → (t ≠ 30) → (t < 520 ∨ 564 ≤ t) → (t ≠ TI) → S b = some (t, e9)) → mp_I D classes A s.heap S H locs → lv_has ls 7 [(4, .int (nI 32003)), (3, .int (nI e9)), (2, .ref ia), (1, .ref po), (0, .ref zo)] → W p l e R s m args below meth c H locs cells slots Q (F0 m 147 ls [])) → (∀ (k1 : Nat) (dg : Nat → Int32) (dN : Nat → Nat) (CF : Nat → Nat → fF) (dn : Int32) (dt : Int32) (cn : Nat → fF) (ct : Nat → fF) (S : mp_M) (H : Heap) (locs : List Loc) (ls : Array Slot), (ZP k1 dg dN CF g9) → (1 ≤ k1) → (trn 33 cn) → (trn 33 ct) → (e9 ≤ k1) → S zo = some (30, .inr (6, [.ref fs, .int (nI k1), .ref on, .ref ot])) → S fs = some (31, .inl ((g 3), 16, .inr (.inr (.inr (.inr (rfs fe 16)))))) → S on = some (560, .inr (1, [.ref na, .int dn])) → S na = some ((560 + 1), .inl ((g 0), 33, .inl (fun j => nI (cn j).val))) → S ot = some (562, .inr (1, [.ref ta, .int dt])) → S ta = some ((562 + 1), .inl ((g 0), 33, .inl (fun j => nI (ct j).val))) → S po = some (TP, .inr (1, [.ref pa, .int (nI d)])) → S pa = some ((TP + 1), .inl ((g 0), 33, .inl (fun j => nI (cp j).val))) → S ia = some (TI, .inl ((g 0), 16, .inl (fun j => nI (IT0 j)))) → (oS g 520 16 fe fz dg (fun ii j => nI (CF ii j).val) S) → (∀ b t e9, B b = some (t, e9) → (t ≠ 30) → (t < 520 ∨ 564 ≤ t) → (t ≠ TI) → S b = some (t, e9)) → mp_I D classes A s.heap S H locs → lv_has ls 7 [(3, .int (nI e9)), (2, .ref ia), (1, .ref po), (0, .ref zo)] → W p l e R s m args below meth c H locs cells slots Q (F0 m 147 ls [])) → W p l e R s m args below meth c H locs cells slots Q (F0 m 95 ls []) := by
  intro k
  induction k with
  | zero =>
    intro i k1 dg dN CF dn dt cn ct S H locs ls hi hZ hk1 tcn tct hold h_zo h_fs h_on h_ona h_ot h_ota h_p h_pa h_ia hE hfr hI hl kx ky
    refine lv_iload hx hb d_Z_find_95 (lv_at hl 0 rfl) ?_
    refine lv_sipush (v := nI 32003) hx hb d_Z_find_97 (by decide) ?_
    refine lv_icmp_ge (tgt := 147) hx hb d_Z_find_100 (by decide) (fun _ => ?_) (fun h9 => absurd ((nI_leI (by omega) (by omega)).mpr (by omega)) h9)
    obtain rfl : i = 32003 := by omega
    exact kx k1 dg dN CF dn dt cn ct S H locs ls hZ hk1 tcn tct hold h_zo h_fs h_on h_ona h_ot h_ota h_p h_pa h_ia hE hfr hI (lv_sub hl [0, 1, 2, 3, 4] rfl)
  | succ k ih =>
    intro i k1 dg dN CF dn dt cn ct S H locs ls hi hZ hk1 tcn tct hold h_zo h_fs h_on h_ona h_ot h_ota h_p h_pa h_ia hE hfr hI hl kx ky
    have hk16 := (FS_le hZ.2.2 hPM).1
    refine lv_iload hx hb d_Z_find_95 (lv_at hl 0 rfl) ?_
    refine lv_sipush (v := nI 32003) hx hb d_Z_find_97 (by decide) ?_
    refine lv_icmp_ge (tgt := 147) hx hb d_Z_find_100 (by decide) (fun h9 => absurd h9 (by rw [nI_leI (by omega) (by omega)]; omega)) (fun _ => ?_)
    refine lv_aload_n hx hb d_Z_find_103 rfl (lv_at hl 4 rfl) ?_
    refine mp_get (C := R_Z) (T := F_Z) (N := 4) (v := .int (nI k1)) hx hb hg i_Z hown hK.va hI h_zo rfl 1 (by decide) (hg _ q_146) (fun _ h9 => h9) rfl d_Z_find_104 ?_
    refine lv_iload_n hx hb d_Z_find_107 rfl (lv_at hl 1 rfl) ?_
    refine lv_icmp_ge (tgt := 147) hx hb d_Z_find_108 (by decide) (fun c1 => ?_) (fun c1 => ?_)
    · rw [nI_leI (by omega) (by omega)] at c1
      exact ky k1 dg dN CF dn dt cn ct S H locs ls hZ hk1 tcn tct c1 h_zo h_fs h_on h_ona h_ot h_ota h_p h_pa h_ia hE hfr hI (lv_sub hl [1, 2, 3, 4] rfl)
    · rw [nI_leI (by omega) (by omega)] at c1
      refine lv_aload_n hx hb d_Z_find_111 rfl (lv_at hl 4 rfl) ?_
      refine mp_get (C := R_Z) (T := F_Z) (N := 4) (v := .int (nI k1)) hx hb hg i_Z hown hK.va hI h_zo rfl 1 (by decide) (hg _ q_146) (fun _ h9 => h9) rfl d_Z_find_112 ?_
      refine lv_istore (lv' := [(5, .int (nI k1)), (4, .int (nI i)), (3, .int (nI e9)), (2, .ref ia), (1, .ref po), (0, .ref zo)]) hx hb d_Z_find_115 hl (by decide) rfl (fun ls hl => ?_)
      refine lv_iconst (v := nI 0) hx hb d_Z_find_117 (by decide) ?_
      refine lv_istore (lv' := [(6, .int (nI 0)), (5, .int (nI k1)), (4, .int (nI i)), (3, .int (nI e9)), (2, .ref ia), (1, .ref po), (0, .ref zo)]) hx hb d_Z_find_118 hl (by decide) rfl (fun ls hl => ?_)
      refine lp_Z_find1 (B := B) (zo := zo) (fs := fs) (on := on) (na := na) (ot := ot) (ta := ta) (po := po) (pa := pa) (ia := ia) (TP := TP) (TI := TI) (d := d) (fe := fe) (fz := fz) (cp := cp) (e9 := e9) (kb := k1) (i := i) (g9 := g9) (IT0 := IT0) hx hb hml hg hown hK (Nat.le_trans (Nat.le_of_ble_eq_true rfl) hRf) (Nat.le_trans (Nat.le_of_ble_eq_true rfl) hRl) (by omega) (by omega) hlab hd he9 hPM (by omega) (by omega) k1 0 k1 dg dN CF dn dt cn ct S H _ ls (by omega) hZ hk1 tcn tct (Nat.le_refl _) hold (fun r hr h2 => absurd h2 (by omega)) h_zo h_fs h_on h_ona h_ot h_ota h_p h_pa h_ia hE hfr hI (lv_sub hl [0, 1, 2, 3, 4, 5, 6] rfl) (fun k2 dg2 dN2 CF2 dn2 dt2 cn2 ct2 S1 H2 locs ls hZ2 hk2 tcn2 tct2 hkb2 hold2 hnw2 j_zo j_fs j_on j_ona j_ot j_ota j_p j_pa j_ia hE hfr hI hl => ?_)
      refine lv_iinc (v := nI (i + 1)) (lv' := [(4, .int (nI (i + 1))), (6, .int (nI k1)), (5, .int (nI k1)), (3, .int (nI e9)), (2, .ref ia), (1, .ref po), (0, .ref zo)]) hx hb d_Z_find_141 hl (k := 2) rfl (nI_1 _) (by decide) rfl (fun ls hl => ?_)
      refine lv_goto (tgt := 95) hx hb d_Z_find_144 (by decide) ?_
      exact ih (i + 1) k2 dg2 dN2 CF2 dn2 dt2 cn2 ct2 S1 H2 locs ls (by omega) hZ2 hk2 tcn2 tct2 (fun s hs r hr => by by_cases e1 : s = i; exact (by rw [e1]; exact hnw2 r hr (by omega)); exact hold2 s (by omega) r hr) j_zo j_fs j_on j_ona j_ot j_ota j_p j_pa j_ia hE hfr hI (lv_sub hl [0, 3, 4, 5, 6] rfl) kx ky
set_option maxHeartbeats 4000000 in
set_option maxRecDepth 100000 in
/-- the roots of a polynomial -/
theorem c_Z_find (l : Launch) (D : mp_G) (g : Nat → ClassId) (S : mp_M) (sz : Nat) (zo fs on na ot ta po pa ia TP TI d : Nat) (fe fz : Nat → Nat) (cp : Nat → fF) (z0 : Int32) (dg : Nat → Int32) (CF : Nat → Nat → fF) (dn dt : Int32) (cn ct : Nat → fF) (IT0 : Nat → Nat) (h_zo : S zo = some (30, .inr (6, [.ref fs, .int z0, .ref on, .ref ot]))) (h_fs : S fs = some (31, .inl ((g 3), 16, .inr (.inr (.inr (.inr (rfs fe 16))))))) (h_on : S on = some (560, .inr (1, [.ref na, .int dn]))) (h_ona : S na = some ((560 + 1), .inl ((g 0), 33, .inl (fun j => nI (cn j).val)))) (h_ot : S ot = some (562, .inr (1, [.ref ta, .int dt]))) (h_ota : S ta = some ((562 + 1), .inl ((g 0), 33, .inl (fun j => nI (ct j).val)))) (h_p : S po = some (TP, .inr (1, [.ref pa, .int (nI d)]))) (h_pa : S pa = some ((TP + 1), .inl ((g 0), 33, .inl (fun j => nI (cp j).val)))) (h_ia : S ia = some (TI, .inl ((g 0), 16, .inl (fun j => nI (IT0 j))))) (hE : oS g 520 16 fe fz dg (fun ii j => nI (CF ii j).val) S) (hlab : 564 ≤ TP ∧ TP + 1 < TI) (hd : d ≤ 16) (hcp : olP (d + 1) cp) (hcp1 : cp d = 1) (tCF : ∀ i, trn 33 (CF i)) (tcn : trn 33 cn) (tct : trn 33 ct) : Met l y_Z_find w_Z_find ({ frames := 5, cells := 0, slots := 0, locals := 113 }) (va_Pc [.ref zo, .ref po, .ref ia] (mp_B0 D classes (tys g) S sz)) (va_Qi (fun (r : Int32) (S1 : mp_M) => ∃ (n1 : Nat) (IT : Nat → Nat) (z1 : Int32) (dg1 : Nat → Int32) (CF1 : Nat → Nat → fF) (dn1 dt1 : Int32) (cn1 ct1 : Nat → fF), r = nI n1 ∧ n1 ≤ 16 ∧ rtS n1 IT (phF cp) ∧ (∀ i, trn 33 (CF1 i)) ∧ trn 33 cn1 ∧ trn 33 ct1 ∧ S1 zo = some (30, .inr (6, [.ref fs, .int z1, .ref on, .ref ot])) ∧ S1 on = some (560, .inr (1, [.ref na, .int dn1])) ∧ S1 na = some ((560 + 1), .inl ((g 0), 33, .inl (fun j => nI (cn1 j).val))) ∧ S1 ot = some (562, .inr (1, [.ref ta, .int dt1])) ∧ S1 ta = some ((562 + 1), .inl ((g 0), 33, .inl (fun j => nI (ct1 j).val))) ∧ S1 ia = some (TI, .inl ((g 0), 16, .inl (fun j => nI (IT j)))) ∧ (oS g 520 16 fe fz dg1 (fun ii j => nI (CF1 ii j).val) S1) ∧ (∀ b t e9, S b = some (t, e9) → (t ≠ 30) → (t < 520 ∨ 564 ≤ t) → (t ≠ TI) → S1 b = some (t, e9))) (mp_B1 D classes S sz) (mp_A S sz)) 0 0 (mp_A S sz) := by
  refine Met.ofW (cc := b_Z_find) (maxL := 7) (ret := (some .int)) (by decide) rfl ?_
  intro p e s m args below meth c s₁ B hml hv
  obtain ⟨rfl, hsz, hH, hK⟩ := hv
  have hx := B.exec
  have hb := B.bytes
  have hr := B.returns
  have hts := atoms_spec (ws := w_Z_find) B.pre
  have hg : ∀ w ∈ gw, w.before _ s = true := fun w h => hts w (List.mem_cons_of_mem _ h)
  have hown : s.vm.findClass R_Z = some m.cls := findClass_of_methodNamed B.named
  have hlocks := B.notSynchronized
  subst hsz
  have hI := mp_I.start hH
  have hl := lv_entry ([.ref zo, .ref po, .ref ia]) (n := 7) (Nat.le_of_ble_eq_true rfl)
  rw [lg_entry_eq]
  generalize (lg_sl ([.ref zo, .ref po, .ref ia]) ++ List.replicate (7 - (lg_sl ([.ref zo, .ref po, .ref ia])).length) Slot.unset).toArray = ls at hl ⊢
  have hl : lv_has ls 7 [(0, .ref zo), (1, .ref po), (2, .ref ia)] := hl
  have hfr : ∀ b t e9, S b = some (t, e9) → (t ≠ 30) → (t < 520 ∨ 564 ≤ t) → (t ≠ TI) → S b = some (t, e9) := fun _ _ _ h9 _ _ _ => h9
  refine lv_aload_n hx hb d_Z_find_0 rfl (lv_at hl 1 rfl) ?_
  refine mp_getN (C := R_O) (T := F_O) (N := 2) (v := .int (nI d)) hx hb hg i_O hown hK.va hI h_p rfl 1 (by decide) (hK.use q_139 rfl) (fun _ h9 => h9) rfl d_Z_find_1 ?_
  refine lv_iconst (v := nI 1) hx hb d_Z_find_4 (by decide) ?_
  refine lv_icmp_lt (tgt := 17) hx hb d_Z_find_5 (by decide) (fun c1 => ?_) (fun c1 => ?_)
  · rw [nI_ltI (by omega) (by omega)] at c1
    obtain rfl : d = 0 := by omega
    refine lv_iconst (v := nI 0) hx hb d_Z_find_17 (by decide) ?_
    refine mp_iret hx hb hr hlocks hI (Nat.le_of_ble_eq_true rfl) (Nat.le_of_ble_eq_true rfl) ?_ d_Z_find_18
    exact ⟨0, IT0, _, dg, CF, dn, dt, cn, ct, rfl, by decide, rt_0 hcp hcp1 (fun _ q9 => q9) IT0, tCF, tcn, tct, h_zo, h_on, h_ona, h_ot, h_ota, h_ia, hE, hfr⟩
  · rw [nI_ltI (by omega) (by omega)] at c1
    refine lv_aload_n hx hb d_Z_find_8 rfl (lv_at hl 1 rfl) ?_
    refine mp_getN (C := R_O) (T := F_O) (N := 2) (v := .int (nI d)) hx hb hg i_O hown hK.va hI h_p rfl 1 (by decide) (hK.use q_139 rfl) (fun _ h9 => h9) rfl d_Z_find_9 ?_
    refine lv_bipush (v := nI 16) hx hb d_Z_find_12 (by decide) ?_
    refine lv_icmp_le (tgt := 19) hx hb d_Z_find_14 (by decide) (fun _ => ?_) (fun h9 => absurd ((nI_leI (by omega) (by omega)).mpr (by omega)) h9)
    have hok : fOK d cp := ⟨by omega, hd, hcp, hcp1⟩
    refine lv_aload_n hx hb d_Z_find_19 rfl (lv_at hl 0 rfl) ?_
    refine mp_get (C := R_Z) (T := F_Z) (N := 4) (v := .ref on) hx hb hg i_Z hown hK.va hI h_zo rfl 2 (by decide) (hg _ q_147) (fun _ h9 => h9) rfl d_Z_find_20 ?_
    refine lv_iconst (v := nI 0) hx hb d_Z_find_23 (by decide) ?_
    refine lv_topi (fun v1 ev1 => ?_)
    obtain rfl : v1 = nI ((0 : fF)).val := ev1.trans (rfl)
    refine lv_sipush (v := nI 32003) hx hb d_Z_find_24 (by decide) ?_
    refine lv_aload_n hx hb d_Z_find_27 rfl (lv_at hl 1 rfl) ?_
    refine mp_callv hI (va_runV (As := [.int (nI ((0 : fF)).val), .int (nI 32003), .ref po]) (rest := []) ⟨hx, hb, hml, hown, hg⟩ (c_O_power l D g S _ on na 560 cn po pa TP d cp 32003 0 dn h_on h_ona h_p h_pa (by omega) (by omega) hd pw_32003 (by decide) tcn) ⟨(callB_of 3 hg (wd_goodG q_436) rfl rfl rfl (hg _ q_18) (hg _ q_433) (by decide +kernel) ⟨Nat.le_of_ble_eq_true rfl, Nat.le_of_ble_eq_true rfl⟩), hg _ q_434, hg _ q_435⟩ (mp_preV (C := R_O) (T := F_O) hI hK h_on rfl [.int (nI ((0 : fF)).val), .int (nI 32003), .ref po]) rfl rfl hl.1 rfl (lv_room (Nat.le_of_ble_eq_true rfl)) d_Z_find_28 ⟨Nat.le_of_ble_eq_true rfl, Nat.le_of_ble_eq_true rfl⟩) (fun S2 H3 locs p_4 hI => ?_)
    obtain ⟨n, c1, q_on, q_na, hbp, fq⟩ := p_4
    have h_zo : S2 zo = some (30, .inr (6, [.ref fs, .int z0, .ref on, .ref ot])) := fq zo _ _ h_zo (by omega) (by omega)
    have h_fs : S2 fs = some (31, .inl ((g 3), 16, .inr (.inr (.inr (.inr (rfs fe 16)))))) := fq fs _ _ h_fs (by omega) (by omega)
    have h_ot : S2 ot = some (562, .inr (1, [.ref ta, .int dt])) := fq ot _ _ h_ot (by omega) (by omega)
    have h_ota : S2 ta = some ((562 + 1), .inl ((g 0), 33, .inl (fun j => nI (ct j).val))) := fq ta _ _ h_ota (by omega) (by omega)
    have h_p : S2 po = some (TP, .inr (1, [.ref pa, .int (nI d)])) := fq po _ _ h_p (by omega) (by omega)
    have h_pa : S2 pa = some ((TP + 1), .inl ((g 0), 33, .inl (fun j => nI (cp j).val))) := fq pa _ _ h_pa (by omega) (by omega)
    have h_ia : S2 ia = some (TI, .inl ((g 0), 16, .inl (fun j => nI (IT0 j)))) := fq ia _ _ h_ia (by omega) (by omega)
    have hfr : ∀ b t e9, S b = some (t, e9) → (t ≠ 30) → (t < 520 ∨ 564 ≤ t) → (t ≠ TI) → S2 b = some (t, e9) := fun b t e9 h9 k0 k1 k2 => by have h8 := hfr b t e9 h9 k0 k1 k2; exact fq b _ _ h8 (by omega) (by omega)
    have hE := oS_kept hE (S1 := S2) (fun b t9 e9 hb9 h1 h2 => by have h8 : S2 b = some (t9, e9) := fq b _ _ hb9 (by omega) (by omega); rw [h8, hb9])
    have h_on := q_on
    have h_ona := q_na
    have hnd := hbp.2.1
    refine lv_aload_n hx hb d_Z_find_31 rfl (lv_at hl 0 rfl) ?_
    refine mp_get (C := R_Z) (T := F_Z) (N := 4) (v := .ref on) hx hb hg i_Z hown hK.va hI h_zo rfl 2 (by decide) (hg _ q_147) (fun _ h9 => h9) rfl d_Z_find_32 ?_
    refine lv_iconst (v := nI 1) hx hb d_Z_find_35 (by decide) ?_
    refine lv_sipush (v := nI 32002) hx hb d_Z_find_36 (by decide) ?_
    refine mp_callv hI (va_runV (As := [.int (nI 1), .int (nI 32002)]) (rest := []) ⟨hx, hb, hml, hown, hg⟩ (c_O_addTo l D g S2 _ on na 560 c1 n 1 h_on h_ona hbp.1 (by decide)) ⟨(callB_of 2 hg (wd_goodG q_459) rfl rfl rfl (hg _ q_18) (hg _ q_456) (by decide +kernel) ⟨Nat.le_of_ble_eq_true rfl, Nat.le_of_ble_eq_true rfl⟩), hg _ q_457, hg _ q_458⟩ (mp_preV (C := R_O) (T := F_O) hI hK h_on rfl [.int (nI 1), .int (nI 32002)]) rfl rfl hl.1 rfl (lv_room (Nat.le_of_ble_eq_true rfl)) d_Z_find_39 ⟨Nat.le_of_ble_eq_true rfl, Nat.le_of_ble_eq_true rfl⟩) (fun S6 H7 locs p_8 hI => ?_)
    obtain ⟨n9, hn9, ol9, q_on, q_na, fq⟩ := p_8
    have h_zo : S6 zo = some (30, .inr (6, [.ref fs, .int z0, .ref on, .ref ot])) := fq zo _ _ h_zo (by omega) (by omega)
    have h_fs : S6 fs = some (31, .inl ((g 3), 16, .inr (.inr (.inr (.inr (rfs fe 16)))))) := fq fs _ _ h_fs (by omega) (by omega)
    have h_ot : S6 ot = some (562, .inr (1, [.ref ta, .int dt])) := fq ot _ _ h_ot (by omega) (by omega)
    have h_ota : S6 ta = some ((562 + 1), .inl ((g 0), 33, .inl (fun j => nI (ct j).val))) := fq ta _ _ h_ota (by omega) (by omega)
    have h_p : S6 po = some (TP, .inr (1, [.ref pa, .int (nI d)])) := fq po _ _ h_p (by omega) (by omega)
    have h_pa : S6 pa = some ((TP + 1), .inl ((g 0), 33, .inl (fun j => nI (cp j).val))) := fq pa _ _ h_pa (by omega) (by omega)
    have h_ia : S6 ia = some (TI, .inl ((g 0), 16, .inl (fun j => nI (IT0 j)))) := fq ia _ _ h_ia (by omega) (by omega)
    have hfr : ∀ b t e9, S b = some (t, e9) → (t ≠ 30) → (t < 520 ∨ 564 ≤ t) → (t ≠ TI) → S6 b = some (t, e9) := fun b t e9 h9 k0 k1 k2 => by have h8 := hfr b t e9 h9 k0 k1 k2; exact fq b _ _ h8 (by omega) (by omega)
    have hE := oS_kept hE (S1 := S6) (fun b t9 e9 hb9 h1 h2 => by have h8 : S6 b = some (t9, e9) := fq b _ _ hb9 (by omega) (by omega); rw [h8, hb9])
    have h_on := q_on
    have h_ona := q_na
    refine lv_aload_n hx hb d_Z_find_42 rfl (lv_at hl 0 rfl) ?_
    refine mp_get (C := R_Z) (T := F_Z) (N := 4) (v := .ref ot) hx hb hg i_Z hown hK.va hI h_zo rfl 3 (by decide) (hg _ q_148) (fun _ h9 => h9) rfl d_Z_find_43 ?_
    refine lv_aload_n hx hb d_Z_find_46 rfl (lv_at hl 1 rfl) ?_
    refine mp_callv hI (va_runV (As := [.ref po]) (rest := []) ⟨hx, hb, hml, hown, hg⟩ (c_O_copy l D g S6 _ ot ta 562 ct po pa TP cp dt (nI d) h_ot h_ota h_p h_pa (by omega) tct (ol_t hcp)) ⟨(callB_of 1 hg (wd_goodG q_463) rfl rfl rfl (hg _ q_18) (hg _ q_460) (by decide +kernel) ⟨Nat.le_of_ble_eq_true rfl, Nat.le_of_ble_eq_true rfl⟩), hg _ q_461, hg _ q_462⟩ (mp_preV (C := R_O) (T := F_O) hI hK h_ot rfl [.ref po]) rfl rfl hl.1 rfl (lv_room (Nat.le_of_ble_eq_true rfl)) d_Z_find_47 ⟨Nat.le_of_ble_eq_true rfl, Nat.le_of_ble_eq_true rfl⟩) (fun S10 H11 locs p_12 hI => ?_)
    obtain ⟨q_ot, q_ta, fq⟩ := p_12
    have h_zo : S10 zo = some (30, .inr (6, [.ref fs, .int z0, .ref on, .ref ot])) := fq zo _ _ h_zo (by omega) (by omega)
    have h_fs : S10 fs = some (31, .inl ((g 3), 16, .inr (.inr (.inr (.inr (rfs fe 16)))))) := fq fs _ _ h_fs (by omega) (by omega)
    have h_on : S10 on = some (560, .inr (1, [.ref na, .int (nI n9 + -1)])) := fq on _ _ h_on (by omega) (by omega)
    have h_ona : S10 na = some ((560 + 1), .inl ((g 0), 33, .inl (fun j => nI ((va_up c1 1 (c1 1 + -1)) j).val))) := fq na _ _ h_ona (by omega) (by omega)
    have h_p : S10 po = some (TP, .inr (1, [.ref pa, .int (nI d)])) := fq po _ _ h_p (by omega) (by omega)
    have h_pa : S10 pa = some ((TP + 1), .inl ((g 0), 33, .inl (fun j => nI (cp j).val))) := fq pa _ _ h_pa (by omega) (by omega)
    have h_ia : S10 ia = some (TI, .inl ((g 0), 16, .inl (fun j => nI (IT0 j)))) := fq ia _ _ h_ia (by omega) (by omega)
    have hfr : ∀ b t e9, S b = some (t, e9) → (t ≠ 30) → (t < 520 ∨ 564 ≤ t) → (t ≠ TI) → S10 b = some (t, e9) := fun b t e9 h9 k0 k1 k2 => by have h8 := hfr b t e9 h9 k0 k1 k2; exact fq b _ _ h8 (by omega) (by omega)
    have hE := oS_kept hE (S1 := S10) (fun b t9 e9 hb9 h1 h2 => by have h8 : S10 b = some (t9, e9) := fq b _ _ hb9 (by omega) (by omega); rw [h8, hb9])
    have h_ot := q_ot
    have h_ota := q_ta
    refine lv_aload_n hx hb d_Z_find_50 rfl (lv_at hl 0 rfl) ?_
    refine mp_get (C := R_Z) (T := F_Z) (N := 4) (v := .ref fs) hx hb hg i_Z hown hK.va hI h_zo rfl 0 (by decide) (hg _ q_145) (fun _ h9 => h9) rfl d_Z_find_51 ?_
    refine lv_iconst (v := nI 0) hx hb d_Z_find_54 (by decide) ?_
    refine mp_aldq (b := fe 0) hx hb hK.va hI 3 h_fs rfl (vp_in_nI (show 0 < 16 by omega) (by omega)) (by rw [nI_clamp (by omega)]; exact rfs_at (by omega)) d_Z_find_55 ?_
    refine lv_aload_n hx hb d_Z_find_56 rfl (lv_at hl 0 rfl) ?_
    refine mp_get (C := R_Z) (T := F_Z) (N := 4) (v := .ref ot) hx hb hg i_Z hown hK.va hI h_zo rfl 3 (by decide) (hg _ q_148) (fun _ h9 => h9) rfl d_Z_find_57 ?_
    refine lv_aload_n hx hb d_Z_find_60 rfl (lv_at hl 0 rfl) ?_
    refine mp_get (C := R_Z) (T := F_Z) (N := 4) (v := .ref on) hx hb hg i_Z hown hK.va hI h_zo rfl 2 (by decide) (hg _ q_147) (fun _ h9 => h9) rfl d_Z_find_61 ?_
    refine mp_callr hI (va_runS (As := [.ref ot, .ref on]) (rest := [.ref (fe 0)]) ⟨hx, hb, hml, hown, hg⟩ (c_Z_gcd l D g S10 _ ot ta 562 on na 560 d n9 cp (va_up c1 1 (c1 1 + -1)) h_ot h_ota h_on h_ona (by decide) hcp hcp1 ol9 (by omega) (by omega)) ⟨(callB_of 2 hg (wd_goodG q_467) rfl rfl rfl (hg _ q_17) (hg _ q_465) (by decide +kernel) ⟨Nat.le_of_ble_eq_true rfl, Nat.le_of_ble_eq_true rfl⟩), hg _ q_466⟩ (mp_pre hI hK [.ref ot, .ref on]) rfl rfl hl.1 rfl (lv_room (Nat.le_of_ble_eq_true rfl)) d_Z_find_64 ⟨Nat.le_of_ble_eq_true rfl, Nat.le_of_ble_eq_true rfl⟩) (fun r17 S14 H15 locs p_16 hI => ?_)
    obtain ⟨e9, ce, c2, d2, hgc, t2, hab, fq⟩ := p_16
    have h_zo : S14 zo = some (30, .inr (6, [.ref fs, .int z0, .ref on, .ref ot])) := fq zo _ _ h_zo (by omega) (by omega) (by omega) (by omega)
    have h_fs : S14 fs = some (31, .inl ((g 3), 16, .inr (.inr (.inr (.inr (rfs fe 16)))))) := fq fs _ _ h_fs (by omega) (by omega) (by omega) (by omega)
    have h_p : S14 po = some (TP, .inr (1, [.ref pa, .int (nI d)])) := fq po _ _ h_p (by omega) (by omega) (by omega) (by omega)
    have h_pa : S14 pa = some ((TP + 1), .inl ((g 0), 33, .inl (fun j => nI (cp j).val))) := fq pa _ _ h_pa (by omega) (by omega) (by omega) (by omega)
    have h_ia : S14 ia = some (TI, .inl ((g 0), 16, .inl (fun j => nI (IT0 j)))) := fq ia _ _ h_ia (by omega) (by omega) (by omega) (by omega)
    have hfr : ∀ b t e9, S b = some (t, e9) → (t ≠ 30) → (t < 520 ∨ 564 ≤ t) → (t ≠ TI) → S14 b = some (t, e9) := fun b t e9 h9 k0 k1 k2 => by have h8 := hfr b t e9 h9 k0 k1 k2; exact fq b _ _ h8 (by omega) (by omega) (by omega) (by omega)
    have hE := oS_kept hE (S1 := S14) (fun b t9 e9 hb9 h1 h2 => by have h8 : S14 b = some (t9, e9) := fq b _ _ hb9 (by omega) (by omega) (by omega) (by omega); rw [h8, hb9])
    have hed := hgc.2.2.1
    have tce := ol_t hgc.1
    obtain ⟨hSP, hzz⟩ := rt_eq hok hbp hgc
    have hE0 := hE
    obtain ⟨h_k, h_ka⟩ := hE 0 (by omega)
    rcases hab with ⟨er, q1, q2, q3, q4⟩ | ⟨er, q1, q2, q3, q4⟩
    · rw [er]
      refine mp_callv hI (va_runV (As := [.ref ot]) (rest := []) ⟨hx, hb, hml, hown, hg⟩ (c_O_copy l D g S14 _ (fe 0) (fz 0) (520 + 2 * 0) (CF 0) ot ta 562 ce (dg 0) (nI e9) h_k h_ka q1 q2 (by omega) (tCF 0) tce) ⟨(callB_of 1 hg (wd_goodG q_463) rfl rfl rfl (hg _ q_18) (hg _ q_460) (by decide +kernel) ⟨Nat.le_of_ble_eq_true rfl, Nat.le_of_ble_eq_true rfl⟩), hg _ q_461, hg _ q_462⟩ (mp_preV (C := R_O) (T := F_O) hI hK h_k rfl [.ref ot]) rfl rfl hl.1 rfl (lv_room (Nat.le_of_ble_eq_true rfl)) d_Z_find_67 ⟨Nat.le_of_ble_eq_true rfl, Nat.le_of_ble_eq_true rfl⟩) (fun S18 H19 locs p_20 hI => ?_)
      obtain ⟨q_k, q_ka, fq⟩ := p_20
      have h_zo : S18 zo = some (30, .inr (6, [.ref fs, .int z0, .ref on, .ref ot])) := fq zo _ _ h_zo (by omega) (by omega)
      have h_fs : S18 fs = some (31, .inl ((g 3), 16, .inr (.inr (.inr (.inr (rfs fe 16)))))) := fq fs _ _ h_fs (by omega) (by omega)
      have h_p : S18 po = some (TP, .inr (1, [.ref pa, .int (nI d)])) := fq po _ _ h_p (by omega) (by omega)
      have h_pa : S18 pa = some ((TP + 1), .inl ((g 0), 33, .inl (fun j => nI (cp j).val))) := fq pa _ _ h_pa (by omega) (by omega)
      have h_ia : S18 ia = some (TI, .inl ((g 0), 16, .inl (fun j => nI (IT0 j)))) := fq ia _ _ h_ia (by omega) (by omega)
      have q1 : S18 ot = some (562, .inr (1, [.ref ta, .int (nI e9)])) := fq ot _ _ q1 (by omega) (by omega)
      have q2 : S18 ta = some ((562 + 1), .inl ((g 0), 33, .inl (fun j => nI (ce j).val))) := fq ta _ _ q2 (by omega) (by omega)
      have q3 : S18 on = some (560, .inr (1, [.ref na, .int d2])) := fq on _ _ q3 (by omega) (by omega)
      have q4 : S18 na = some ((560 + 1), .inl ((g 0), 33, .inl (fun j => nI (c2 j).val))) := fq na _ _ q4 (by omega) (by omega)
      have hfr : ∀ b t e9, S b = some (t, e9) → (t ≠ 30) → (t < 520 ∨ 564 ≤ t) → (t ≠ TI) → S18 b = some (t, e9) := fun b t e9 h9 k0 k1 k2 => by have h8 := hfr b t e9 h9 k0 k1 k2; exact fq b _ _ h8 (by omega) (by omega)
      have h_k := q_k
      have h_ka := q_ka
      have hE : oS g 520 16 fe fz (va_up dg 0 (nI e9)) (fun ii j => nI ((va_up CF 0 ce) ii j).val) S18 := oS_up hE0 q_k q_ka (fun b t e9 h9 k1 k2 _ _ => fq b t e9 h9 k1 k2)
      have tC1 : ∀ i, trn 33 (va_up CF 0 ce i) := va_upt tCF tce
      refine lv_aload_n hx hb d_Z_find_70 rfl (lv_at hl 0 rfl) ?_
      refine lv_iconst (v := nI 1) hx hb d_Z_find_71 (by decide) ?_
      refine mp_put (C := R_Z) (T := F_Z) (N := 4) (v := .int (nI 1)) (ty := .int) hx hb hg i_Z t_Z t_Z_ok n_Z hown hK.va hI h_zo rfl 1 (by decide) (hg _ q_146) (fun _ h9 => h9) rfl (by decide +kernel) (rfl) rfl (Nat.le_of_ble_eq_true rfl) d_Z_find_72 (fun S22 H23 locs e_24 hI => ?_)
      have h_zo_o := h_zo
      have e_24 : S22 = va_up S18 zo (some (30, .inr (6, [.ref fs, .int (nI 1), .ref on, .ref ot]))) := e_24
      have h_zo_o := h_zo
      have h_fs : S22 fs = some (31, .inl ((g 3), 16, .inr (.inr (.inr (.inr (rfs fe 16)))))) := by rw [e_24]; exact mp_keep h_fs h_zo (by decide)
      have h_p : S22 po = some (TP, .inr (1, [.ref pa, .int (nI d)])) := by rw [e_24]; exact mp_keep h_p h_zo (by omega)
      have h_pa : S22 pa = some ((TP + 1), .inl ((g 0), 33, .inl (fun j => nI (cp j).val))) := by rw [e_24]; exact mp_keep h_pa h_zo (by omega)
      have h_ia : S22 ia = some (TI, .inl ((g 0), 16, .inl (fun j => nI (IT0 j)))) := by rw [e_24]; exact mp_keep h_ia h_zo (by omega)
      have q1 : S22 ot = some (562, .inr (1, [.ref ta, .int (nI e9)])) := by rw [e_24]; exact mp_keep q1 h_zo (by decide)
      have q2 : S22 ta = some ((562 + 1), .inl ((g 0), 33, .inl (fun j => nI (ce j).val))) := by rw [e_24]; exact mp_keep q2 h_zo (by omega)
      have q3 : S22 on = some (560, .inr (1, [.ref na, .int d2])) := by rw [e_24]; exact mp_keep q3 h_zo (by decide)
      have q4 : S22 na = some ((560 + 1), .inl ((g 0), 33, .inl (fun j => nI (c2 j).val))) := by rw [e_24]; exact mp_keep q4 h_zo (by omega)
      have h_k : S22 (fe 0) = some ((520 + 2 * 0), .inr (1, [.ref (fz 0), .int (nI e9)])) := by rw [e_24]; exact mp_keep h_k h_zo (by omega)
      have h_ka : S22 (fz 0) = some ((520 + 2 * 0 + 1), .inl ((g 0), 33, .inl (fun j => nI (ce j).val))) := by rw [e_24]; exact mp_keep h_ka h_zo (by omega)
      have h_zo : S22 zo = some (30, .inr (6, [.ref fs, .int (nI 1), .ref on, .ref ot])) := by rw [e_24]; exact mp_us _ _ _
      have hE := oS_kept hE (S1 := S22) (fun b t9 e9 hb9 h1 h2 => by rw [e_24]; exact mp_un (mp_ne hb9 h_zo_o (by omega)))
      have hfr : ∀ b t e9, S b = some (t, e9) → (t ≠ 30) → (t < 520 ∨ 564 ≤ t) → (t ≠ TI) → S22 b = some (t, e9) := fun b t e9 h9 k0 k1 k2 => by rw [e_24]; exact mp_keep (hfr b t e9 h9 k0 k1 k2) h_zo_o (by omega)
      refine lv_aload_n hx hb d_Z_find_75 rfl (lv_at hl 0 rfl) ?_
      refine mp_get (C := R_Z) (T := F_Z) (N := 4) (v := .ref fs) hx hb hg i_Z hown hK.va hI h_zo rfl 0 (by decide) (hg _ q_145) (fun _ h9 => h9) rfl d_Z_find_76 ?_
      refine lv_iconst (v := nI 0) hx hb d_Z_find_79 (by decide) ?_
      refine mp_aldq (b := fe 0) hx hb hK.va hI 3 h_fs rfl (vp_in_nI (show 0 < 16 by omega) (by omega)) (by rw [nI_clamp (by omega)]; exact rfs_at (by omega)) d_Z_find_80 ?_
      refine mp_getN (C := R_O) (T := F_O) (N := 2) (v := .int (nI e9)) hx hb hg i_O hown hK.va hI h_k rfl 1 (by decide) (hK.use q_139 rfl) (fun _ h9 => h9) rfl d_Z_find_81 ?_
      refine lv_istore_n (lv' := [(3, .int (nI e9)), (0, .ref zo), (1, .ref po), (2, .ref ia)]) hx hb d_Z_find_84 rfl hl (by decide) rfl (fun ls hl => ?_)
      refine lv_iload_n hx hb d_Z_find_85 rfl (lv_at hl 0 rfl) ?_
      refine lv_iconst (v := nI 1) hx hb d_Z_find_86 (by decide) ?_
      refine lv_icmp_ge (tgt := 92) hx hb d_Z_find_87 (by decide) (fun cq1 => ?_) (fun cq1 => ?_)
      · rw [nI_leI (by omega) (by omega)] at cq1
        refine lv_iconst (v := nI 0) hx hb d_Z_find_92 (by decide) ?_
        refine lv_istore (lv' := [(4, .int (nI 0)), (3, .int (nI e9)), (0, .ref zo), (1, .ref po), (2, .ref ia)]) hx hb d_Z_find_93 hl (by decide) rfl (fun ls hl => ?_)
        have hZ1 : ZP 1 (va_up dg 0 (nI e9)) (fun _ => e9) (va_up CF 0 ce) (phF ce) := ⟨fun i hi => by obtain rfl : i = 0 := (by omega); rw [mp_us, mp_us]; exact ⟨rfl, (show 1 ≤ e9 by omega), (show e9 ≤ 16 by omega), hgc.1, hgc.2.1⟩, tC1, fun i hi => by obtain rfl : i = 0 := (by omega); show 1 ≤ e9 ∧ SPl e9 (phF (va_up CF 0 ce 0)); rw [mp_us]; exact ⟨by omega, hSP⟩, fun i j _ hi hj _ _ => by omega, fun a9 => ⟨fun h8 => ⟨0, by decide, by show phF (va_up CF 0 ce 0) a9 = 0; rw [mp_us]; exact h8⟩, fun ⟨i, hi, h8⟩ => by obtain rfl : i = 0 := (by omega); have h7 : phF (va_up CF 0 ce 0) a9 = 0 := h8; rw [mp_us] at h7; exact h7⟩⟩
        refine lp_Z_find2 (B := S) (zo := zo) (fs := fs) (on := on) (na := na) (ot := ot) (ta := ta) (po := po) (pa := pa) (ia := ia) (TP := TP) (TI := TI) (d := d) (fe := fe) (fz := fz) (cp := cp) (e9 := e9) (g9 := (phF ce)) (IT0 := IT0) hx hb hml hg hown hK (Nat.le_of_ble_eq_true rfl) (Nat.le_of_ble_eq_true rfl) (Nat.le_of_ble_eq_true rfl) (Nat.le_of_ble_eq_true rfl) hlab hd (by omega) hSP.1 32003 0 1 (va_up dg 0 (nI e9)) (fun _ => e9) (va_up CF 0 ce) d2 (nI e9) c2 ce S22 H23 _ ls (by omega) hZ1 (Nat.le_refl 1) t2 tce (fun s hs => absurd hs (Nat.not_lt_zero s)) h_zo h_fs q3 q4 q1 q2 h_p h_pa h_ia hE hfr hI (lv_sub hl [0, 1, 4, 3, 2] rfl) (fun k1 dg1 dN1 CF1 dn1 dt1 cn1 ct1 S25 H26 locs ls hZ hk1 tcn1 tct1 hold j_zo j_fs j_on j_ona j_ot j_ota j_p j_pa j_ia hE hfr hI hl => ?_) (fun k1 dg1 dN1 CF1 dn1 dt1 cn1 ct1 S9 H9 locs ls hZ hk1 tcn1 tct1 hmost j_zo j_fs j_on j_ona j_ot j_ota j_p j_pa j_ia hE hfr hI hl => ?_)
        · have hk16 := (FS_le hZ.2.2 hSP.1).1
          obtain ⟨hdis, hrt⟩ := rt_all hZ (FS_one hZ.2.2 (fun s hs r hr x9 y9 h8 h7 => hold s hs r hr x9 y9 h8 h7)) hzz
          refine lv_aload_n hx hb d_Z_find_147 rfl (lv_at hl 4 rfl) ?_
          refine lv_aload_n hx hb d_Z_find_148 rfl (lv_at hl 2 rfl) ?_
          refine mp_calli hI (va_runV (As := [.ref ia]) (rest := []) ⟨hx, hb, hml, hown, hg⟩ (c_Z_writeRoots l D g S25 _ zo fs ia TI k1 (.ref on) (.ref ot) fe fz dg1 CF1 IT0 j_zo j_fs j_ia hE (by omega) (by omega) hdis) ⟨(callB_of 1 hg (wd_goodG q_485) rfl rfl rfl (hg _ q_17) (hg _ q_482) (by decide +kernel) ⟨Nat.le_of_ble_eq_true rfl, Nat.le_of_ble_eq_true rfl⟩), hg _ q_484, hg _ qs_15⟩ (mp_preV (C := R_Z) (T := F_Z) hI hK j_zo rfl [.ref ia]) rfl rfl hl.1 rfl (lv_room (Nat.le_of_ble_eq_true rfl)) d_Z_find_149 ⟨Nat.le_of_ble_eq_true rfl, Nat.le_of_ble_eq_true rfl⟩) (fun r30 S27 H28 locs p_29 hI => ?_)
          obtain ⟨IT, er9, w1, w2, w3, q_ia, fq⟩ := p_29
          have er9 : r30 = nI k1 := er9
          subst er9
          have j_zo : S27 zo = some (30, .inr (6, [.ref fs, .int (nI k1), .ref on, .ref ot])) := fq zo _ _ j_zo (by omega)
          have j_fs : S27 fs = some (31, .inl ((g 3), 16, .inr (.inr (.inr (.inr (rfs fe 16)))))) := fq fs _ _ j_fs (by omega)
          have j_on : S27 on = some (560, .inr (1, [.ref na, .int dn1])) := fq on _ _ j_on (by omega)
          have j_ona : S27 na = some ((560 + 1), .inl ((g 0), 33, .inl (fun j => nI (cn1 j).val))) := fq na _ _ j_ona (by omega)
          have j_ot : S27 ot = some (562, .inr (1, [.ref ta, .int dt1])) := fq ot _ _ j_ot (by omega)
          have j_ota : S27 ta = some ((562 + 1), .inl ((g 0), 33, .inl (fun j => nI (ct1 j).val))) := fq ta _ _ j_ota (by omega)
          have j_p : S27 po = some (TP, .inr (1, [.ref pa, .int (nI d)])) := fq po _ _ j_p (by omega)
          have j_pa : S27 pa = some ((TP + 1), .inl ((g 0), 33, .inl (fun j => nI (cp j).val))) := fq pa _ _ j_pa (by omega)
          have hfr : ∀ b t e9, S b = some (t, e9) → (t ≠ 30) → (t < 520 ∨ 564 ≤ t) → (t ≠ TI) → S27 b = some (t, e9) := fun b t e9 h9 k0 k1 k2 => by have h8 := hfr b t e9 h9 k0 k1 k2; exact fq b _ _ h8 (by omega)
          have hE := oS_kept hE (S1 := S27) (fun b t9 e9 hb9 h1 h2 => by have h8 : S27 b = some (t9, e9) := fq b _ _ hb9 (by omega); rw [h8, hb9])
          refine mp_iret hx hb hr hlocks hI (Nat.le_of_ble_eq_true rfl) (Nat.le_of_ble_eq_true rfl) ?_ d_Z_find_152
          exact ⟨k1, IT, _, dg1, CF1, dn1, dt1, cn1, ct1, rfl, by omega, hrt IT w1 w2, hZ.2.1, tcn1, tct1, j_zo, j_on, j_ona, j_ot, j_ota, q_ia, hE, hfr⟩
        · have hk16 := (FS_le hZ.2.2 hSP.1).1
          obtain ⟨hdis, hrt⟩ := rt_all hZ (FS_all hZ.2.2 hSP.1 hmost) hzz
          refine lv_aload_n hx hb d_Z_find_147 rfl (lv_at hl 3 rfl) ?_
          refine lv_aload_n hx hb d_Z_find_148 rfl (lv_at hl 1 rfl) ?_
          refine mp_calli hI (va_runV (As := [.ref ia]) (rest := []) ⟨hx, hb, hml, hown, hg⟩ (c_Z_writeRoots l D g S9 _ zo fs ia TI k1 (.ref on) (.ref ot) fe fz dg1 CF1 IT0 j_zo j_fs j_ia hE (by omega) (by omega) hdis) ⟨(callB_of 1 hg (wd_goodG q_485) rfl rfl rfl (hg _ q_17) (hg _ q_482) (by decide +kernel) ⟨Nat.le_of_ble_eq_true rfl, Nat.le_of_ble_eq_true rfl⟩), hg _ q_484, hg _ qs_15⟩ (mp_preV (C := R_Z) (T := F_Z) hI hK j_zo rfl [.ref ia]) rfl rfl hl.1 rfl (lv_room (Nat.le_of_ble_eq_true rfl)) d_Z_find_149 ⟨Nat.le_of_ble_eq_true rfl, Nat.le_of_ble_eq_true rfl⟩) (fun r34 S31 H32 locs p_33 hI => ?_)
          obtain ⟨IT, er9, w1, w2, w3, q_ia, fq⟩ := p_33
          have er9 : r34 = nI k1 := er9
          subst er9
          have j_zo : S31 zo = some (30, .inr (6, [.ref fs, .int (nI k1), .ref on, .ref ot])) := fq zo _ _ j_zo (by omega)
          have j_fs : S31 fs = some (31, .inl ((g 3), 16, .inr (.inr (.inr (.inr (rfs fe 16)))))) := fq fs _ _ j_fs (by omega)
          have j_on : S31 on = some (560, .inr (1, [.ref na, .int dn1])) := fq on _ _ j_on (by omega)
          have j_ona : S31 na = some ((560 + 1), .inl ((g 0), 33, .inl (fun j => nI (cn1 j).val))) := fq na _ _ j_ona (by omega)
          have j_ot : S31 ot = some (562, .inr (1, [.ref ta, .int dt1])) := fq ot _ _ j_ot (by omega)
          have j_ota : S31 ta = some ((562 + 1), .inl ((g 0), 33, .inl (fun j => nI (ct1 j).val))) := fq ta _ _ j_ota (by omega)
          have j_p : S31 po = some (TP, .inr (1, [.ref pa, .int (nI d)])) := fq po _ _ j_p (by omega)
          have j_pa : S31 pa = some ((TP + 1), .inl ((g 0), 33, .inl (fun j => nI (cp j).val))) := fq pa _ _ j_pa (by omega)
          have hfr : ∀ b t e9, S b = some (t, e9) → (t ≠ 30) → (t < 520 ∨ 564 ≤ t) → (t ≠ TI) → S31 b = some (t, e9) := fun b t e9 h9 k0 k1 k2 => by have h8 := hfr b t e9 h9 k0 k1 k2; exact fq b _ _ h8 (by omega)
          have hE := oS_kept hE (S1 := S31) (fun b t9 e9 hb9 h1 h2 => by have h8 : S31 b = some (t9, e9) := fq b _ _ hb9 (by omega); rw [h8, hb9])
          refine mp_iret hx hb hr hlocks hI (Nat.le_of_ble_eq_true rfl) (Nat.le_of_ble_eq_true rfl) ?_ d_Z_find_152
          exact ⟨k1, IT, _, dg1, CF1, dn1, dt1, cn1, ct1, rfl, by omega, hrt IT w1 w2, hZ.2.1, tcn1, tct1, j_zo, j_on, j_ona, j_ot, j_ota, q_ia, hE, hfr⟩
      · rw [nI_leI (by omega) (by omega)] at cq1
        refine lv_iconst (v := nI 0) hx hb d_Z_find_90 (by decide) ?_
        refine mp_iret hx hb hr hlocks hI (Nat.le_of_ble_eq_true rfl) (Nat.le_of_ble_eq_true rfl) ?_ d_Z_find_91
        exact ⟨0, IT0, _, _, _, d2, (nI e9), c2, ce, rfl, by decide, rt_0 (c := ce) (by have h8 := hgc.1; rw [show e9 = 0 by omega] at h8; exact h8) (by have h8 := hgc.2.1; rw [show e9 = 0 by omega] at h8; exact h8) (fun a9 h8 => (hzz a9).mpr h8) IT0, tC1, t2, tce, h_zo, q3, q4, q1, q2, h_ia, hE, hfr⟩
    · rw [er]
      refine mp_callv hI (va_runV (As := [.ref on]) (rest := []) ⟨hx, hb, hml, hown, hg⟩ (c_O_copy l D g S14 _ (fe 0) (fz 0) (520 + 2 * 0) (CF 0) on na 560 ce (dg 0) (nI e9) h_k h_ka q1 q2 (by omega) (tCF 0) tce) ⟨(callB_of 1 hg (wd_goodG q_463) rfl rfl rfl (hg _ q_18) (hg _ q_460) (by decide +kernel) ⟨Nat.le_of_ble_eq_true rfl, Nat.le_of_ble_eq_true rfl⟩), hg _ q_461, hg _ q_462⟩ (mp_preV (C := R_O) (T := F_O) hI hK h_k rfl [.ref on]) rfl rfl hl.1 rfl (lv_room (Nat.le_of_ble_eq_true rfl)) d_Z_find_67 ⟨Nat.le_of_ble_eq_true rfl, Nat.le_of_ble_eq_true rfl⟩) (fun S35 H36 locs p_37 hI => ?_)
      obtain ⟨q_k, q_ka, fq⟩ := p_37
      have h_zo : S35 zo = some (30, .inr (6, [.ref fs, .int z0, .ref on, .ref ot])) := fq zo _ _ h_zo (by omega) (by omega)
      have h_fs : S35 fs = some (31, .inl ((g 3), 16, .inr (.inr (.inr (.inr (rfs fe 16)))))) := fq fs _ _ h_fs (by omega) (by omega)
      have h_p : S35 po = some (TP, .inr (1, [.ref pa, .int (nI d)])) := fq po _ _ h_p (by omega) (by omega)
      have h_pa : S35 pa = some ((TP + 1), .inl ((g 0), 33, .inl (fun j => nI (cp j).val))) := fq pa _ _ h_pa (by omega) (by omega)
      have h_ia : S35 ia = some (TI, .inl ((g 0), 16, .inl (fun j => nI (IT0 j)))) := fq ia _ _ h_ia (by omega) (by omega)
      have q1 : S35 on = some (560, .inr (1, [.ref na, .int (nI e9)])) := fq on _ _ q1 (by omega) (by omega)
      have q2 : S35 na = some ((560 + 1), .inl ((g 0), 33, .inl (fun j => nI (ce j).val))) := fq na _ _ q2 (by omega) (by omega)
      have q3 : S35 ot = some (562, .inr (1, [.ref ta, .int d2])) := fq ot _ _ q3 (by omega) (by omega)
      have q4 : S35 ta = some ((562 + 1), .inl ((g 0), 33, .inl (fun j => nI (c2 j).val))) := fq ta _ _ q4 (by omega) (by omega)
      have hfr : ∀ b t e9, S b = some (t, e9) → (t ≠ 30) → (t < 520 ∨ 564 ≤ t) → (t ≠ TI) → S35 b = some (t, e9) := fun b t e9 h9 k0 k1 k2 => by have h8 := hfr b t e9 h9 k0 k1 k2; exact fq b _ _ h8 (by omega) (by omega)
      have h_k := q_k
      have h_ka := q_ka
      have hE : oS g 520 16 fe fz (va_up dg 0 (nI e9)) (fun ii j => nI ((va_up CF 0 ce) ii j).val) S35 := oS_up hE0 q_k q_ka (fun b t e9 h9 k1 k2 _ _ => fq b t e9 h9 k1 k2)
      have tC1 : ∀ i, trn 33 (va_up CF 0 ce i) := va_upt tCF tce
      refine lv_aload_n hx hb d_Z_find_70 rfl (lv_at hl 0 rfl) ?_
      refine lv_iconst (v := nI 1) hx hb d_Z_find_71 (by decide) ?_
      refine mp_put (C := R_Z) (T := F_Z) (N := 4) (v := .int (nI 1)) (ty := .int) hx hb hg i_Z t_Z t_Z_ok n_Z hown hK.va hI h_zo rfl 1 (by decide) (hg _ q_146) (fun _ h9 => h9) rfl (by decide +kernel) (rfl) rfl (Nat.le_of_ble_eq_true rfl) d_Z_find_72 (fun S39 H40 locs e_41 hI => ?_)
      have h_zo_o := h_zo
      have e_41 : S39 = va_up S35 zo (some (30, .inr (6, [.ref fs, .int (nI 1), .ref on, .ref ot]))) := e_41
      have h_zo_o := h_zo
      have h_fs : S39 fs = some (31, .inl ((g 3), 16, .inr (.inr (.inr (.inr (rfs fe 16)))))) := by rw [e_41]; exact mp_keep h_fs h_zo (by decide)
      have h_p : S39 po = some (TP, .inr (1, [.ref pa, .int (nI d)])) := by rw [e_41]; exact mp_keep h_p h_zo (by omega)
      have h_pa : S39 pa = some ((TP + 1), .inl ((g 0), 33, .inl (fun j => nI (cp j).val))) := by rw [e_41]; exact mp_keep h_pa h_zo (by omega)
      have h_ia : S39 ia = some (TI, .inl ((g 0), 16, .inl (fun j => nI (IT0 j)))) := by rw [e_41]; exact mp_keep h_ia h_zo (by omega)
      have q1 : S39 on = some (560, .inr (1, [.ref na, .int (nI e9)])) := by rw [e_41]; exact mp_keep q1 h_zo (by decide)
      have q2 : S39 na = some ((560 + 1), .inl ((g 0), 33, .inl (fun j => nI (ce j).val))) := by rw [e_41]; exact mp_keep q2 h_zo (by omega)
      have q3 : S39 ot = some (562, .inr (1, [.ref ta, .int d2])) := by rw [e_41]; exact mp_keep q3 h_zo (by decide)
      have q4 : S39 ta = some ((562 + 1), .inl ((g 0), 33, .inl (fun j => nI (c2 j).val))) := by rw [e_41]; exact mp_keep q4 h_zo (by omega)
      have h_k : S39 (fe 0) = some ((520 + 2 * 0), .inr (1, [.ref (fz 0), .int (nI e9)])) := by rw [e_41]; exact mp_keep h_k h_zo (by omega)
      have h_ka : S39 (fz 0) = some ((520 + 2 * 0 + 1), .inl ((g 0), 33, .inl (fun j => nI (ce j).val))) := by rw [e_41]; exact mp_keep h_ka h_zo (by omega)
      have h_zo : S39 zo = some (30, .inr (6, [.ref fs, .int (nI 1), .ref on, .ref ot])) := by rw [e_41]; exact mp_us _ _ _
      have hE := oS_kept hE (S1 := S39) (fun b t9 e9 hb9 h1 h2 => by rw [e_41]; exact mp_un (mp_ne hb9 h_zo_o (by omega)))
      have hfr : ∀ b t e9, S b = some (t, e9) → (t ≠ 30) → (t < 520 ∨ 564 ≤ t) → (t ≠ TI) → S39 b = some (t, e9) := fun b t e9 h9 k0 k1 k2 => by rw [e_41]; exact mp_keep (hfr b t e9 h9 k0 k1 k2) h_zo_o (by omega)
      refine lv_aload_n hx hb d_Z_find_75 rfl (lv_at hl 0 rfl) ?_
      refine mp_get (C := R_Z) (T := F_Z) (N := 4) (v := .ref fs) hx hb hg i_Z hown hK.va hI h_zo rfl 0 (by decide) (hg _ q_145) (fun _ h9 => h9) rfl d_Z_find_76 ?_
      refine lv_iconst (v := nI 0) hx hb d_Z_find_79 (by decide) ?_
      refine mp_aldq (b := fe 0) hx hb hK.va hI 3 h_fs rfl (vp_in_nI (show 0 < 16 by omega) (by omega)) (by rw [nI_clamp (by omega)]; exact rfs_at (by omega)) d_Z_find_80 ?_
      refine mp_getN (C := R_O) (T := F_O) (N := 2) (v := .int (nI e9)) hx hb hg i_O hown hK.va hI h_k rfl 1 (by decide) (hK.use q_139 rfl) (fun _ h9 => h9) rfl d_Z_find_81 ?_
      refine lv_istore_n (lv' := [(3, .int (nI e9)), (0, .ref zo), (1, .ref po), (2, .ref ia)]) hx hb d_Z_find_84 rfl hl (by decide) rfl (fun ls hl => ?_)
      refine lv_iload_n hx hb d_Z_find_85 rfl (lv_at hl 0 rfl) ?_
      refine lv_iconst (v := nI 1) hx hb d_Z_find_86 (by decide) ?_
      refine lv_icmp_ge (tgt := 92) hx hb d_Z_find_87 (by decide) (fun cq1 => ?_) (fun cq1 => ?_)
      · rw [nI_leI (by omega) (by omega)] at cq1
        refine lv_iconst (v := nI 0) hx hb d_Z_find_92 (by decide) ?_
        refine lv_istore (lv' := [(4, .int (nI 0)), (3, .int (nI e9)), (0, .ref zo), (1, .ref po), (2, .ref ia)]) hx hb d_Z_find_93 hl (by decide) rfl (fun ls hl => ?_)
        have hZ1 : ZP 1 (va_up dg 0 (nI e9)) (fun _ => e9) (va_up CF 0 ce) (phF ce) := ⟨fun i hi => by obtain rfl : i = 0 := (by omega); rw [mp_us, mp_us]; exact ⟨rfl, (show 1 ≤ e9 by omega), (show e9 ≤ 16 by omega), hgc.1, hgc.2.1⟩, tC1, fun i hi => by obtain rfl : i = 0 := (by omega); show 1 ≤ e9 ∧ SPl e9 (phF (va_up CF 0 ce 0)); rw [mp_us]; exact ⟨by omega, hSP⟩, fun i j _ hi hj _ _ => by omega, fun a9 => ⟨fun h8 => ⟨0, by decide, by show phF (va_up CF 0 ce 0) a9 = 0; rw [mp_us]; exact h8⟩, fun ⟨i, hi, h8⟩ => by obtain rfl : i = 0 := (by omega); have h7 : phF (va_up CF 0 ce 0) a9 = 0 := h8; rw [mp_us] at h7; exact h7⟩⟩
        refine lp_Z_find2 (B := S) (zo := zo) (fs := fs) (on := on) (na := na) (ot := ot) (ta := ta) (po := po) (pa := pa) (ia := ia) (TP := TP) (TI := TI) (d := d) (fe := fe) (fz := fz) (cp := cp) (e9 := e9) (g9 := (phF ce)) (IT0 := IT0) hx hb hml hg hown hK (Nat.le_of_ble_eq_true rfl) (Nat.le_of_ble_eq_true rfl) (Nat.le_of_ble_eq_true rfl) (Nat.le_of_ble_eq_true rfl) hlab hd (by omega) hSP.1 32003 0 1 (va_up dg 0 (nI e9)) (fun _ => e9) (va_up CF 0 ce) (nI e9) d2 ce c2 S39 H40 _ ls (by omega) hZ1 (Nat.le_refl 1) tce t2 (fun s hs => absurd hs (Nat.not_lt_zero s)) h_zo h_fs q1 q2 q3 q4 h_p h_pa h_ia hE hfr hI (lv_sub hl [0, 1, 4, 3, 2] rfl) (fun k1 dg1 dN1 CF1 dn1 dt1 cn1 ct1 S42 H43 locs ls hZ hk1 tcn1 tct1 hold j_zo j_fs j_on j_ona j_ot j_ota j_p j_pa j_ia hE hfr hI hl => ?_) (fun k1 dg1 dN1 CF1 dn1 dt1 cn1 ct1 S9 H9 locs ls hZ hk1 tcn1 tct1 hmost j_zo j_fs j_on j_ona j_ot j_ota j_p j_pa j_ia hE hfr hI hl => ?_)
        · have hk16 := (FS_le hZ.2.2 hSP.1).1
          obtain ⟨hdis, hrt⟩ := rt_all hZ (FS_one hZ.2.2 (fun s hs r hr x9 y9 h8 h7 => hold s hs r hr x9 y9 h8 h7)) hzz
          refine lv_aload_n hx hb d_Z_find_147 rfl (lv_at hl 4 rfl) ?_
          refine lv_aload_n hx hb d_Z_find_148 rfl (lv_at hl 2 rfl) ?_
          refine mp_calli hI (va_runV (As := [.ref ia]) (rest := []) ⟨hx, hb, hml, hown, hg⟩ (c_Z_writeRoots l D g S42 _ zo fs ia TI k1 (.ref on) (.ref ot) fe fz dg1 CF1 IT0 j_zo j_fs j_ia hE (by omega) (by omega) hdis) ⟨(callB_of 1 hg (wd_goodG q_485) rfl rfl rfl (hg _ q_17) (hg _ q_482) (by decide +kernel) ⟨Nat.le_of_ble_eq_true rfl, Nat.le_of_ble_eq_true rfl⟩), hg _ q_484, hg _ qs_15⟩ (mp_preV (C := R_Z) (T := F_Z) hI hK j_zo rfl [.ref ia]) rfl rfl hl.1 rfl (lv_room (Nat.le_of_ble_eq_true rfl)) d_Z_find_149 ⟨Nat.le_of_ble_eq_true rfl, Nat.le_of_ble_eq_true rfl⟩) (fun r47 S44 H45 locs p_46 hI => ?_)
          obtain ⟨IT, er9, w1, w2, w3, q_ia, fq⟩ := p_46
          have er9 : r47 = nI k1 := er9
          subst er9
          have j_zo : S44 zo = some (30, .inr (6, [.ref fs, .int (nI k1), .ref on, .ref ot])) := fq zo _ _ j_zo (by omega)
          have j_fs : S44 fs = some (31, .inl ((g 3), 16, .inr (.inr (.inr (.inr (rfs fe 16)))))) := fq fs _ _ j_fs (by omega)
          have j_on : S44 on = some (560, .inr (1, [.ref na, .int dn1])) := fq on _ _ j_on (by omega)
          have j_ona : S44 na = some ((560 + 1), .inl ((g 0), 33, .inl (fun j => nI (cn1 j).val))) := fq na _ _ j_ona (by omega)
          have j_ot : S44 ot = some (562, .inr (1, [.ref ta, .int dt1])) := fq ot _ _ j_ot (by omega)
          have j_ota : S44 ta = some ((562 + 1), .inl ((g 0), 33, .inl (fun j => nI (ct1 j).val))) := fq ta _ _ j_ota (by omega)
          have j_p : S44 po = some (TP, .inr (1, [.ref pa, .int (nI d)])) := fq po _ _ j_p (by omega)
          have j_pa : S44 pa = some ((TP + 1), .inl ((g 0), 33, .inl (fun j => nI (cp j).val))) := fq pa _ _ j_pa (by omega)
          have hfr : ∀ b t e9, S b = some (t, e9) → (t ≠ 30) → (t < 520 ∨ 564 ≤ t) → (t ≠ TI) → S44 b = some (t, e9) := fun b t e9 h9 k0 k1 k2 => by have h8 := hfr b t e9 h9 k0 k1 k2; exact fq b _ _ h8 (by omega)
          have hE := oS_kept hE (S1 := S44) (fun b t9 e9 hb9 h1 h2 => by have h8 : S44 b = some (t9, e9) := fq b _ _ hb9 (by omega); rw [h8, hb9])
          refine mp_iret hx hb hr hlocks hI (Nat.le_of_ble_eq_true rfl) (Nat.le_of_ble_eq_true rfl) ?_ d_Z_find_152
          exact ⟨k1, IT, _, dg1, CF1, dn1, dt1, cn1, ct1, rfl, by omega, hrt IT w1 w2, hZ.2.1, tcn1, tct1, j_zo, j_on, j_ona, j_ot, j_ota, q_ia, hE, hfr⟩
        · have hk16 := (FS_le hZ.2.2 hSP.1).1
          obtain ⟨hdis, hrt⟩ := rt_all hZ (FS_all hZ.2.2 hSP.1 hmost) hzz
          refine lv_aload_n hx hb d_Z_find_147 rfl (lv_at hl 3 rfl) ?_
          refine lv_aload_n hx hb d_Z_find_148 rfl (lv_at hl 1 rfl) ?_
          refine mp_calli hI (va_runV (As := [.ref ia]) (rest := []) ⟨hx, hb, hml, hown, hg⟩ (c_Z_writeRoots l D g S9 _ zo fs ia TI k1 (.ref on) (.ref ot) fe fz dg1 CF1 IT0 j_zo j_fs j_ia hE (by omega) (by omega) hdis) ⟨(callB_of 1 hg (wd_goodG q_485) rfl rfl rfl (hg _ q_17) (hg _ q_482) (by decide +kernel) ⟨Nat.le_of_ble_eq_true rfl, Nat.le_of_ble_eq_true rfl⟩), hg _ q_484, hg _ qs_15⟩ (mp_preV (C := R_Z) (T := F_Z) hI hK j_zo rfl [.ref ia]) rfl rfl hl.1 rfl (lv_room (Nat.le_of_ble_eq_true rfl)) d_Z_find_149 ⟨Nat.le_of_ble_eq_true rfl, Nat.le_of_ble_eq_true rfl⟩) (fun r51 S48 H49 locs p_50 hI => ?_)
          obtain ⟨IT, er9, w1, w2, w3, q_ia, fq⟩ := p_50
          have er9 : r51 = nI k1 := er9
          subst er9
          have j_zo : S48 zo = some (30, .inr (6, [.ref fs, .int (nI k1), .ref on, .ref ot])) := fq zo _ _ j_zo (by omega)
          have j_fs : S48 fs = some (31, .inl ((g 3), 16, .inr (.inr (.inr (.inr (rfs fe 16)))))) := fq fs _ _ j_fs (by omega)
          have j_on : S48 on = some (560, .inr (1, [.ref na, .int dn1])) := fq on _ _ j_on (by omega)
          have j_ona : S48 na = some ((560 + 1), .inl ((g 0), 33, .inl (fun j => nI (cn1 j).val))) := fq na _ _ j_ona (by omega)
          have j_ot : S48 ot = some (562, .inr (1, [.ref ta, .int dt1])) := fq ot _ _ j_ot (by omega)
          have j_ota : S48 ta = some ((562 + 1), .inl ((g 0), 33, .inl (fun j => nI (ct1 j).val))) := fq ta _ _ j_ota (by omega)
          have j_p : S48 po = some (TP, .inr (1, [.ref pa, .int (nI d)])) := fq po _ _ j_p (by omega)
          have j_pa : S48 pa = some ((TP + 1), .inl ((g 0), 33, .inl (fun j => nI (cp j).val))) := fq pa _ _ j_pa (by omega)
          have hfr : ∀ b t e9, S b = some (t, e9) → (t ≠ 30) → (t < 520 ∨ 564 ≤ t) → (t ≠ TI) → S48 b = some (t, e9) := fun b t e9 h9 k0 k1 k2 => by have h8 := hfr b t e9 h9 k0 k1 k2; exact fq b _ _ h8 (by omega)
          have hE := oS_kept hE (S1 := S48) (fun b t9 e9 hb9 h1 h2 => by have h8 : S48 b = some (t9, e9) := fq b _ _ hb9 (by omega); rw [h8, hb9])
          refine mp_iret hx hb hr hlocks hI (Nat.le_of_ble_eq_true rfl) (Nat.le_of_ble_eq_true rfl) ?_ d_Z_find_152
          exact ⟨k1, IT, _, dg1, CF1, dn1, dt1, cn1, ct1, rfl, by omega, hrt IT w1 w2, hZ.2.1, tcn1, tct1, j_zo, j_on, j_ona, j_ot, j_ota, q_ia, hE, hfr⟩
      · rw [nI_leI (by omega) (by omega)] at cq1
        refine lv_iconst (v := nI 0) hx hb d_Z_find_90 (by decide) ?_
        refine mp_iret hx hb hr hlocks hI (Nat.le_of_ble_eq_true rfl) (Nat.le_of_ble_eq_true rfl) ?_ d_Z_find_91
        exact ⟨0, IT0, _, _, _, (nI e9), d2, ce, c2, rfl, by decide, rt_0 (c := ce) (by have h8 := hgc.1; rw [show e9 = 0 by omega] at h8; exact h8) (by have h8 := hgc.2.1; rw [show e9 = 0 by omega] at h8; exact h8) (fun a9 h8 => (hzz a9).mpr h8) IT0, tC1, tce, t2, h_zo, q1, q2, q3, q4, h_ia, hE, hfr⟩
