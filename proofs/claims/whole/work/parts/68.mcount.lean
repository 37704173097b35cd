/-- a square field of numbers, written row by row -/
def grI (o s : Nat) (M : Nat → Nat → fF) (r i : Nat) (SQ : Nat → fF) : Prop := ∀ a b, prD r i a b → b < s → SQ (16 * (o + a) + b) = M a b
theorem grI_0 (o s : Nat) (M : Nat → Nat → fF) (SQ : Nat → fF) : grI o s M 0 0 SQ := fun a b h => absurd h (fun q => q.elim (Nat.not_lt_zero a) (fun w => Nat.not_lt_zero b w.2))
theorem grI_up {o s : Nat} {M : Nat → Nat → fF} {r i q : Nat} {SQ : Nat → fF} (h : grI o s M r i SQ) (hs : s ≤ 16) (hi : i < s) (hq : q = 16 * (o + r) + i) : grI o s M r (i + 1) (va_up SQ q (M r i)) := by
  intro a b h1 h2
  by_cases e : a = r ∧ b = i
  · rw [e.1, e.2, hq, mp_us]
  · rw [mp_un (by omega)]
    refine h a b ?_ h2
    rcases h1 with h1 | ⟨h1, h5⟩
    · exact Or.inl h1
    · exact Or.inr ⟨h1, by omega⟩
theorem grI_next {o s : Nat} {M : Nat → Nat → fF} {r : Nat} {SQ : Nat → fF} (h : grI o s M r s SQ) : grI o s M (r + 1) 0 SQ := by
  intro a b h1 h2
  refine h a b ?_ h2
  rcases h1 with h1 | ⟨h1, h5⟩
  · by_cases q : a = r
    · exact Or.inr ⟨q, h2⟩
    · exact Or.inl (by omega)
  · exact absurd h5 (Nat.not_lt_zero b)
theorem grI_at {o s : Nat} {M : Nat → Nat → fF} {SQ : Nat → fF} (h : grI o s M s 0 SQ) {a b : Nat} (ha : a < s) (hb : b < s) : SQ (16 * (o + a) + b) = M a b := h a b (Or.inl ha) hb
theorem grI_cg {o s : Nat} {M M' : Nat → Nat → fF} {r i : Nat} {SQ : Nat → fF} (h : grI o s M r i SQ) (hr : r ≤ s) (hri : r = s → i = 0) (hM : ∀ a b, a < s → b < s → M a b = M' a b) : grI o s M' r i SQ := fun a b h1 h2 => by
  rw [h a b h1 h2]
  refine hM a b ?_ h2
  rcases h1 with h1 | ⟨h1, h5⟩
  · omega
  · rcases Nat.lt_or_ge r s with q | q
    · omega
    · have := hri (by omega); omega
def tbM (TB : Nat → fF) (l : Nat) : Nat → Nat → fF := fun i k => TB (256 * l + 16 * i + k)
theorem sqm_cg {s : Nat} {M N : Nat → Nat → fF} (h : ∀ a b, a < s → b < s → M a b = N a b) : ∀ (n : Nat) {a b : Nat}, a < s → b < s → sqm s M n a b = sqm s N n a b
  | 0, a, b, ha, hb => h a b ha hb
  | n + 1, a, b, ha, hb => by
    show sm s _ = sm s _
    exact sm_cg (fun k hk => by rw [sqm_cg h n ha hk, sqm_cg h n hk hb])
theorem rkI_cg {s many c r : Nat} {R R' : Nat → Nat → fF} {pv : Nat → Nat} {R0 : Nat → Nat → fF} (h : rkI s many c r R pv R0) (hc : c ≤ s) (e : ∀ i, i < many → ∀ j, j < s → R' i j = R i j) : rkI s many c r R' pv R0 := by
  obtain ⟨h1, h2, h3, h4, h5⟩ := h
  refine ⟨h1, h2, fun a ha => ?_, fun i hi hm j hj => by rw [e i hm j (by omega)]; exact h4 i hi hm j hj, fun v => ?_⟩
  · obtain ⟨k1, k2, k3⟩ := h3 a ha
    exact ⟨k1, by rw [e a (by omega) _ (by omega)]; exact k2, fun i hi hm => by rw [e i hm _ (by omega)]; exact k3 i hi hm⟩
  · rw [← h5 v]
    constructor
    · intro q i hi; rw [← q i hi]; exact sm_cg (fun k hk => by rw [e i hi k hk])
    · intro q i hi; rw [← q i hi]; exact sm_cg (fun k hk => by rw [e i hi k hk])
/-- the search for a row that is not 0 there -/
def fnI (c K mny : Nat) (RW : Nat → fF) (v : Int32) : Prop := (v = -1 ∧ ∀ a, K ≤ a → a < mny → RW (16 * a + c) = 0) ∨ ∃ f, K ≤ f ∧ f < mny ∧ v = nI f ∧ RW (16 * f + c) ≠ 0
theorem fnI_z {c K mny : Nat} {RW : Nat → fF} {v : Int32} (h : fnI c (K + 1) mny RW v) (hz : RW (16 * K + c) = 0) : fnI c K mny RW v := by
  rcases h with ⟨h1, h2⟩ | ⟨f, h1, h2⟩
  · exact Or.inl ⟨h1, fun a ha hm => by by_cases e : a = K; exact e ▸ hz; exact h2 a (by omega) hm⟩
  · exact Or.inr ⟨f, by omega, h2⟩
def swI (r f i : Nat) (RW RV : Nat → fF) : Prop := ∀ a b, b < 16 → RV (16 * a + b) = if b < i then swp (fun x y => RW (16 * x + y)) r f a b else RW (16 * a + b)
theorem swI_up {r f i : Nat} {RW RV : Nat → fF} (h : swI r f i RW RV) (hi : i < 16) : swI r f (i + 1) RW (va_up (va_up RV (16 * r + i) (RV (16 * f + i))) (16 * f + i) (RV (16 * r + i))) := by
  have hr : RV (16 * r + i) = RW (16 * r + i) := by rw [h r i hi, if_neg (by omega)]
  have hf : RV (16 * f + i) = RW (16 * f + i) := by rw [h f i hi, if_neg (by omega)]
  intro a b hb
  by_cases e : b = i
  · subst e
    rw [if_pos (by omega)]
    unfold swp
    by_cases e1 : a = f
    · rw [e1, mp_us, hr]
      by_cases e2 : f = r
      · rw [if_pos e2, e2]
      · rw [if_neg e2, if_pos rfl]
    · rw [mp_un (by omega)]
      by_cases e2 : a = r
      · rw [e2, mp_us, if_pos rfl, hf]
      · rw [mp_un (by omega), if_neg e2, if_neg e1, h a b hb, if_neg (by omega)]
  · rw [mp_un (by omega), mp_un (by omega), h a b hb]
    by_cases e1 : b < i
    · rw [if_pos e1, if_pos (by omega)]
    · rw [if_neg e1, if_neg (by omega)]
noncomputable def elI (s r c i : Nat) (RW RV : Nat → fF) : Prop := ∀ a b, b < s → RV (16 * a + b) = if r < a ∧ a < i then RW (16 * a + b) - RW (16 * a + c) * iv (RW (16 * r + c)) * RW (16 * r + b) else RW (16 * a + b)
theorem elI_up {s r c i : Nat} {RW RV : Nat → fF} (h : elI s r c i RW RV) (hs : s ≤ 16) (hc : c < s) (hi : r < i) : elI s r c (i + 1) RW (trI (16 * i) (16 * r) (RV (16 * i + c) * iv (RV (16 * r + c))) RV s) := by
  have hr : ∀ b, b < s → RV (16 * r + b) = RW (16 * r + b) := fun b hb => by rw [h r b hb, if_neg (by omega)]
  have hI : ∀ b, b < s → RV (16 * i + b) = RW (16 * i + b) := fun b hb => by rw [h i b hb, if_neg (by omega)]
  intro a b hb
  by_cases e : a = i
  · subst e
    unfold trI
    rw [if_pos (by omega), if_pos (by omega), show 16 * a + b - 16 * a = b by omega, hI b hb, hI c hc, hr b hb, hr c hc]
  · rw [trI_out (by omega), h a b hb]
    by_cases e1 : r < a ∧ a < i
    · rw [if_pos e1, if_pos (by omega)]
    · rw [if_neg e1, if_neg (by omega)]
theorem rk_go {s mny c r f : Nat} {RW R2 R3 : Nat → fF} {pv : Nat → Nat} {R0 : Nat → Nat → fF} (h : rkI s mny c r (fun a b => RW (16 * a + b)) pv R0) (hs : s ≤ 16) (hc : c < s) (hf : r ≤ f) (hm : f < mny) (hz : RW (16 * f + c) ≠ 0) (h2 : swI r f s RW R2) (h3 : elI s r c mny R2 R3) : rkI s mny (c + 1) (r + 1) (fun a b => R3 (16 * a + b)) (fun a => if a = r then c else pv a) R0 := by
  refine rkI_cg (rk_yes h hf hm hz) (by omega) (fun i hi j hj => ?_)
  have e2 : ∀ a b, b < s → R2 (16 * a + b) = swp (fun x y => RW (16 * x + y)) r f a b := fun a b hb => by rw [h2 a b (by omega), if_pos hb]
  show R3 (16 * i + j) = _
  rw [h3 i j hj]
  unfold elm
  by_cases e : r < i ∧ i < mny
  · rw [if_pos e, if_pos e, e2 i j hj, e2 i c hc, e2 r c hc, e2 r j hj]
  · rw [if_neg e, if_neg e, e2 i j hj]
/-- how often a zero counts, as the reference counts -/
def ofP (s nl : Nat) (TB ZM : Nat → fF) (k v : Nat) : Prop := ∃ (r : Nat) (R : Nat → Nat → fF) (pv : Nat → Nat) (R0 : Nat → Nat → fF), rkI s (s * nl) s r R pv R0 ∧ (∀ l i j, l < nl → i < s → j < s → R0 (s * l + i) j = sqm s (mzt (tbM TB l) (ZM (3 * k + l))) 4 i j) ∧ v = s - r
theorem nI_dlt {r : Nat} (h : r < 64) : nI r + -1 < nI r := by
  have : ∀ j : Nat, j < 64 → nI j + -1 < nI j := by decide +kernel
  exact this r h
theorem nI_nm3 {f : Nat} (h : f < 64) : nI f ≠ -1 := by
  have : ∀ j : Nat, j < 64 → nI j ≠ -1 := by decide +kernel
  exact this f h
theorem mul_48 {s n : Nat} (hs : s ≤ 16) (hn : n ≤ 3) : s * n ≤ 48 := Nat.le_trans (Nat.mul_le_mul hs hn) (by decide)

theorem d_M_countZeros_0 : decode b_M_countZeros 0 = .ok (.iconst 0, 1) := by decide +kernel
theorem d_M_countZeros_1 : decode b_M_countZeros 1 = .ok (.istore_n 1, 1) := by decide +kernel
theorem d_M_countZeros_2 : decode b_M_countZeros 2 = .ok (.iload_n 1, 1) := by decide +kernel
theorem d_M_countZeros_3 : decode b_M_countZeros 3 = .ok (.aload_n 0, 1) := by decide +kernel
theorem d_M_countZeros_4 : decode b_M_countZeros 4 = .ok (.getfield 195, 3) := by decide +kernel
theorem d_M_countZeros_7 : decode b_M_countZeros 7 = .ok (.if_icmp .ge 70, 3) := by decide +kernel
theorem d_M_countZeros_10 : decode b_M_countZeros 10 = .ok (.iconst 0, 1) := by decide +kernel
theorem d_M_countZeros_11 : decode b_M_countZeros 11 = .ok (.istore_n 2, 1) := by decide +kernel
theorem d_M_countZeros_12 : decode b_M_countZeros 12 = .ok (.iload_n 2, 1) := by decide +kernel
theorem d_M_countZeros_13 : decode b_M_countZeros 13 = .ok (.aload_n 0, 1) := by decide +kernel
theorem d_M_countZeros_14 : decode b_M_countZeros 14 = .ok (.getfield 78, 3) := by decide +kernel
theorem d_M_countZeros_17 : decode b_M_countZeros 17 = .ok (.if_icmp .ge 30, 3) := by decide +kernel
theorem d_M_countZeros_20 : decode b_M_countZeros 20 = .ok (.aload_n 0, 1) := by decide +kernel
theorem d_M_countZeros_21 : decode b_M_countZeros 21 = .ok (.iload_n 2, 1) := by decide +kernel
theorem d_M_countZeros_22 : decode b_M_countZeros 22 = .ok (.aload_n 0, 1) := by decide +kernel
theorem d_M_countZeros_23 : decode b_M_countZeros 23 = .ok (.getfield 50, 3) := by decide +kernel
theorem d_M_countZeros_26 : decode b_M_countZeros 26 = .ok (.iconst 3, 1) := by decide +kernel
theorem d_M_countZeros_27 : decode b_M_countZeros 27 = .ok (.iload_n 1, 1) := by decide +kernel
theorem d_M_countZeros_28 : decode b_M_countZeros 28 = .ok (.imul, 1) := by decide +kernel
theorem d_M_countZeros_29 : decode b_M_countZeros 29 = .ok (.iload_n 2, 1) := by decide +kernel
theorem d_M_countZeros_30 : decode b_M_countZeros 30 = .ok (.iadd, 1) := by decide +kernel
theorem d_M_countZeros_31 : decode b_M_countZeros 31 = .ok (.iaload, 1) := by decide +kernel
theorem d_M_countZeros_32 : decode b_M_countZeros 32 = .ok (.aload_n 0, 1) := by decide +kernel
theorem d_M_countZeros_33 : decode b_M_countZeros 33 = .ok (.getfield 171, 3) := by decide +kernel
theorem d_M_countZeros_36 : decode b_M_countZeros 36 = .ok (.iload_n 2, 1) := by decide +kernel
theorem d_M_countZeros_37 : decode b_M_countZeros 37 = .ok (.imul, 1) := by decide +kernel
theorem d_M_countZeros_38 : decode b_M_countZeros 38 = .ok (.invokevirtual 205, 3) := by decide +kernel
theorem d_M_countZeros_41 : decode b_M_countZeros 41 = .ok (.iinc 2 1, 3) := by decide +kernel
theorem d_M_countZeros_44 : decode b_M_countZeros 44 = .ok (.goto (-32), 3) := by decide +kernel
theorem d_M_countZeros_47 : decode b_M_countZeros 47 = .ok (.aload_n 0, 1) := by decide +kernel
theorem d_M_countZeros_48 : decode b_M_countZeros 48 = .ok (.getfield 53, 3) := by decide +kernel
theorem d_M_countZeros_51 : decode b_M_countZeros 51 = .ok (.iload_n 1, 1) := by decide +kernel
theorem d_M_countZeros_52 : decode b_M_countZeros 52 = .ok (.aload_n 0, 1) := by decide +kernel
theorem d_M_countZeros_53 : decode b_M_countZeros 53 = .ok (.getfield 171, 3) := by decide +kernel
theorem d_M_countZeros_56 : decode b_M_countZeros 56 = .ok (.aload_n 0, 1) := by decide +kernel
theorem d_M_countZeros_57 : decode b_M_countZeros 57 = .ok (.aload_n 0, 1) := by decide +kernel
theorem d_M_countZeros_58 : decode b_M_countZeros 58 = .ok (.getfield 171, 3) := by decide +kernel
theorem d_M_countZeros_61 : decode b_M_countZeros 61 = .ok (.aload_n 0, 1) := by decide +kernel
theorem d_M_countZeros_62 : decode b_M_countZeros 62 = .ok (.getfield 78, 3) := by decide +kernel
theorem d_M_countZeros_65 : decode b_M_countZeros 65 = .ok (.imul, 1) := by decide +kernel
theorem d_M_countZeros_66 : decode b_M_countZeros 66 = .ok (.invokevirtual 208, 3) := by decide +kernel
theorem d_M_countZeros_69 : decode b_M_countZeros 69 = .ok (.isub, 1) := by decide +kernel
theorem d_M_countZeros_70 : decode b_M_countZeros 70 = .ok (.iastore, 1) := by decide +kernel
theorem d_M_countZeros_71 : decode b_M_countZeros 71 = .ok (.iinc 1 1, 3) := by decide +kernel
theorem d_M_countZeros_74 : decode b_M_countZeros 74 = .ok (.goto (-72), 3) := by decide +kernel
theorem d_M_countZeros_77 : decode b_M_countZeros 77 = .ok (.return_, 1) := by decide +kernel
theorem d_M_rank_0 : decode b_M_rank 0 = .ok (.iconst 0, 1) := by decide +kernel
theorem d_M_rank_1 : decode b_M_rank 1 = .ok (.istore_n 2, 1) := by decide +kernel
theorem d_M_rank_2 : decode b_M_rank 2 = .ok (.iconst 0, 1) := by decide +kernel
theorem d_M_rank_3 : decode b_M_rank 3 = .ok (.istore_n 3, 1) := by decide +kernel
theorem d_M_rank_4 : decode b_M_rank 4 = .ok (.iload_n 3, 1) := by decide +kernel
theorem d_M_rank_5 : decode b_M_rank 5 = .ok (.aload_n 0, 1) := by decide +kernel
theorem d_M_rank_6 : decode b_M_rank 6 = .ok (.getfield 171, 3) := by decide +kernel
theorem d_M_rank_9 : decode b_M_rank 9 = .ok (.if_icmp .ge 164, 3) := by decide +kernel
theorem d_M_rank_12 : decode b_M_rank 12 = .ok (.iconst (-1), 1) := by decide +kernel
theorem d_M_rank_13 : decode b_M_rank 13 = .ok (.istore 4, 2) := by decide +kernel
theorem d_M_rank_15 : decode b_M_rank 15 = .ok (.iload_n 1, 1) := by decide +kernel
theorem d_M_rank_16 : decode b_M_rank 16 = .ok (.iconst 1, 1) := by decide +kernel
theorem d_M_rank_17 : decode b_M_rank 17 = .ok (.isub, 1) := by decide +kernel
theorem d_M_rank_18 : decode b_M_rank 18 = .ok (.istore 5, 2) := by decide +kernel
theorem d_M_rank_20 : decode b_M_rank 20 = .ok (.iload 5, 2) := by decide +kernel
theorem d_M_rank_22 : decode b_M_rank 22 = .ok (.iload_n 2, 1) := by decide +kernel
theorem d_M_rank_23 : decode b_M_rank 23 = .ok (.if_icmp .lt 28, 3) := by decide +kernel
theorem d_M_rank_26 : decode b_M_rank 26 = .ok (.aload_n 0, 1) := by decide +kernel
theorem d_M_rank_27 : decode b_M_rank 27 = .ok (.getfield 66, 3) := by decide +kernel
theorem d_M_rank_30 : decode b_M_rank 30 = .ok (.bipush 16, 2) := by decide +kernel
theorem d_M_rank_32 : decode b_M_rank 32 = .ok (.iload 5, 2) := by decide +kernel
theorem d_M_rank_34 : decode b_M_rank 34 = .ok (.imul, 1) := by decide +kernel
theorem d_M_rank_35 : decode b_M_rank 35 = .ok (.iload_n 3, 1) := by decide +kernel
theorem d_M_rank_36 : decode b_M_rank 36 = .ok (.iadd, 1) := by decide +kernel
theorem d_M_rank_37 : decode b_M_rank 37 = .ok (.iaload, 1) := by decide +kernel
theorem d_M_rank_38 : decode b_M_rank 38 = .ok (.ifCond .eq 7, 3) := by decide +kernel
theorem d_M_rank_41 : decode b_M_rank 41 = .ok (.iload 5, 2) := by decide +kernel
theorem d_M_rank_43 : decode b_M_rank 43 = .ok (.istore 4, 2) := by decide +kernel
theorem d_M_rank_45 : decode b_M_rank 45 = .ok (.iinc 5 (-1), 3) := by decide +kernel
theorem d_M_rank_48 : decode b_M_rank 48 = .ok (.goto (-28), 3) := by decide +kernel
theorem d_M_rank_51 : decode b_M_rank 51 = .ok (.iload 4, 2) := by decide +kernel
theorem d_M_rank_53 : decode b_M_rank 53 = .ok (.iconst (-1), 1) := by decide +kernel
theorem d_M_rank_54 : decode b_M_rank 54 = .ok (.if_icmp .eq 113, 3) := by decide +kernel
theorem d_M_rank_57 : decode b_M_rank 57 = .ok (.iconst 0, 1) := by decide +kernel
theorem d_M_rank_58 : decode b_M_rank 58 = .ok (.istore 5, 2) := by decide +kernel
theorem d_M_rank_60 : decode b_M_rank 60 = .ok (.iload 5, 2) := by decide +kernel
theorem d_M_rank_62 : decode b_M_rank 62 = .ok (.aload_n 0, 1) := by decide +kernel
theorem d_M_rank_63 : decode b_M_rank 63 = .ok (.getfield 171, 3) := by decide +kernel
theorem d_M_rank_66 : decode b_M_rank 66 = .ok (.if_icmp .ge 63, 3) := by decide +kernel
theorem d_M_rank_69 : decode b_M_rank 69 = .ok (.aload_n 0, 1) := by decide +kernel
theorem d_M_rank_70 : decode b_M_rank 70 = .ok (.getfield 66, 3) := by decide +kernel
theorem d_M_rank_73 : decode b_M_rank 73 = .ok (.bipush 16, 2) := by decide +kernel
theorem d_M_rank_75 : decode b_M_rank 75 = .ok (.iload_n 2, 1) := by decide +kernel
theorem d_M_rank_76 : decode b_M_rank 76 = .ok (.imul, 1) := by decide +kernel
theorem d_M_rank_77 : decode b_M_rank 77 = .ok (.iload 5, 2) := by decide +kernel
theorem d_M_rank_79 : decode b_M_rank 79 = .ok (.iadd, 1) := by decide +kernel
theorem d_M_rank_80 : decode b_M_rank 80 = .ok (.iaload, 1) := by decide +kernel
theorem d_M_rank_81 : decode b_M_rank 81 = .ok (.istore 6, 2) := by decide +kernel
theorem d_M_rank_83 : decode b_M_rank 83 = .ok (.aload_n 0, 1) := by decide +kernel
theorem d_M_rank_84 : decode b_M_rank 84 = .ok (.getfield 66, 3) := by decide +kernel
theorem d_M_rank_87 : decode b_M_rank 87 = .ok (.bipush 16, 2) := by decide +kernel
theorem d_M_rank_89 : decode b_M_rank 89 = .ok (.iload_n 2, 1) := by decide +kernel
theorem d_M_rank_90 : decode b_M_rank 90 = .ok (.imul, 1) := by decide +kernel
theorem d_M_rank_91 : decode b_M_rank 91 = .ok (.iload 5, 2) := by decide +kernel
theorem d_M_rank_93 : decode b_M_rank 93 = .ok (.iadd, 1) := by decide +kernel
theorem d_M_rank_94 : decode b_M_rank 94 = .ok (.aload_n 0, 1) := by decide +kernel
theorem d_M_rank_95 : decode b_M_rank 95 = .ok (.getfield 66, 3) := by decide +kernel
theorem d_M_rank_98 : decode b_M_rank 98 = .ok (.bipush 16, 2) := by decide +kernel
theorem d_M_rank_100 : decode b_M_rank 100 = .ok (.iload 4, 2) := by decide +kernel
theorem d_M_rank_102 : decode b_M_rank 102 = .ok (.imul, 1) := by decide +kernel
theorem d_M_rank_103 : decode b_M_rank 103 = .ok (.iload 5, 2) := by decide +kernel
theorem d_M_rank_105 : decode b_M_rank 105 = .ok (.iadd, 1) := by decide +kernel
theorem d_M_rank_106 : decode b_M_rank 106 = .ok (.iaload, 1) := by decide +kernel
theorem d_M_rank_107 : decode b_M_rank 107 = .ok (.iastore, 1) := by decide +kernel
theorem d_M_rank_108 : decode b_M_rank 108 = .ok (.aload_n 0, 1) := by decide +kernel
theorem d_M_rank_109 : decode b_M_rank 109 = .ok (.getfield 66, 3) := by decide +kernel
theorem d_M_rank_112 : decode b_M_rank 112 = .ok (.bipush 16, 2) := by decide +kernel
theorem d_M_rank_114 : decode b_M_rank 114 = .ok (.iload 4, 2) := by decide +kernel
theorem d_M_rank_116 : decode b_M_rank 116 = .ok (.imul, 1) := by decide +kernel
theorem d_M_rank_117 : decode b_M_rank 117 = .ok (.iload 5, 2) := by decide +kernel
theorem d_M_rank_119 : decode b_M_rank 119 = .ok (.iadd, 1) := by decide +kernel
theorem d_M_rank_120 : decode b_M_rank 120 = .ok (.iload 6, 2) := by decide +kernel
theorem d_M_rank_122 : decode b_M_rank 122 = .ok (.iastore, 1) := by decide +kernel
theorem d_M_rank_123 : decode b_M_rank 123 = .ok (.iinc 5 1, 3) := by decide +kernel
theorem d_M_rank_126 : decode b_M_rank 126 = .ok (.goto (-66), 3) := by decide +kernel
theorem d_M_rank_129 : decode b_M_rank 129 = .ok (.iload_n 2, 1) := by decide +kernel
theorem d_M_rank_130 : decode b_M_rank 130 = .ok (.iconst 1, 1) := by decide +kernel
theorem d_M_rank_131 : decode b_M_rank 131 = .ok (.iadd, 1) := by decide +kernel
theorem d_M_rank_132 : decode b_M_rank 132 = .ok (.istore 5, 2) := by decide +kernel
theorem d_M_rank_134 : decode b_M_rank 134 = .ok (.iload 5, 2) := by decide +kernel
theorem d_M_rank_136 : decode b_M_rank 136 = .ok (.iload_n 1, 1) := by decide +kernel
theorem d_M_rank_137 : decode b_M_rank 137 = .ok (.if_icmp .ge 27, 3) := by decide +kernel
theorem d_M_rank_140 : decode b_M_rank 140 = .ok (.aload_n 0, 1) := by decide +kernel
theorem d_M_rank_141 : decode b_M_rank 141 = .ok (.bipush 16, 2) := by decide +kernel
theorem d_M_rank_143 : decode b_M_rank 143 = .ok (.iload 5, 2) := by decide +kernel
theorem d_M_rank_145 : decode b_M_rank 145 = .ok (.imul, 1) := by decide +kernel
theorem d_M_rank_146 : decode b_M_rank 146 = .ok (.bipush 16, 2) := by decide +kernel
theorem d_M_rank_148 : decode b_M_rank 148 = .ok (.iload_n 2, 1) := by decide +kernel
theorem d_M_rank_149 : decode b_M_rank 149 = .ok (.imul, 1) := by decide +kernel
theorem d_M_rank_150 : decode b_M_rank 150 = .ok (.iload_n 3, 1) := by decide +kernel
theorem d_M_rank_151 : decode b_M_rank 151 = .ok (.aload_n 0, 1) := by decide +kernel
theorem d_M_rank_152 : decode b_M_rank 152 = .ok (.getfield 171, 3) := by decide +kernel
theorem d_M_rank_155 : decode b_M_rank 155 = .ok (.invokevirtual 177, 3) := by decide +kernel
theorem d_M_rank_158 : decode b_M_rank 158 = .ok (.iinc 5 1, 3) := by decide +kernel
theorem d_M_rank_161 : decode b_M_rank 161 = .ok (.goto (-27), 3) := by decide +kernel
theorem d_M_rank_164 : decode b_M_rank 164 = .ok (.iinc 2 1, 3) := by decide +kernel
theorem d_M_rank_167 : decode b_M_rank 167 = .ok (.iinc 3 1, 3) := by decide +kernel
theorem d_M_rank_170 : decode b_M_rank 170 = .ok (.goto (-166), 3) := by decide +kernel
theorem d_M_rank_173 : decode b_M_rank 173 = .ok (.iload_n 2, 1) := by decide +kernel
theorem d_M_rank_174 : decode b_M_rank 174 = .ok (.ireturn, 1) := by decide +kernel
theorem d_M_sixteenTimes_0 : decode b_M_sixteenTimes 0 = .ok (.iconst 0, 1) := by decide +kernel
theorem d_M_sixteenTimes_1 : decode b_M_sixteenTimes 1 = .ok (.istore 4, 2) := by decide +kernel
theorem d_M_sixteenTimes_3 : decode b_M_sixteenTimes 3 = .ok (.iload 4, 2) := by decide +kernel
theorem d_M_sixteenTimes_5 : decode b_M_sixteenTimes 5 = .ok (.aload_n 0, 1) := by decide +kernel
theorem d_M_sixteenTimes_6 : decode b_M_sixteenTimes 6 = .ok (.getfield 171, 3) := by decide +kernel
theorem d_M_sixteenTimes_9 : decode b_M_sixteenTimes 9 = .ok (.if_icmp .ge 74, 3) := by decide +kernel
theorem d_M_sixteenTimes_12 : decode b_M_sixteenTimes 12 = .ok (.iconst 0, 1) := by decide +kernel
theorem d_M_sixteenTimes_13 : decode b_M_sixteenTimes 13 = .ok (.istore 5, 2) := by decide +kernel
theorem d_M_sixteenTimes_15 : decode b_M_sixteenTimes 15 = .ok (.iload 5, 2) := by decide +kernel
theorem d_M_sixteenTimes_17 : decode b_M_sixteenTimes 17 = .ok (.aload_n 0, 1) := by decide +kernel
theorem d_M_sixteenTimes_18 : decode b_M_sixteenTimes 18 = .ok (.getfield 171, 3) := by decide +kernel
theorem d_M_sixteenTimes_21 : decode b_M_sixteenTimes 21 = .ok (.if_icmp .ge 56, 3) := by decide +kernel
theorem d_M_sixteenTimes_24 : decode b_M_sixteenTimes 24 = .ok (.aload_n 0, 1) := by decide +kernel
theorem d_M_sixteenTimes_25 : decode b_M_sixteenTimes 25 = .ok (.getfield 72, 3) := by decide +kernel
theorem d_M_sixteenTimes_28 : decode b_M_sixteenTimes 28 = .ok (.bipush 16, 2) := by decide +kernel
theorem d_M_sixteenTimes_30 : decode b_M_sixteenTimes 30 = .ok (.iload 4, 2) := by decide +kernel
theorem d_M_sixteenTimes_32 : decode b_M_sixteenTimes 32 = .ok (.imul, 1) := by decide +kernel
theorem d_M_sixteenTimes_33 : decode b_M_sixteenTimes 33 = .ok (.iload 5, 2) := by decide +kernel
theorem d_M_sixteenTimes_35 : decode b_M_sixteenTimes 35 = .ok (.iadd, 1) := by decide +kernel
theorem d_M_sixteenTimes_36 : decode b_M_sixteenTimes 36 = .ok (.aload_n 0, 1) := by decide +kernel
theorem d_M_sixteenTimes_37 : decode b_M_sixteenTimes 37 = .ok (.getfield 35, 3) := by decide +kernel
theorem d_M_sixteenTimes_40 : decode b_M_sixteenTimes 40 = .ok (.sipush 256, 3) := by decide +kernel
theorem d_M_sixteenTimes_43 : decode b_M_sixteenTimes 43 = .ok (.iload_n 1, 1) := by decide +kernel
theorem d_M_sixteenTimes_44 : decode b_M_sixteenTimes 44 = .ok (.imul, 1) := by decide +kernel
theorem d_M_sixteenTimes_45 : decode b_M_sixteenTimes 45 = .ok (.bipush 16, 2) := by decide +kernel
theorem d_M_sixteenTimes_47 : decode b_M_sixteenTimes 47 = .ok (.iload 4, 2) := by decide +kernel
theorem d_M_sixteenTimes_49 : decode b_M_sixteenTimes 49 = .ok (.imul, 1) := by decide +kernel
theorem d_M_sixteenTimes_50 : decode b_M_sixteenTimes 50 = .ok (.iadd, 1) := by decide +kernel
theorem d_M_sixteenTimes_51 : decode b_M_sixteenTimes 51 = .ok (.iload 5, 2) := by decide +kernel
theorem d_M_sixteenTimes_53 : decode b_M_sixteenTimes 53 = .ok (.iadd, 1) := by decide +kernel
theorem d_M_sixteenTimes_54 : decode b_M_sixteenTimes 54 = .ok (.iaload, 1) := by decide +kernel
theorem d_M_sixteenTimes_55 : decode b_M_sixteenTimes 55 = .ok (.iload 4, 2) := by decide +kernel
theorem d_M_sixteenTimes_57 : decode b_M_sixteenTimes 57 = .ok (.iload 5, 2) := by decide +kernel
theorem d_M_sixteenTimes_59 : decode b_M_sixteenTimes 59 = .ok (.if_icmp .ne 7, 3) := by decide +kernel
theorem d_M_sixteenTimes_62 : decode b_M_sixteenTimes 62 = .ok (.iload_n 2, 1) := by decide +kernel
theorem d_M_sixteenTimes_63 : decode b_M_sixteenTimes 63 = .ok (.goto 4, 3) := by decide +kernel
theorem d_M_sixteenTimes_66 : decode b_M_sixteenTimes 66 = .ok (.iconst 0, 1) := by decide +kernel
theorem d_M_sixteenTimes_67 : decode b_M_sixteenTimes 67 = .ok (.invokestatic 142, 3) := by decide +kernel
theorem d_M_sixteenTimes_70 : decode b_M_sixteenTimes 70 = .ok (.iastore, 1) := by decide +kernel
theorem d_M_sixteenTimes_71 : decode b_M_sixteenTimes 71 = .ok (.iinc 5 1, 3) := by decide +kernel
theorem d_M_sixteenTimes_74 : decode b_M_sixteenTimes 74 = .ok (.goto (-59), 3) := by decide +kernel
theorem d_M_sixteenTimes_77 : decode b_M_sixteenTimes 77 = .ok (.iinc 4 1, 3) := by decide +kernel
theorem d_M_sixteenTimes_80 : decode b_M_sixteenTimes 80 = .ok (.goto (-77), 3) := by decide +kernel
theorem d_M_sixteenTimes_83 : decode b_M_sixteenTimes 83 = .ok (.iconst 0, 1) := by decide +kernel
theorem d_M_sixteenTimes_84 : decode b_M_sixteenTimes 84 = .ok (.istore 4, 2) := by decide +kernel
theorem d_M_sixteenTimes_86 : decode b_M_sixteenTimes 86 = .ok (.iload 4, 2) := by decide +kernel
theorem d_M_sixteenTimes_88 : decode b_M_sixteenTimes 88 = .ok (.iconst 4, 1) := by decide +kernel
theorem d_M_sixteenTimes_89 : decode b_M_sixteenTimes 89 = .ok (.if_icmp .ge 148, 3) := by decide +kernel
theorem d_M_sixteenTimes_92 : decode b_M_sixteenTimes 92 = .ok (.iconst 0, 1) := by decide +kernel
theorem d_M_sixteenTimes_93 : decode b_M_sixteenTimes 93 = .ok (.istore 5, 2) := by decide +kernel
theorem d_M_sixteenTimes_95 : decode b_M_sixteenTimes 95 = .ok (.iload 5, 2) := by decide +kernel
theorem d_M_sixteenTimes_97 : decode b_M_sixteenTimes 97 = .ok (.aload_n 0, 1) := by decide +kernel
theorem d_M_sixteenTimes_98 : decode b_M_sixteenTimes 98 = .ok (.getfield 171, 3) := by decide +kernel
theorem d_M_sixteenTimes_101 : decode b_M_sixteenTimes 101 = .ok (.if_icmp .ge 99, 3) := by decide +kernel
theorem d_M_sixteenTimes_104 : decode b_M_sixteenTimes 104 = .ok (.iconst 0, 1) := by decide +kernel
theorem d_M_sixteenTimes_105 : decode b_M_sixteenTimes 105 = .ok (.istore 6, 2) := by decide +kernel
theorem d_M_sixteenTimes_107 : decode b_M_sixteenTimes 107 = .ok (.iload 6, 2) := by decide +kernel
theorem d_M_sixteenTimes_109 : decode b_M_sixteenTimes 109 = .ok (.aload_n 0, 1) := by decide +kernel
theorem d_M_sixteenTimes_110 : decode b_M_sixteenTimes 110 = .ok (.getfield 171, 3) := by decide +kernel
theorem d_M_sixteenTimes_113 : decode b_M_sixteenTimes 113 = .ok (.if_icmp .ge 81, 3) := by decide +kernel
theorem d_M_sixteenTimes_116 : decode b_M_sixteenTimes 116 = .ok (.iconst 0, 1) := by decide +kernel
theorem d_M_sixteenTimes_117 : decode b_M_sixteenTimes 117 = .ok (.istore 7, 2) := by decide +kernel
theorem d_M_sixteenTimes_119 : decode b_M_sixteenTimes 119 = .ok (.iconst 0, 1) := by decide +kernel
theorem d_M_sixteenTimes_120 : decode b_M_sixteenTimes 120 = .ok (.istore 8, 2) := by decide +kernel
theorem d_M_sixteenTimes_122 : decode b_M_sixteenTimes 122 = .ok (.iload 8, 2) := by decide +kernel
theorem d_M_sixteenTimes_124 : decode b_M_sixteenTimes 124 = .ok (.aload_n 0, 1) := by decide +kernel
theorem d_M_sixteenTimes_125 : decode b_M_sixteenTimes 125 = .ok (.getfield 171, 3) := by decide +kernel
theorem d_M_sixteenTimes_128 : decode b_M_sixteenTimes 128 = .ok (.if_icmp .ge 45, 3) := by decide +kernel
theorem d_M_sixteenTimes_131 : decode b_M_sixteenTimes 131 = .ok (.iload 7, 2) := by decide +kernel
theorem d_M_sixteenTimes_133 : decode b_M_sixteenTimes 133 = .ok (.aload_n 0, 1) := by decide +kernel
theorem d_M_sixteenTimes_134 : decode b_M_sixteenTimes 134 = .ok (.getfield 72, 3) := by decide +kernel
theorem d_M_sixteenTimes_137 : decode b_M_sixteenTimes 137 = .ok (.bipush 16, 2) := by decide +kernel
theorem d_M_sixteenTimes_139 : decode b_M_sixteenTimes 139 = .ok (.iload 5, 2) := by decide +kernel
theorem d_M_sixteenTimes_141 : decode b_M_sixteenTimes 141 = .ok (.imul, 1) := by decide +kernel
theorem d_M_sixteenTimes_142 : decode b_M_sixteenTimes 142 = .ok (.iload 8, 2) := by decide +kernel
theorem d_M_sixteenTimes_144 : decode b_M_sixteenTimes 144 = .ok (.iadd, 1) := by decide +kernel
theorem d_M_sixteenTimes_145 : decode b_M_sixteenTimes 145 = .ok (.iaload, 1) := by decide +kernel
theorem d_M_sixteenTimes_146 : decode b_M_sixteenTimes 146 = .ok (.aload_n 0, 1) := by decide +kernel
theorem d_M_sixteenTimes_147 : decode b_M_sixteenTimes 147 = .ok (.getfield 72, 3) := by decide +kernel
theorem d_M_sixteenTimes_150 : decode b_M_sixteenTimes 150 = .ok (.bipush 16, 2) := by decide +kernel
theorem d_M_sixteenTimes_152 : decode b_M_sixteenTimes 152 = .ok (.iload 8, 2) := by decide +kernel
theorem d_M_sixteenTimes_154 : decode b_M_sixteenTimes 154 = .ok (.imul, 1) := by decide +kernel
theorem d_M_sixteenTimes_155 : decode b_M_sixteenTimes 155 = .ok (.iload 6, 2) := by decide +kernel
theorem d_M_sixteenTimes_157 : decode b_M_sixteenTimes 157 = .ok (.iadd, 1) := by decide +kernel
theorem d_M_sixteenTimes_158 : decode b_M_sixteenTimes 158 = .ok (.iaload, 1) := by decide +kernel
theorem d_M_sixteenTimes_159 : decode b_M_sixteenTimes 159 = .ok (.invokestatic 87, 3) := by decide +kernel
theorem d_M_sixteenTimes_162 : decode b_M_sixteenTimes 162 = .ok (.invokestatic 174, 3) := by decide +kernel
theorem d_M_sixteenTimes_165 : decode b_M_sixteenTimes 165 = .ok (.istore 7, 2) := by decide +kernel
theorem d_M_sixteenTimes_167 : decode b_M_sixteenTimes 167 = .ok (.iinc 8 1, 3) := by decide +kernel
theorem d_M_sixteenTimes_170 : decode b_M_sixteenTimes 170 = .ok (.goto (-48), 3) := by decide +kernel
theorem d_M_sixteenTimes_173 : decode b_M_sixteenTimes 173 = .ok (.aload_n 0, 1) := by decide +kernel
theorem d_M_sixteenTimes_174 : decode b_M_sixteenTimes 174 = .ok (.getfield 75, 3) := by decide +kernel
theorem d_M_sixteenTimes_177 : decode b_M_sixteenTimes 177 = .ok (.bipush 16, 2) := by decide +kernel
theorem d_M_sixteenTimes_179 : decode b_M_sixteenTimes 179 = .ok (.iload 5, 2) := by decide +kernel
theorem d_M_sixteenTimes_181 : decode b_M_sixteenTimes 181 = .ok (.imul, 1) := by decide +kernel
theorem d_M_sixteenTimes_182 : decode b_M_sixteenTimes 182 = .ok (.iload 6, 2) := by decide +kernel
theorem d_M_sixteenTimes_184 : decode b_M_sixteenTimes 184 = .ok (.iadd, 1) := by decide +kernel
theorem d_M_sixteenTimes_185 : decode b_M_sixteenTimes 185 = .ok (.iload 7, 2) := by decide +kernel
theorem d_M_sixteenTimes_187 : decode b_M_sixteenTimes 187 = .ok (.iastore, 1) := by decide +kernel
theorem d_M_sixteenTimes_188 : decode b_M_sixteenTimes 188 = .ok (.iinc 6 1, 3) := by decide +kernel
theorem d_M_sixteenTimes_191 : decode b_M_sixteenTimes 191 = .ok (.goto (-84), 3) := by decide +kernel
theorem d_M_sixteenTimes_194 : decode b_M_sixteenTimes 194 = .ok (.iinc 5 1, 3) := by decide +kernel
theorem d_M_sixteenTimes_197 : decode b_M_sixteenTimes 197 = .ok (.goto (-102), 3) := by decide +kernel
theorem d_M_sixteenTimes_200 : decode b_M_sixteenTimes 200 = .ok (.iconst 0, 1) := by decide +kernel
theorem d_M_sixteenTimes_201 : decode b_M_sixteenTimes 201 = .ok (.istore 5, 2) := by decide +kernel
theorem d_M_sixteenTimes_203 : decode b_M_sixteenTimes 203 = .ok (.iload 5, 2) := by decide +kernel
theorem d_M_sixteenTimes_205 : decode b_M_sixteenTimes 205 = .ok (.sipush 256, 3) := by decide +kernel
theorem d_M_sixteenTimes_208 : decode b_M_sixteenTimes 208 = .ok (.if_icmp .ge 23, 3) := by decide +kernel
theorem d_M_sixteenTimes_211 : decode b_M_sixteenTimes 211 = .ok (.aload_n 0, 1) := by decide +kernel
theorem d_M_sixteenTimes_212 : decode b_M_sixteenTimes 212 = .ok (.getfield 72, 3) := by decide +kernel
theorem d_M_sixteenTimes_215 : decode b_M_sixteenTimes 215 = .ok (.iload 5, 2) := by decide +kernel
theorem d_M_sixteenTimes_217 : decode b_M_sixteenTimes 217 = .ok (.aload_n 0, 1) := by decide +kernel
theorem d_M_sixteenTimes_218 : decode b_M_sixteenTimes 218 = .ok (.getfield 75, 3) := by decide +kernel
theorem d_M_sixteenTimes_221 : decode b_M_sixteenTimes 221 = .ok (.iload 5, 2) := by decide +kernel
theorem d_M_sixteenTimes_223 : decode b_M_sixteenTimes 223 = .ok (.iaload, 1) := by decide +kernel
theorem d_M_sixteenTimes_224 : decode b_M_sixteenTimes 224 = .ok (.iastore, 1) := by decide +kernel
theorem d_M_sixteenTimes_225 : decode b_M_sixteenTimes 225 = .ok (.iinc 5 1, 3) := by decide +kernel
theorem d_M_sixteenTimes_228 : decode b_M_sixteenTimes 228 = .ok (.goto (-25), 3) := by decide +kernel
theorem d_M_sixteenTimes_231 : decode b_M_sixteenTimes 231 = .ok (.iinc 4 1, 3) := by decide +kernel
theorem d_M_sixteenTimes_234 : decode b_M_sixteenTimes 234 = .ok (.goto (-148), 3) := by decide +kernel
theorem d_M_sixteenTimes_237 : decode b_M_sixteenTimes 237 = .ok (.iconst 0, 1) := by decide +kernel
theorem d_M_sixteenTimes_238 : decode b_M_sixteenTimes 238 = .ok (.istore 4, 2) := by decide +kernel
theorem d_M_sixteenTimes_240 : decode b_M_sixteenTimes 240 = .ok (.iload 4, 2) := by decide +kernel
theorem d_M_sixteenTimes_242 : decode b_M_sixteenTimes 242 = .ok (.aload_n 0, 1) := by decide +kernel
theorem d_M_sixteenTimes_243 : decode b_M_sixteenTimes 243 = .ok (.getfield 171, 3) := by decide +kernel
theorem d_M_sixteenTimes_246 : decode b_M_sixteenTimes 246 = .ok (.if_icmp .ge 55, 3) := by decide +kernel
theorem d_M_sixteenTimes_249 : decode b_M_sixteenTimes 249 = .ok (.iconst 0, 1) := by decide +kernel
theorem d_M_sixteenTimes_250 : decode b_M_sixteenTimes 250 = .ok (.istore 5, 2) := by decide +kernel
theorem d_M_sixteenTimes_252 : decode b_M_sixteenTimes 252 = .ok (.iload 5, 2) := by decide +kernel
theorem d_M_sixteenTimes_254 : decode b_M_sixteenTimes 254 = .ok (.aload_n 0, 1) := by decide +kernel
theorem d_M_sixteenTimes_255 : decode b_M_sixteenTimes 255 = .ok (.getfield 171, 3) := by decide +kernel
theorem d_M_sixteenTimes_258 : decode b_M_sixteenTimes 258 = .ok (.if_icmp .ge 37, 3) := by decide +kernel
theorem d_M_sixteenTimes_261 : decode b_M_sixteenTimes 261 = .ok (.aload_n 0, 1) := by decide +kernel
theorem d_M_sixteenTimes_262 : decode b_M_sixteenTimes 262 = .ok (.getfield 66, 3) := by decide +kernel
theorem d_M_sixteenTimes_265 : decode b_M_sixteenTimes 265 = .ok (.bipush 16, 2) := by decide +kernel
theorem d_M_sixteenTimes_267 : decode b_M_sixteenTimes 267 = .ok (.iload_n 3, 1) := by decide +kernel
theorem d_M_sixteenTimes_268 : decode b_M_sixteenTimes 268 = .ok (.iload 4, 2) := by decide +kernel
theorem d_M_sixteenTimes_270 : decode b_M_sixteenTimes 270 = .ok (.iadd, 1) := by decide +kernel
theorem d_M_sixteenTimes_271 : decode b_M_sixteenTimes 271 = .ok (.imul, 1) := by decide +kernel
theorem d_M_sixteenTimes_272 : decode b_M_sixteenTimes 272 = .ok (.iload 5, 2) := by decide +kernel
theorem d_M_sixteenTimes_274 : decode b_M_sixteenTimes 274 = .ok (.iadd, 1) := by decide +kernel
theorem d_M_sixteenTimes_275 : decode b_M_sixteenTimes 275 = .ok (.aload_n 0, 1) := by decide +kernel
theorem d_M_sixteenTimes_276 : decode b_M_sixteenTimes 276 = .ok (.getfield 72, 3) := by decide +kernel
theorem d_M_sixteenTimes_279 : decode b_M_sixteenTimes 279 = .ok (.bipush 16, 2) := by decide +kernel
theorem d_M_sixteenTimes_281 : decode b_M_sixteenTimes 281 = .ok (.iload 4, 2) := by decide +kernel
theorem d_M_sixteenTimes_283 : decode b_M_sixteenTimes 283 = .ok (.imul, 1) := by decide +kernel
theorem d_M_sixteenTimes_284 : decode b_M_sixteenTimes 284 = .ok (.iload 5, 2) := by decide +kernel
theorem d_M_sixteenTimes_286 : decode b_M_sixteenTimes 286 = .ok (.iadd, 1) := by decide +kernel
theorem d_M_sixteenTimes_287 : decode b_M_sixteenTimes 287 = .ok (.iaload, 1) := by decide +kernel
theorem d_M_sixteenTimes_288 : decode b_M_sixteenTimes 288 = .ok (.iastore, 1) := by decide +kernel
theorem d_M_sixteenTimes_289 : decode b_M_sixteenTimes 289 = .ok (.iinc 5 1, 3) := by decide +kernel
theorem d_M_sixteenTimes_292 : decode b_M_sixteenTimes 292 = .ok (.goto (-40), 3) := by decide +kernel
theorem d_M_sixteenTimes_295 : decode b_M_sixteenTimes 295 = .ok (.iinc 4 1, 3) := by decide +kernel
theorem d_M_sixteenTimes_298 : decode b_M_sixteenTimes 298 = .ok (.goto (-58), 3) := by decide +kernel
theorem d_M_sixteenTimes_301 : decode b_M_sixteenTimes 301 = .ok (.return_, 1) := by decide +kernel
set_option maxHeartbeats 4000000 in
set_option maxRecDepth 100000 in
theorem lp_M_st1 {p : Program} {l : Launch} {e : Env} {R : Room} {s : State} {m : MethodId} {args : Array Value} {below : List Frame} {meth : Method} {c : Code} {Q : State → Prop} {D : mp_G} {g : Nat → ClassId} {A : Nat → Prop} {cells slots : Nat} (hx : p.tables.exec = Jvm.exec) (hb : c.code = b_M_sixteenTimes) (hml : c.maxLocals = 9) (hg : ∀ w ∈ gw, w.before args s = true) (hown : s.vm.findClass R_M = some m.cls) (hK : mp_K D classes (tys g) s) (hRf : 1 ≤ R.frames) (hRl : 21 ≤ R.locals) (hRc : cells ≤ R.cells) (hRs : slots ≤ R.slots) {B : mp_M} {o ta sq rs ro s9 l9 f9 : Nat} {mv0 mv1 mv2 mv3 mv4 mv5 mv6 mv7 mv8 mv9 mv10 mv11 mv12 mv13 mv15 mv17 mv18 mv19 mv20 mv21 mv22 mv23 mv24 mv25 mv26 mv28 : Value} {TB : Nat → fF} {ζ9 : fF} {RS RW : Nat → fF} {r9 : Nat} (hs : s9 ≤ 16) (hl9 : l9 < 3) (hf9 : f9 + s9 ≤ 48) (hr9 : r9 < s9) : ∀ (k : Nat) (i : Nat) (SQ : Nat → fF) (S : mp_M) (H : Heap) (locs : List Loc) (ls : Array Slot), i + k = s9 → (grI 0 s9 (mzt (tbM TB l9) ζ9) r9 i SQ) → S o = some (2000, .inr (10, [mv0, mv1, mv2, mv3, mv4, mv5, mv6, mv7, mv8, mv9, mv10, mv11, mv12, mv13, .int (nI s9), mv15, .ref ta, mv17, mv18, mv19, mv20, mv21, mv22, mv23, mv24, mv25, mv26, .ref ro, mv28, .ref sq, .ref rs])) → S ta = some (2009, .inl ((g 0), 768, .inl (fun j => nI (TB j).val))) → S sq = some (2021, .inl ((g 0), 256, .inl (fun j => nI (SQ j).val))) → S rs = some (2022, .inl ((g 0), 256, .inl (fun j => nI (RS j).val))) → S ro = some (2019, .inl ((g 0), 1700, .inl (fun j => nI (RW j).val))) → (∀ b t e9, B b = some (t, e9) → (t ≠ 2021) → (t ≠ 2022) → (t ≠ 2019) → S b = some (t, e9)) → mp_I D classes A s.heap S H locs → lv_has ls 9 [(5, .int (nI i)), (4, .int (nI r9)), (3, .int (nI f9)), (2, .int (nI (ζ9).val)), (1, .int (nI l9)), (0, .ref o)] → (∀ (SQ : Nat → fF) (S : mp_M) (H : Heap) (locs : List Loc) (ls : Array Slot), (grI 0 s9 (mzt (tbM TB l9) ζ9) r9 s9 SQ) → S o = some (2000, .inr (10, [mv0, mv1, mv2, mv3, mv4, mv5, mv6, mv7, mv8, mv9, mv10, mv11, mv12, mv13, .int (nI s9), mv15, .ref ta, mv17, mv18, mv19, mv20, mv21, mv22, mv23, mv24, mv25, mv26, .ref ro, mv28, .ref sq, .ref rs])) → S ta = some (2009, .inl ((g 0), 768, .inl (fun j => nI (TB j).val))) → S sq = some (2021, .inl ((g 0), 256, .inl (fun j => nI (SQ j).val))) → S rs = some (2022, .inl ((g 0), 256, .inl (fun j => nI (RS j).val))) → S ro = some (2019, .inl ((g 0), 1700, .inl (fun j => nI (RW j).val))) → (∀ b t e9, B b = some (t, e9) → (t ≠ 2021) → (t ≠ 2022) → (t ≠ 2019) → S b = some (t, e9)) → mp_I D classes A s.heap S H locs → lv_has ls 9 [(5, .int (nI s9)), (4, .int (nI r9)), (3, .int (nI f9)), (2, .int (nI (ζ9).val)), (1, .int (nI l9)), (0, .ref o)] → W p l e R s m args below meth c H locs cells slots Q (F0 m 77 ls [])) → W p l e R s m args below meth c H locs cells slots Q (F0 m 15 ls []) := by
  intro k
  induction k with
  | zero =>
    intro i SQ S H locs ls hi hg9 h_o h_ta h_sq h_rs h_ro hfr hI hl kx
    refine lv_iload hx hb d_M_sixteenTimes_15 (lv_at hl 0 rfl) ?_
    refine lv_aload_n hx hb d_M_sixteenTimes_17 rfl (lv_at hl 5 rfl) ?_
    refine mp_get (C := R_M) (T := F_M) (N := 31) (v := .int (nI s9)) hx hb hg i_M hown hK.va hI h_o rfl 14 (by decide) (hg _ q_818) (fun _ h9 => h9) rfl d_M_sixteenTimes_18 ?_
    refine lv_icmp_ge (tgt := 77) hx hb d_M_sixteenTimes_21 (by decide) (fun _ => ?_) (fun h9 => absurd ((nI_leI (by omega) (by omega)).mpr (by omega)) h9)
    obtain rfl : i = s9 := by omega
    exact kx SQ S H locs ls hg9 h_o h_ta h_sq h_rs h_ro hfr hI (lv_sub hl [0, 1, 2, 3, 4, 5] rfl)
  | succ k ih =>
    intro i SQ S H locs ls hi hg9 h_o h_ta h_sq h_rs h_ro hfr hI hl kx
    refine lv_iload hx hb d_M_sixteenTimes_15 (lv_at hl 0 rfl) ?_
    refine lv_aload_n hx hb d_M_sixteenTimes_17 rfl (lv_at hl 5 rfl) ?_
    refine mp_get (C := R_M) (T := F_M) (N := 31) (v := .int (nI s9)) hx hb hg i_M hown hK.va hI h_o rfl 14 (by decide) (hg _ q_818) (fun _ h9 => h9) rfl d_M_sixteenTimes_18 ?_
    refine lv_icmp_ge (tgt := 77) hx hb d_M_sixteenTimes_21 (by decide) (fun h9 => absurd h9 (by rw [nI_leI (by omega) (by omega)]; omega)) (fun _ => ?_)
    refine lv_aload_n hx hb d_M_sixteenTimes_24 rfl (lv_at hl 5 rfl) ?_
    refine mp_get (C := R_M) (T := F_M) (N := 31) (v := .ref sq) hx hb hg i_M hown hK.va hI h_o rfl 29 (by decide) (hg _ q_833) (fun _ h9 => h9) rfl d_M_sixteenTimes_25 ?_
    refine lv_bipush (v := nI 16) hx hb d_M_sixteenTimes_28 (by decide) ?_
    refine lv_iload hx hb d_M_sixteenTimes_30 (lv_at hl 1 rfl) ?_
    refine lv_imul hx hb d_M_sixteenTimes_32 ?_
    refine lv_topi (fun v1 ev1 => ?_)
    obtain rfl : v1 = nI (16 * r9) := ev1.trans (pk_mul _ _)
    refine lv_iload hx hb d_M_sixteenTimes_33 (lv_at hl 0 rfl) ?_
    refine lv_iadd hx hb d_M_sixteenTimes_35 ?_
    refine lv_topi (fun v2 ev2 => ?_)
    obtain rfl : v2 = nI ((16 * r9) + i) := ev2.trans (nI_add _ _)
    refine lv_aload_n hx hb d_M_sixteenTimes_36 rfl (lv_at hl 5 rfl) ?_
    refine mp_get (C := R_M) (T := F_M) (N := 31) (v := .ref ta) hx hb hg i_M hown hK.va hI h_o rfl 16 (by decide) (hg _ q_820) (fun _ h9 => h9) rfl d_M_sixteenTimes_37 ?_
    refine lv_sipush (v := nI 256) hx hb d_M_sixteenTimes_40 (by decide) ?_
    refine lv_iload_n hx hb d_M_sixteenTimes_43 rfl (lv_at hl 4 rfl) ?_
    refine lv_imul hx hb d_M_sixteenTimes_44 ?_
    refine lv_topi (fun v3 ev3 => ?_)
    obtain rfl : v3 = nI (256 * l9) := ev3.trans (pk_mul _ _)
    refine lv_bipush (v := nI 16) hx hb d_M_sixteenTimes_45 (by decide) ?_
    refine lv_iload hx hb d_M_sixteenTimes_47 (lv_at hl 1 rfl) ?_
    refine lv_imul hx hb d_M_sixteenTimes_49 ?_
    refine lv_topi (fun v4 ev4 => ?_)
    obtain rfl : v4 = nI (16 * r9) := ev4.trans (pk_mul _ _)
    refine lv_iadd hx hb d_M_sixteenTimes_50 ?_
    refine lv_topi (fun v5 ev5 => ?_)
    obtain rfl : v5 = nI ((256 * l9) + (16 * r9)) := ev5.trans (nI_add _ _)
    refine lv_iload hx hb d_M_sixteenTimes_51 (lv_at hl 0 rfl) ?_
    refine lv_iadd hx hb d_M_sixteenTimes_53 ?_
    refine lv_topi (fun v6 ev6 => ?_)
    obtain rfl : v6 = nI (((256 * l9) + (16 * r9)) + i) := ev6.trans (nI_add _ _)
    refine mp_iald hx hb hK.va hI 0 h_ta rfl (vp_in_nI (show ((256 * l9) + (16 * r9)) + i < 768 by omega) (by omega)) d_M_sixteenTimes_54 ?_
    refine lv_topi (fun v7 ev7 => ?_)
    obtain rfl : v7 = nI (TB (((256 * l9) + (16 * r9)) + i)).val := ev7.trans (by rw [nI_clamp (by omega)])
    refine lv_iload hx hb d_M_sixteenTimes_55 (lv_at hl 1 rfl) ?_
    refine lv_iload hx hb d_M_sixteenTimes_57 (lv_at hl 0 rfl) ?_
    refine lv_icmp_ne (tgt := 66) hx hb d_M_sixteenTimes_59 (by decide) (fun c1 => ?_) (fun c1 => ?_)
    · rw [nI_eq (by omega) (by omega)] at c1
      refine lv_iconst (v := nI 0) hx hb d_M_sixteenTimes_66 (by decide) ?_
      refine mp_calli hI (va_runS (As := [.int (nI (TB (((256 * l9) + (16 * r9)) + i)).val), .int (nI 0)]) (rest := [.int (nI ((16 * r9) + i)), .ref sq]) ⟨hx, hb, hml, hown, hg⟩ (c_M_less l D g S _ (TB (256 * l9 + 16 * r9 + i)).val 0 (by omega) (by decide)) ⟨(callB_of 2 hg (wd_goodG q_980) rfl rfl rfl (hg _ q_5) (hg _ q_978) (by decide +kernel) ⟨Nat.le_trans (Nat.le_of_ble_eq_true rfl) hRf, Nat.le_trans (Nat.le_of_ble_eq_true rfl) hRl⟩), hg _ q_979⟩ (mp_pre hI hK [.int (nI (TB (((256 * l9) + (16 * r9)) + i)).val), .int (nI 0)]) rfl rfl hl.1 rfl (lv_room (Nat.le_of_ble_eq_true rfl)) d_M_sixteenTimes_67 ⟨by omega, by omega⟩) (fun r11 S8 H9 locs p_10 hI => ?_)
      obtain ⟨er11, eS12⟩ := p_10
      rw [eS12] at hI
      have er11 : r11 = nI (((TB (256 * l9 + 16 * r9 + i)).val + (32003 - 0)) % 32003) := er11
      subst er11
      refine lv_topi (fun v13 ev13 => ?_)
      obtain rfl : v13 = nI ((mzt (tbM TB l9) ζ9) r9 i).val := ev13.trans (congrArg nI (fv_mod (by unfold mzt; rw [if_neg c1, fc_add, fc_of, show fc (32003 - 0) = 0 from by decide +kernel]; unfold tbM; grind)))
      refine mp_iast hx hb hK.va hI 0 h_sq rfl (vp_in_nI (show (16 * r9) + i < 256 by omega) (by omega)) d_M_sixteenTimes_70 (fun S20 H21 locs e_22 hI => ?_)
      have h_sq_o := h_sq
      have e_22 : S20 = va_up S sq (some (2021, .inl ((g 0), 256, .inl (upd (fun j => nI (SQ j).val) (nI ((16 * r9) + i)).toNatClampNeg (nI ((mzt (tbM TB l9) ζ9) r9 i).val))))) := e_22
      have h_o : S20 o = some (2000, .inr (10, [mv0, mv1, mv2, mv3, mv4, mv5, mv6, mv7, mv8, mv9, mv10, mv11, mv12, mv13, .int (nI s9), mv15, .ref ta, mv17, mv18, mv19, mv20, mv21, mv22, mv23, mv24, mv25, mv26, .ref ro, mv28, .ref sq, .ref rs])) := by rw [e_22]; exact mp_keep h_o h_sq (by decide)
      have h_ta : S20 ta = some (2009, .inl ((g 0), 768, .inl (fun j => nI (TB j).val))) := by rw [e_22]; exact mp_keep h_ta h_sq (by decide)
      have h_rs : S20 rs = some (2022, .inl ((g 0), 256, .inl (fun j => nI (RS j).val))) := by rw [e_22]; exact mp_keep h_rs h_sq (by decide)
      have h_ro : S20 ro = some (2019, .inl ((g 0), 1700, .inl (fun j => nI (RW j).val))) := by rw [e_22]; exact mp_keep h_ro h_sq (by decide)
      have h_sq : S20 sq = some (2021, .inl ((g 0), 256, .inl (upd (fun j => nI (SQ j).val) (nI ((16 * r9) + i)).toNatClampNeg (nI ((mzt (tbM TB l9) ζ9) r9 i).val)))) := by rw [e_22]; exact mp_us _ _ _
      have hfr : ∀ b t e9, B b = some (t, e9) → (t ≠ 2021) → (t ≠ 2022) → (t ≠ 2019) → S20 b = some (t, e9) := fun b t e9 h9 k0 k1 k2 => by rw [e_22]; exact mp_keep (hfr b t e9 h9 k0 k1 k2) h_sq_o (by omega)
      rw [nI_clamp (by omega), nIv_up] at h_sq
      refine lv_iinc (v := nI (i + 1)) (lv' := [(5, .int (nI (i + 1))), (4, .int (nI r9)), (3, .int (nI f9)), (2, .int (nI (ζ9).val)), (1, .int (nI l9)), (0, .ref o)]) hx hb d_M_sixteenTimes_71 hl (k := 0) rfl (nI_1 _) (by decide) rfl (fun ls hl => ?_)
      refine lv_goto (tgt := 15) hx hb d_M_sixteenTimes_74 (by decide) ?_
      exact ih (i + 1) (va_up SQ (16 * r9 + i) ((mzt (tbM TB l9) ζ9) r9 i)) S20 H21 locs ls (by omega) (grI_up hg9 hs (by omega) (by omega)) h_o h_ta h_sq h_rs h_ro hfr hI (lv_sub hl [0, 1, 2, 3, 4, 5] rfl) kx
    · rw [nI_eq (by omega) (by omega)] at c1
      refine lv_iload_n hx hb d_M_sixteenTimes_62 rfl (lv_at hl 3 rfl) ?_
      refine lv_goto (tgt := 67) hx hb d_M_sixteenTimes_63 (by decide) ?_
      refine mp_calli hI (va_runS (As := [.int (nI (TB (((256 * l9) + (16 * r9)) + i)).val), .int (nI (ζ9).val)]) (rest := [.int (nI ((16 * r9) + i)), .ref sq]) ⟨hx, hb, hml, hown, hg⟩ (c_M_less l D g S _ (TB (256 * l9 + 16 * r9 + i)).val (ζ9).val (by omega) (by omega)) ⟨(callB_of 2 hg (wd_goodG q_980) rfl rfl rfl (hg _ q_5) (hg _ q_978) (by decide +kernel) ⟨Nat.le_trans (Nat.le_of_ble_eq_true rfl) hRf, Nat.le_trans (Nat.le_of_ble_eq_true rfl) hRl⟩), hg _ q_979⟩ (mp_pre hI hK [.int (nI (TB (((256 * l9) + (16 * r9)) + i)).val), .int (nI (ζ9).val)]) rfl rfl hl.1 rfl (lv_room (Nat.le_of_ble_eq_true rfl)) d_M_sixteenTimes_67 ⟨by omega, by omega⟩) (fun r17 S14 H15 locs p_16 hI => ?_)
      obtain ⟨er17, eS18⟩ := p_16
      rw [eS18] at hI
      have er17 : r17 = nI (((TB (256 * l9 + 16 * r9 + i)).val + (32003 - (ζ9).val)) % 32003) := er17
      subst er17
      refine lv_topi (fun v19 ev19 => ?_)
      obtain rfl : v19 = nI ((mzt (tbM TB l9) ζ9) r9 i).val := ev19.trans (congrArg nI (fv_mod (by unfold mzt; rw [if_pos c1, fc_add, fc_of, fc_ng]; unfold tbM; grind)))
      refine mp_iast hx hb hK.va hI 0 h_sq rfl (vp_in_nI (show (16 * r9) + i < 256 by omega) (by omega)) d_M_sixteenTimes_70 (fun S23 H24 locs e_25 hI => ?_)
      have h_sq_o := h_sq
      have e_25 : S23 = va_up S sq (some (2021, .inl ((g 0), 256, .inl (upd (fun j => nI (SQ j).val) (nI ((16 * r9) + i)).toNatClampNeg (nI ((mzt (tbM TB l9) ζ9) r9 i).val))))) := e_25
      have h_o : S23 o = some (2000, .inr (10, [mv0, mv1, mv2, mv3, mv4, mv5, mv6, mv7, mv8, mv9, mv10, mv11, mv12, mv13, .int (nI s9), mv15, .ref ta, mv17, mv18, mv19, mv20, mv21, mv22, mv23, mv24, mv25, mv26, .ref ro, mv28, .ref sq, .ref rs])) := by rw [e_25]; exact mp_keep h_o h_sq (by decide)
      have h_ta : S23 ta = some (2009, .inl ((g 0), 768, .inl (fun j => nI (TB j).val))) := by rw [e_25]; exact mp_keep h_ta h_sq (by decide)
      have h_rs : S23 rs = some (2022, .inl ((g 0), 256, .inl (fun j => nI (RS j).val))) := by rw [e_25]; exact mp_keep h_rs h_sq (by decide)
      have h_ro : S23 ro = some (2019, .inl ((g 0), 1700, .inl (fun j => nI (RW j).val))) := by rw [e_25]; exact mp_keep h_ro h_sq (by decide)
      have h_sq : S23 sq = some (2021, .inl ((g 0), 256, .inl (upd (fun j => nI (SQ j).val) (nI ((16 * r9) + i)).toNatClampNeg (nI ((mzt (tbM TB l9) ζ9) r9 i).val)))) := by rw [e_25]; exact mp_us _ _ _
      have hfr : ∀ b t e9, B b = some (t, e9) → (t ≠ 2021) → (t ≠ 2022) → (t ≠ 2019) → S23 b = some (t, e9) := fun b t e9 h9 k0 k1 k2 => by rw [e_25]; exact mp_keep (hfr b t e9 h9 k0 k1 k2) h_sq_o (by omega)
      rw [nI_clamp (by omega), nIv_up] at h_sq
      refine lv_iinc (v := nI (i + 1)) (lv' := [(5, .int (nI (i + 1))), (4, .int (nI r9)), (3, .int (nI f9)), (2, .int (nI (ζ9).val)), (1, .int (nI l9)), (0, .ref o)]) hx hb d_M_sixteenTimes_71 hl (k := 0) rfl (nI_1 _) (by decide) rfl (fun ls hl => ?_)
      refine lv_goto (tgt := 15) hx hb d_M_sixteenTimes_74 (by decide) ?_
      exact ih (i + 1) (va_up SQ (16 * r9 + i) ((mzt (tbM TB l9) ζ9) r9 i)) S23 H24 locs ls (by omega) (grI_up hg9 hs (by omega) (by omega)) h_o h_ta h_sq h_rs h_ro hfr hI (lv_sub hl [0, 1, 2, 3, 4, 5] rfl) kx
set_option maxHeartbeats 4000000 in
set_option maxRecDepth 100000 in
theorem lp_M_st2 {p : Program} {l : Launch} {e : Env} {R : Room} {s : State} {m : MethodId} {args : Array Value} {below : List Frame} {meth : Method} {c : Code} {Q : State → Prop} {D : mp_G} {g : Nat → ClassId} {A : Nat → Prop} {cells slots : Nat} (hx : p.tables.exec = Jvm.exec) (hb : c.code = b_M_sixteenTimes) (hml : c.maxLocals = 9) (hg : ∀ w ∈ gw, w.before args s = true) (hown : s.vm.findClass R_M = some m.cls) (hK : mp_K D classes (tys g) s) (hRf : 1 ≤ R.frames) (hRl : 21 ≤ R.locals) (hRc : cells ≤ R.cells) (hRs : slots ≤ R.slots) {B : mp_M} {o ta sq rs ro s9 l9 f9 : Nat} {mv0 mv1 mv2 mv3 mv4 mv5 mv6 mv7 mv8 mv9 mv10 mv11 mv12 mv13 mv15 mv17 mv18 mv19 mv20 mv21 mv22 mv23 mv24 mv25 mv26 mv28 : Value} {TB : Nat → fF} {ζ9 : fF} {RS RW : Nat → fF} (hs : s9 ≤ 16) (hl9 : l9 < 3) (hf9 : f9 + s9 ≤ 48) : ∀ (k : Nat) (i : Nat) (SQ : Nat → fF) (S : mp_M) (H : Heap) (locs : List Loc) (ls : Array Slot), i + k = s9 → (grI 0 s9 (mzt (tbM TB l9) ζ9) i 0 SQ) → S o = some (2000, .inr (10, [mv0, mv1, mv2, mv3, mv4, mv5, mv6, mv7, mv8, mv9, mv10, mv11, mv12, mv13, .int (nI s9), mv15, .ref ta, mv17, mv18, mv19, mv20, mv21, mv22, mv23, mv24, mv25, mv26, .ref ro, mv28, .ref sq, .ref rs])) → S ta = some (2009, .inl ((g 0), 768, .inl (fun j => nI (TB j).val))) → S sq = some (2021, .inl ((g 0), 256, .inl (fun j => nI (SQ j).val))) → S rs = some (2022, .inl ((g 0), 256, .inl (fun j => nI (RS j).val))) → S ro = some (2019, .inl ((g 0), 1700, .inl (fun j => nI (RW j).val))) → (∀ b t e9, B b = some (t, e9) → (t ≠ 2021) → (t ≠ 2022) → (t ≠ 2019) → S b = some (t, e9)) → mp_I D classes A s.heap S H locs → lv_has ls 9 [(4, .int (nI i)), (3, .int (nI f9)), (2, .int (nI (ζ9).val)), (1, .int (nI l9)), (0, .ref o)] → (∀ (SQ : Nat → fF) (S : mp_M) (H : Heap) (locs : List Loc) (ls : Array Slot), (grI 0 s9 (mzt (tbM TB l9) ζ9) s9 0 SQ) → S o = some (2000, .inr (10, [mv0, mv1, mv2, mv3, mv4, mv5, mv6, mv7, mv8, mv9, mv10, mv11, mv12, mv13, .int (nI s9), mv15, .ref ta, mv17, mv18, mv19, mv20, mv21, mv22, mv23, mv24, mv25, mv26, .ref ro, mv28, .ref sq, .ref rs])) → S ta = some (2009, .inl ((g 0), 768, .inl (fun j => nI (TB j).val))) → S sq = some (2021, .inl ((g 0), 256, .inl (fun j => nI (SQ j).val))) → S rs = some (2022, .inl ((g 0), 256, .inl (fun j => nI (RS j).val))) → S ro = some (2019, .inl ((g 0), 1700, .inl (fun j => nI (RW j).val))) → (∀ b t e9, B b = some (t, e9) → (t ≠ 2021) → (t ≠ 2022) → (t ≠ 2019) → S b = some (t, e9)) → mp_I D classes A s.heap S H locs → lv_has ls 9 [(4, .int (nI s9)), (3, .int (nI f9)), (2, .int (nI (ζ9).val)), (1, .int (nI l9)), (0, .ref o)] → W p l e R s m args below meth c H locs cells slots Q (F0 m 83 ls [])) → W p l e R s m args below meth c H locs cells slots Q (F0 m 3 ls []) := by
  intro k
  induction k with
  | zero =>
    intro i SQ S H locs ls hi hg9 h_o h_ta h_sq h_rs h_ro hfr hI hl kx
    refine lv_iload hx hb d_M_sixteenTimes_3 (lv_at hl 0 rfl) ?_
    refine lv_aload_n hx hb d_M_sixteenTimes_5 rfl (lv_at hl 4 rfl) ?_
    refine mp_get (C := R_M) (T := F_M) (N := 31) (v := .int (nI s9)) hx hb hg i_M hown hK.va hI h_o rfl 14 (by decide) (hg _ q_818) (fun _ h9 => h9) rfl d_M_sixteenTimes_6 ?_
    refine lv_icmp_ge (tgt := 83) hx hb d_M_sixteenTimes_9 (by decide) (fun _ => ?_) (fun h9 => absurd ((nI_leI (by omega) (by omega)).mpr (by omega)) h9)
    obtain rfl : i = s9 := by omega
    exact kx SQ S H locs ls hg9 h_o h_ta h_sq h_rs h_ro hfr hI (lv_sub hl [0, 1, 2, 3, 4] rfl)
  | succ k ih =>
    intro i SQ S H locs ls hi hg9 h_o h_ta h_sq h_rs h_ro hfr hI hl kx
    refine lv_iload hx hb d_M_sixteenTimes_3 (lv_at hl 0 rfl) ?_
    refine lv_aload_n hx hb d_M_sixteenTimes_5 rfl (lv_at hl 4 rfl) ?_
    refine mp_get (C := R_M) (T := F_M) (N := 31) (v := .int (nI s9)) hx hb hg i_M hown hK.va hI h_o rfl 14 (by decide) (hg _ q_818) (fun _ h9 => h9) rfl d_M_sixteenTimes_6 ?_
    refine lv_icmp_ge (tgt := 83) hx hb d_M_sixteenTimes_9 (by decide) (fun h9 => absurd h9 (by rw [nI_leI (by omega) (by omega)]; omega)) (fun _ => ?_)
    refine lv_iconst (v := nI 0) hx hb d_M_sixteenTimes_12 (by decide) ?_
    refine lv_istore (lv' := [(5, .int (nI 0)), (4, .int (nI i)), (3, .int (nI f9)), (2, .int (nI (ζ9).val)), (1, .int (nI l9)), (0, .ref o)]) hx hb d_M_sixteenTimes_13 hl (by decide) rfl (fun ls hl => ?_)
    refine lp_M_st1 (B := B) (o := o) (ta := ta) (sq := sq) (rs := rs) (ro := ro) (s9 := s9) (l9 := l9) (f9 := f9) (mv0 := mv0) (mv1 := mv1) (mv2 := mv2) (mv3 := mv3) (mv4 := mv4) (mv5 := mv5) (mv6 := mv6) (mv7 := mv7) (mv8 := mv8) (mv9 := mv9) (mv10 := mv10) (mv11 := mv11) (mv12 := mv12) (mv13 := mv13) (mv15 := mv15) (mv17 := mv17) (mv18 := mv18) (mv19 := mv19) (mv20 := mv20) (mv21 := mv21) (mv22 := mv22) (mv23 := mv23) (mv24 := mv24) (mv25 := mv25) (mv26 := mv26) (mv28 := mv28) (TB := TB) (ζ9 := ζ9) (RS := RS) (RW := RW) (r9 := i) hx hb hml hg hown hK (Nat.le_trans (Nat.le_of_ble_eq_true rfl) hRf) (Nat.le_trans (Nat.le_of_ble_eq_true rfl) hRl) (by omega) (by omega) hs hl9 hf9 (by omega) s9 0 SQ S H _ ls (by omega) hg9 h_o h_ta h_sq h_rs h_ro hfr hI (lv_sub hl [0, 1, 2, 3, 4, 5] rfl) (fun SQ2 S1 H2 locs ls hg8 j_o j_ta j_sq j_rs j_ro hfr hI hl => ?_)
    refine lv_iinc (v := nI (i + 1)) (lv' := [(4, .int (nI (i + 1))), (5, .int (nI s9)), (3, .int (nI f9)), (2, .int (nI (ζ9).val)), (1, .int (nI l9)), (0, .ref o)]) hx hb d_M_sixteenTimes_77 hl (k := 1) rfl (nI_1 _) (by decide) rfl (fun ls hl => ?_)
    refine lv_goto (tgt := 3) hx hb d_M_sixteenTimes_80 (by decide) ?_
    exact ih (i + 1) SQ2 S1 H2 locs ls (by omega) (grI_next hg8) j_o j_ta j_sq j_rs j_ro hfr hI (lv_sub hl [0, 2, 3, 4, 5] rfl) kx
set_option maxHeartbeats 4000000 in
set_option maxRecDepth 100000 in
theorem lp_M_st3 {p : Program} {l : Launch} {e : Env} {R : Room} {s : State} {m : MethodId} {args : Array Value} {below : List Frame} {meth : Method} {c : Code} {Q : State → Prop} {D : mp_G} {g : Nat → ClassId} {A : Nat → Prop} {cells slots : Nat} (hx : p.tables.exec = Jvm.exec) (hb : c.code = b_M_sixteenTimes) (hml : c.maxLocals = 9) (hg : ∀ w ∈ gw, w.before args s = true) (hown : s.vm.findClass R_M = some m.cls) (hK : mp_K D classes (tys g) s) (hRf : 1 ≤ R.frames) (hRl : 21 ≤ R.locals) (hRc : cells ≤ R.cells) (hRs : slots ≤ R.slots) {B : mp_M} {o ta sq rs ro s9 l9 f9 : Nat} {mv0 mv1 mv2 mv3 mv4 mv5 mv6 mv7 mv8 mv9 mv10 mv11 mv12 mv13 mv15 mv17 mv18 mv19 mv20 mv21 mv22 mv23 mv24 mv25 mv26 mv28 : Value} {TB : Nat → fF} {ζ9 : fF} {SQ RS RW : Nat → fF} {n9 r9 j9 : Nat} (hs : s9 ≤ 16) (hl9 : l9 < 3) (hf9 : f9 + s9 ≤ 48) (hr9 : r9 < s9) (hj9 : j9 < s9) : ∀ (k : Nat) (i : Nat) (x9 : fF) (S : mp_M) (H : Heap) (locs : List Loc) (ls : Array Slot), i + k = s9 → (x9 = sm i (fun k => SQ (16 * r9 + k) * SQ (16 * k + j9))) → S o = some (2000, .inr (10, [mv0, mv1, mv2, mv3, mv4, mv5, mv6, mv7, mv8, mv9, mv10, mv11, mv12, mv13, .int (nI s9), mv15, .ref ta, mv17, mv18, mv19, mv20, mv21, mv22, mv23, mv24, mv25, mv26, .ref ro, mv28, .ref sq, .ref rs])) → S ta = some (2009, .inl ((g 0), 768, .inl (fun j => nI (TB j).val))) → S sq = some (2021, .inl ((g 0), 256, .inl (fun j => nI (SQ j).val))) → S rs = some (2022, .inl ((g 0), 256, .inl (fun j => nI (RS j).val))) → S ro = some (2019, .inl ((g 0), 1700, .inl (fun j => nI (RW j).val))) → (∀ b t e9, B b = some (t, e9) → (t ≠ 2021) → (t ≠ 2022) → (t ≠ 2019) → S b = some (t, e9)) → mp_I D classes A s.heap S H locs → lv_has ls 9 [(8, .int (nI i)), (7, .int (nI (x9).val)), (6, .int (nI j9)), (5, .int (nI r9)), (4, .int (nI n9)), (3, .int (nI f9)), (2, .int (nI (ζ9).val)), (1, .int (nI l9)), (0, .ref o)] → (∀ (x9 : fF) (S : mp_M) (H : Heap) (locs : List Loc) (ls : Array Slot), (x9 = sm s9 (fun k => SQ (16 * r9 + k) * SQ (16 * k + j9))) → S o = some (2000, .inr (10, [mv0, mv1, mv2, mv3, mv4, mv5, mv6, mv7, mv8, mv9, mv10, mv11, mv12, mv13, .int (nI s9), mv15, .ref ta, mv17, mv18, mv19, mv20, mv21, mv22, mv23, mv24, mv25, mv26, .ref ro, mv28, .ref sq, .ref rs])) → S ta = some (2009, .inl ((g 0), 768, .inl (fun j => nI (TB j).val))) → S sq = some (2021, .inl ((g 0), 256, .inl (fun j => nI (SQ j).val))) → S rs = some (2022, .inl ((g 0), 256, .inl (fun j => nI (RS j).val))) → S ro = some (2019, .inl ((g 0), 1700, .inl (fun j => nI (RW j).val))) → (∀ b t e9, B b = some (t, e9) → (t ≠ 2021) → (t ≠ 2022) → (t ≠ 2019) → S b = some (t, e9)) → mp_I D classes A s.heap S H locs → lv_has ls 9 [(8, .int (nI s9)), (7, .int (nI (x9).val)), (6, .int (nI j9)), (5, .int (nI r9)), (4, .int (nI n9)), (3, .int (nI f9)), (2, .int (nI (ζ9).val)), (1, .int (nI l9)), (0, .ref o)] → W p l e R s m args below meth c H locs cells slots Q (F0 m 173 ls [])) → W p l e R s m args below meth c H locs cells slots Q (F0 m 122 ls []) := by
  intro k
  induction k with
  | zero =>
    intro i x9 S H locs ls hi hx8 h_o h_ta h_sq h_rs h_ro hfr hI hl kx
    refine lv_iload hx hb d_M_sixteenTimes_122 (lv_at hl 0 rfl) ?_
    refine lv_aload_n hx hb d_M_sixteenTimes_124 rfl (lv_at hl 8 rfl) ?_
    refine mp_get (C := R_M) (T := F_M) (N := 31) (v := .int (nI s9)) hx hb hg i_M hown hK.va hI h_o rfl 14 (by decide) (hg _ q_818) (fun _ h9 => h9) rfl d_M_sixteenTimes_125 ?_
    refine lv_icmp_ge (tgt := 173) hx hb d_M_sixteenTimes_128 (by decide) (fun _ => ?_) (fun h9 => absurd ((nI_leI (by omega) (by omega)).mpr (by omega)) h9)
    obtain rfl : i = s9 := by omega
    exact kx x9 S H locs ls hx8 h_o h_ta h_sq h_rs h_ro hfr hI (lv_sub hl [0, 1, 2, 3, 4, 5, 6, 7, 8] rfl)
  | succ k ih =>
    intro i x9 S H locs ls hi hx8 h_o h_ta h_sq h_rs h_ro hfr hI hl kx
    refine lv_iload hx hb d_M_sixteenTimes_122 (lv_at hl 0 rfl) ?_
    refine lv_aload_n hx hb d_M_sixteenTimes_124 rfl (lv_at hl 8 rfl) ?_
    refine mp_get (C := R_M) (T := F_M) (N := 31) (v := .int (nI s9)) hx hb hg i_M hown hK.va hI h_o rfl 14 (by decide) (hg _ q_818) (fun _ h9 => h9) rfl d_M_sixteenTimes_125 ?_
    refine lv_icmp_ge (tgt := 173) hx hb d_M_sixteenTimes_128 (by decide) (fun h9 => absurd h9 (by rw [nI_leI (by omega) (by omega)]; omega)) (fun _ => ?_)
    refine lv_iload hx hb d_M_sixteenTimes_131 (lv_at hl 1 rfl) ?_
    refine lv_aload_n hx hb d_M_sixteenTimes_133 rfl (lv_at hl 8 rfl) ?_
    refine mp_get (C := R_M) (T := F_M) (N := 31) (v := .ref sq) hx hb hg i_M hown hK.va hI h_o rfl 29 (by decide) (hg _ q_833) (fun _ h9 => h9) rfl d_M_sixteenTimes_134 ?_
    refine lv_bipush (v := nI 16) hx hb d_M_sixteenTimes_137 (by decide) ?_
    refine lv_iload hx hb d_M_sixteenTimes_139 (lv_at hl 3 rfl) ?_
    refine lv_imul hx hb d_M_sixteenTimes_141 ?_
    refine lv_topi (fun v1 ev1 => ?_)
    obtain rfl : v1 = nI (16 * r9) := ev1.trans (pk_mul _ _)
    refine lv_iload hx hb d_M_sixteenTimes_142 (lv_at hl 0 rfl) ?_
    refine lv_iadd hx hb d_M_sixteenTimes_144 ?_
    refine lv_topi (fun v2 ev2 => ?_)
    obtain rfl : v2 = nI ((16 * r9) + i) := ev2.trans (nI_add _ _)
    refine mp_iald hx hb hK.va hI 0 h_sq rfl (vp_in_nI (show (16 * r9) + i < 256 by omega) (by omega)) d_M_sixteenTimes_145 ?_
    refine lv_topi (fun v3 ev3 => ?_)
    obtain rfl : v3 = nI (SQ ((16 * r9) + i)).val := ev3.trans (by rw [nI_clamp (by omega)])
    refine lv_aload_n hx hb d_M_sixteenTimes_146 rfl (lv_at hl 8 rfl) ?_
    refine mp_get (C := R_M) (T := F_M) (N := 31) (v := .ref sq) hx hb hg i_M hown hK.va hI h_o rfl 29 (by decide) (hg _ q_833) (fun _ h9 => h9) rfl d_M_sixteenTimes_147 ?_
    refine lv_bipush (v := nI 16) hx hb d_M_sixteenTimes_150 (by decide) ?_
    refine lv_iload hx hb d_M_sixteenTimes_152 (lv_at hl 0 rfl) ?_
    refine lv_imul hx hb d_M_sixteenTimes_154 ?_
    refine lv_topi (fun v4 ev4 => ?_)
    obtain rfl : v4 = nI (16 * i) := ev4.trans (pk_mul _ _)
    refine lv_iload hx hb d_M_sixteenTimes_155 (lv_at hl 2 rfl) ?_
    refine lv_iadd hx hb d_M_sixteenTimes_157 ?_
    refine lv_topi (fun v5 ev5 => ?_)
    obtain rfl : v5 = nI ((16 * i) + j9) := ev5.trans (nI_add _ _)
    refine mp_iald hx hb hK.va hI 0 h_sq rfl (vp_in_nI (show (16 * i) + j9 < 256 by omega) (by omega)) d_M_sixteenTimes_158 ?_
    refine lv_topi (fun v6 ev6 => ?_)
    obtain rfl : v6 = nI (SQ ((16 * i) + j9)).val := ev6.trans (by rw [nI_clamp (by omega)])
    refine mp_calli hI (va_runS (As := [.int (nI (SQ ((16 * r9) + i)).val), .int (nI (SQ ((16 * i) + j9)).val)]) (rest := [.int (nI (x9).val)]) ⟨hx, hb, hml, hown, hg⟩ (c_M_times l D g S _ (SQ (16 * r9 + i)).val (SQ (16 * i + j9)).val (by omega) (by omega)) ⟨(callB_of 2 hg (wd_goodG q_927) rfl rfl rfl (hg _ q_5) (hg _ q_925) (by decide +kernel) ⟨Nat.le_trans (Nat.le_of_ble_eq_true rfl) hRf, Nat.le_trans (Nat.le_of_ble_eq_true rfl) hRl⟩), hg _ q_926⟩ (mp_pre hI hK [.int (nI (SQ ((16 * r9) + i)).val), .int (nI (SQ ((16 * i) + j9)).val)]) rfl rfl hl.1 rfl (lv_room (Nat.le_of_ble_eq_true rfl)) d_M_sixteenTimes_159 ⟨by omega, by omega⟩) (fun r10 S7 H8 locs p_9 hI => ?_)
    obtain ⟨er10, eS11⟩ := p_9
    rw [eS11] at hI
    have er10 : r10 = nI ((SQ (16 * r9 + i)).val * (SQ (16 * i + j9)).val % 32003) := er10
    subst er10
    refine lv_topi (fun v12 ev12 => ?_)
    obtain rfl : v12 = nI ((SQ (16 * r9 + i)) * (SQ (16 * i + j9))).val := ev12.trans (congrArg nI (fv_mul _ _))
    refine mp_calli hI (va_runS (As := [.int (nI (x9).val), .int (nI ((SQ (16 * r9 + i)) * (SQ (16 * i + j9))).val)]) (rest := []) ⟨hx, hb, hml, hown, hg⟩ (c_M_plus l D g S _ (x9).val ((SQ (16 * r9 + i)) * (SQ (16 * i + j9))).val (by omega) (by omega)) ⟨(callB_of 2 hg (wd_goodG q_1025) rfl rfl rfl (hg _ q_5) (hg _ q_1023) (by decide +kernel) ⟨Nat.le_trans (Nat.le_of_ble_eq_true rfl) hRf, Nat.le_trans (Nat.le_of_ble_eq_true rfl) hRl⟩), hg _ q_1024⟩ (mp_pre hI hK [.int (nI (x9).val), .int (nI ((SQ (16 * r9 + i)) * (SQ (16 * i + j9))).val)]) rfl rfl hl.1 rfl (lv_room (Nat.le_of_ble_eq_true rfl)) d_M_sixteenTimes_162 ⟨by omega, by omega⟩) (fun r16 S13 H14 locs p_15 hI => ?_)
    obtain ⟨er16, eS17⟩ := p_15
    rw [eS17] at hI
    have er16 : r16 = nI (((x9).val + ((SQ (16 * r9 + i)) * (SQ (16 * i + j9))).val) % 32003) := er16
    subst er16
    refine lv_topi (fun v18 ev18 => ?_)
    obtain rfl : v18 = nI (x9 + ((SQ (16 * r9 + i)) * (SQ (16 * i + j9)))).val := ev18.trans (congrArg nI (fv_add _ _))
    refine lv_istore (lv' := [(7, .int (nI (x9 + ((SQ (16 * r9 + i)) * (SQ (16 * i + j9)))).val)), (8, .int (nI i)), (6, .int (nI j9)), (5, .int (nI r9)), (4, .int (nI n9)), (3, .int (nI f9)), (2, .int (nI (ζ9).val)), (1, .int (nI l9)), (0, .ref o)]) hx hb d_M_sixteenTimes_165 hl (by decide) rfl (fun ls hl => ?_)
    refine lv_iinc (v := nI (i + 1)) (lv' := [(8, .int (nI (i + 1))), (7, .int (nI (x9 + ((SQ (16 * r9 + i)) * (SQ (16 * i + j9)))).val)), (6, .int (nI j9)), (5, .int (nI r9)), (4, .int (nI n9)), (3, .int (nI f9)), (2, .int (nI (ζ9).val)), (1, .int (nI l9)), (0, .ref o)]) hx hb d_M_sixteenTimes_167 hl (k := 1) rfl (nI_1 _) (by decide) rfl (fun ls hl => ?_)
    refine lv_goto (tgt := 122) hx hb d_M_sixteenTimes_170 (by decide) ?_
    exact ih (i + 1) (x9 + (SQ (16 * r9 + i)) * (SQ (16 * i + j9))) S H14 locs ls (by omega) (by rw [hx8]; rfl) h_o h_ta h_sq h_rs h_ro hfr hI (lv_sub hl [0, 1, 2, 3, 4, 5, 6, 7, 8] rfl) kx
set_option maxHeartbeats 4000000 in
set_option maxRecDepth 100000 in
theorem lp_M_st4 {p : Program} {l : Launch} {e : Env} {R : Room} {s : State} {m : MethodId} {args : Array Value} {below : List Frame} {meth : Method} {c : Code} {Q : State → Prop} {D : mp_G} {g : Nat → ClassId} {A : Nat → Prop} {cells slots : Nat} (hx : p.tables.exec = Jvm.exec) (hb : c.code = b_M_sixteenTimes) (hml : c.maxLocals = 9) (hg : ∀ w ∈ gw, w.before args s = true) (hown : s.vm.findClass R_M = some m.cls) (hK : mp_K D classes (tys g) s) (hRf : 1 ≤ R.frames) (hRl : 21 ≤ R.locals) (hRc : cells ≤ R.cells) (hRs : slots ≤ R.slots) {B : mp_M} {o ta sq rs ro s9 l9 f9 : Nat} {mv0 mv1 mv2 mv3 mv4 mv5 mv6 mv7 mv8 mv9 mv10 mv11 mv12 mv13 mv15 mv17 mv18 mv19 mv20 mv21 mv22 mv23 mv24 mv25 mv26 mv28 : Value} {TB : Nat → fF} {ζ9 : fF} {SQ RW : Nat → fF} {n9 r9 : Nat} (hs : s9 ≤ 16) (hl9 : l9 < 3) (hf9 : f9 + s9 ≤ 48) (hr9 : r9 < s9) : ∀ (k : Nat) (i : Nat) (RS : Nat → fF) (S : mp_M) (H : Heap) (locs : List Loc) (ls : Array Slot), i + k = s9 → (grI 0 s9 (mmt s9 (fun a b => SQ (16 * a + b)) (fun a b => SQ (16 * a + b))) r9 i RS) → S o = some (2000, .inr (10, [mv0, mv1, mv2, mv3, mv4, mv5, mv6, mv7, mv8, mv9, mv10, mv11, mv12, mv13, .int (nI s9), mv15, .ref ta, mv17, mv18, mv19, mv20, mv21, mv22, mv23, mv24, mv25, mv26, .ref ro, mv28, .ref sq, .ref rs])) → S ta = some (2009, .inl ((g 0), 768, .inl (fun j => nI (TB j).val))) → S sq = some (2021, .inl ((g 0), 256, .inl (fun j => nI (SQ j).val))) → S rs = some (2022, .inl ((g 0), 256, .inl (fun j => nI (RS j).val))) → S ro = some (2019, .inl ((g 0), 1700, .inl (fun j => nI (RW j).val))) → (∀ b t e9, B b = some (t, e9) → (t ≠ 2021) → (t ≠ 2022) → (t ≠ 2019) → S b = some (t, e9)) → mp_I D classes A s.heap S H locs → lv_has ls 9 [(6, .int (nI i)), (5, .int (nI r9)), (4, .int (nI n9)), (3, .int (nI f9)), (2, .int (nI (ζ9).val)), (1, .int (nI l9)), (0, .ref o)] → (∀ (RS : Nat → fF) (S : mp_M) (H : Heap) (locs : List Loc) (ls : Array Slot), (grI 0 s9 (mmt s9 (fun a b => SQ (16 * a + b)) (fun a b => SQ (16 * a + b))) r9 s9 RS) → S o = some (2000, .inr (10, [mv0, mv1, mv2, mv3, mv4, mv5, mv6, mv7, mv8, mv9, mv10, mv11, mv12, mv13, .int (nI s9), mv15, .ref ta, mv17, mv18, mv19, mv20, mv21, mv22, mv23, mv24, mv25, mv26, .ref ro, mv28, .ref sq, .ref rs])) → S ta = some (2009, .inl ((g 0), 768, .inl (fun j => nI (TB j).val))) → S sq = some (2021, .inl ((g 0), 256, .inl (fun j => nI (SQ j).val))) → S rs = some (2022, .inl ((g 0), 256, .inl (fun j => nI (RS j).val))) → S ro = some (2019, .inl ((g 0), 1700, .inl (fun j => nI (RW j).val))) → (∀ b t e9, B b = some (t, e9) → (t ≠ 2021) → (t ≠ 2022) → (t ≠ 2019) → S b = some (t, e9)) → mp_I D classes A s.heap S H locs → lv_has ls 9 [(6, .int (nI s9)), (5, .int (nI r9)), (4, .int (nI n9)), (3, .int (nI f9)), (2, .int (nI (ζ9).val)), (1, .int (nI l9)), (0, .ref o)] → W p l e R s m args below meth c H locs cells slots Q (F0 m 194 ls [])) → W p l e R s m args below meth c H locs cells slots Q (F0 m 107 ls []) := by
  intro k
  induction k with
  | zero =>
    intro i RS S H locs ls hi hg9 h_o h_ta h_sq h_rs h_ro hfr hI hl kx
    refine lv_iload hx hb d_M_sixteenTimes_107 (lv_at hl 0 rfl) ?_
    refine lv_aload_n hx hb d_M_sixteenTimes_109 rfl (lv_at hl 6 rfl) ?_
    refine mp_get (C := R_M) (T := F_M) (N := 31) (v := .int (nI s9)) hx hb hg i_M hown hK.va hI h_o rfl 14 (by decide) (hg _ q_818) (fun _ h9 => h9) rfl d_M_sixteenTimes_110 ?_
    refine lv_icmp_ge (tgt := 194) hx hb d_M_sixteenTimes_113 (by decide) (fun _ => ?_) (fun h9 => absurd ((nI_leI (by omega) (by omega)).mpr (by omega)) h9)
    obtain rfl : i = s9 := by omega
    exact kx RS S H locs ls hg9 h_o h_ta h_sq h_rs h_ro hfr hI (lv_sub hl [0, 1, 2, 3, 4, 5, 6] rfl)
  | succ k ih =>
    intro i RS S H locs ls hi hg9 h_o h_ta h_sq h_rs h_ro hfr hI hl kx
    refine lv_iload hx hb d_M_sixteenTimes_107 (lv_at hl 0 rfl) ?_
    refine lv_aload_n hx hb d_M_sixteenTimes_109 rfl (lv_at hl 6 rfl) ?_
    refine mp_get (C := R_M) (T := F_M) (N := 31) (v := .int (nI s9)) hx hb hg i_M hown hK.va hI h_o rfl 14 (by decide) (hg _ q_818) (fun _ h9 => h9) rfl d_M_sixteenTimes_110 ?_
    refine lv_icmp_ge (tgt := 194) hx hb d_M_sixteenTimes_113 (by decide) (fun h9 => absurd h9 (by rw [nI_leI (by omega) (by omega)]; omega)) (fun _ => ?_)
    refine lv_iconst (v := nI 0) hx hb d_M_sixteenTimes_116 (by decide) ?_
    refine lv_istore (lv' := [(7, .int (nI 0)), (6, .int (nI i)), (5, .int (nI r9)), (4, .int (nI n9)), (3, .int (nI f9)), (2, .int (nI (ζ9).val)), (1, .int (nI l9)), (0, .ref o)]) hx hb d_M_sixteenTimes_117 hl (by decide) rfl (fun ls hl => ?_)
    refine lv_iconst (v := nI 0) hx hb d_M_sixteenTimes_119 (by decide) ?_
    refine lv_istore (lv' := [(8, .int (nI 0)), (7, .int (nI 0)), (6, .int (nI i)), (5, .int (nI r9)), (4, .int (nI n9)), (3, .int (nI f9)), (2, .int (nI (ζ9).val)), (1, .int (nI l9)), (0, .ref o)]) hx hb d_M_sixteenTimes_120 hl (by decide) rfl (fun ls hl => ?_)
    refine lp_M_st3 (B := B) (o := o) (ta := ta) (sq := sq) (rs := rs) (ro := ro) (s9 := s9) (l9 := l9) (f9 := f9) (mv0 := mv0) (mv1 := mv1) (mv2 := mv2) (mv3 := mv3) (mv4 := mv4) (mv5 := mv5) (mv6 := mv6) (mv7 := mv7) (mv8 := mv8) (mv9 := mv9) (mv10 := mv10) (mv11 := mv11) (mv12 := mv12) (mv13 := mv13) (mv15 := mv15) (mv17 := mv17) (mv18 := mv18) (mv19 := mv19) (mv20 := mv20) (mv21 := mv21) (mv22 := mv22) (mv23 := mv23) (mv24 := mv24) (mv25 := mv25) (mv26 := mv26) (mv28 := mv28) (TB := TB) (ζ9 := ζ9) (SQ := SQ) (RS := RS) (RW := RW) (n9 := n9) (r9 := r9) (j9 := i) hx hb hml hg hown hK (Nat.le_trans (Nat.le_of_ble_eq_true rfl) hRf) (Nat.le_trans (Nat.le_of_ble_eq_true rfl) hRl) (by omega) (by omega) hs hl9 hf9 hr9 (by omega) s9 0 0 S H _ ls (by omega) rfl h_o h_ta h_sq h_rs h_ro hfr hI (lv_sub hl [0, 1, 2, 3, 4, 5, 6, 7, 8] rfl) (fun x9 S1 H2 locs ls hx8 j_o j_ta j_sq j_rs j_ro hfr hI hl => ?_)
    refine lv_aload_n hx hb d_M_sixteenTimes_173 rfl (lv_at hl 8 rfl) ?_
    refine mp_get (C := R_M) (T := F_M) (N := 31) (v := .ref rs) hx hb hg i_M hown hK.va hI j_o rfl 30 (by decide) (hg _ q_834) (fun _ h9 => h9) rfl d_M_sixteenTimes_174 ?_
    refine lv_bipush (v := nI 16) hx hb d_M_sixteenTimes_177 (by decide) ?_
    refine lv_iload hx hb d_M_sixteenTimes_179 (lv_at hl 3 rfl) ?_
    refine lv_imul hx hb d_M_sixteenTimes_181 ?_
    refine lv_topi (fun v3 ev3 => ?_)
    obtain rfl : v3 = nI (16 * r9) := ev3.trans (pk_mul _ _)
    refine lv_iload hx hb d_M_sixteenTimes_182 (lv_at hl 2 rfl) ?_
    refine lv_iadd hx hb d_M_sixteenTimes_184 ?_
    refine lv_topi (fun v4 ev4 => ?_)
    obtain rfl : v4 = nI ((16 * r9) + i) := ev4.trans (nI_add _ _)
    refine lv_iload hx hb d_M_sixteenTimes_185 (lv_at hl 1 rfl) ?_
    refine lv_topi (fun v5 ev5 => ?_)
    obtain rfl : v5 = nI ((mmt s9 (fun a b => SQ (16 * a + b)) (fun a b => SQ (16 * a + b))) r9 i).val := ev5.trans (by rw [hx8]; rfl)
    refine mp_iast hx hb hK.va hI 0 j_rs rfl (vp_in_nI (show (16 * r9) + i < 256 by omega) (by omega)) d_M_sixteenTimes_187 (fun S6 H7 locs e_8 hI => ?_)
    have j_rs_o := j_rs
    have e_8 : S6 = va_up S1 rs (some (2022, .inl ((g 0), 256, .inl (upd (fun j => nI (RS j).val) (nI ((16 * r9) + i)).toNatClampNeg (nI ((mmt s9 (fun a b => SQ (16 * a + b)) (fun a b => SQ (16 * a + b))) r9 i).val))))) := e_8
    have j_o : S6 o = some (2000, .inr (10, [mv0, mv1, mv2, mv3, mv4, mv5, mv6, mv7, mv8, mv9, mv10, mv11, mv12, mv13, .int (nI s9), mv15, .ref ta, mv17, mv18, mv19, mv20, mv21, mv22, mv23, mv24, mv25, mv26, .ref ro, mv28, .ref sq, .ref rs])) := by rw [e_8]; exact mp_keep j_o j_rs (by decide)
    have j_ta : S6 ta = some (2009, .inl ((g 0), 768, .inl (fun j => nI (TB j).val))) := by rw [e_8]; exact mp_keep j_ta j_rs (by decide)
    have j_sq : S6 sq = some (2021, .inl ((g 0), 256, .inl (fun j => nI (SQ j).val))) := by rw [e_8]; exact mp_keep j_sq j_rs (by decide)
    have j_ro : S6 ro = some (2019, .inl ((g 0), 1700, .inl (fun j => nI (RW j).val))) := by rw [e_8]; exact mp_keep j_ro j_rs (by decide)
    have j_rs : S6 rs = some (2022, .inl ((g 0), 256, .inl (upd (fun j => nI (RS j).val) (nI ((16 * r9) + i)).toNatClampNeg (nI ((mmt s9 (fun a b => SQ (16 * a + b)) (fun a b => SQ (16 * a + b))) r9 i).val)))) := by rw [e_8]; exact mp_us _ _ _
    have hfr : ∀ b t e9, B b = some (t, e9) → (t ≠ 2021) → (t ≠ 2022) → (t ≠ 2019) → S6 b = some (t, e9) := fun b t e9 h9 k0 k1 k2 => by rw [e_8]; exact mp_keep (hfr b t e9 h9 k0 k1 k2) j_rs_o (by omega)
    rw [nI_clamp (by omega), nIv_up] at j_rs
    refine lv_iinc (v := nI (i + 1)) (lv' := [(6, .int (nI (i + 1))), (8, .int (nI s9)), (7, .int (nI (x9).val)), (5, .int (nI r9)), (4, .int (nI n9)), (3, .int (nI f9)), (2, .int (nI (ζ9).val)), (1, .int (nI l9)), (0, .ref o)]) hx hb d_M_sixteenTimes_188 hl (k := 2) rfl (nI_1 _) (by decide) rfl (fun ls hl => ?_)
    refine lv_goto (tgt := 107) hx hb d_M_sixteenTimes_191 (by decide) ?_
    exact ih (i + 1) (va_up RS (16 * r9 + i) ((mmt s9 (fun a b => SQ (16 * a + b)) (fun a b => SQ (16 * a + b))) r9 i)) S6 H7 locs ls (by omega) (grI_up hg9 hs (by omega) (by omega)) j_o j_ta j_sq j_rs j_ro hfr hI (lv_sub hl [0, 3, 4, 5, 6, 7, 8] rfl) kx
set_option maxHeartbeats 4000000 in
set_option maxRecDepth 100000 in
theorem lp_M_st5 {p : Program} {l : Launch} {e : Env} {R : Room} {s : State} {m : MethodId} {args : Array Value} {below : List Frame} {meth : Method} {c : Code} {Q : State → Prop} {D : mp_G} {g : Nat → ClassId} {A : Nat → Prop} {cells slots : Nat} (hx : p.tables.exec = Jvm.exec) (hb : c.code = b_M_sixteenTimes) (hml : c.maxLocals = 9) (hg : ∀ w ∈ gw, w.before args s = true) (hown : s.vm.findClass R_M = some m.cls) (hK : mp_K D classes (tys g) s) (hRf : 1 ≤ R.frames) (hRl : 21 ≤ R.locals) (hRc : cells ≤ R.cells) (hRs : slots ≤ R.slots) {B : mp_M} {o ta sq rs ro s9 l9 f9 : Nat} {mv0 mv1 mv2 mv3 mv4 mv5 mv6 mv7 mv8 mv9 mv10 mv11 mv12 mv13 mv15 mv17 mv18 mv19 mv20 mv21 mv22 mv23 mv24 mv25 mv26 mv28 : Value} {TB : Nat → fF} {ζ9 : fF} {SQ RW : Nat → fF} {n9 : Nat} (hs : s9 ≤ 16) (hl9 : l9 < 3) (hf9 : f9 + s9 ≤ 48) : ∀ (k : Nat) (i : Nat) (RS : Nat → fF) (S : mp_M) (H : Heap) (locs : List Loc) (ls : Array Slot), i + k = s9 → (grI 0 s9 (mmt s9 (fun a b => SQ (16 * a + b)) (fun a b => SQ (16 * a + b))) i 0 RS) → S o = some (2000, .inr (10, [mv0, mv1, mv2, mv3, mv4, mv5, mv6, mv7, mv8, mv9, mv10, mv11, mv12, mv13, .int (nI s9), mv15, .ref ta, mv17, mv18, mv19, mv20, mv21, mv22, mv23, mv24, mv25, mv26, .ref ro, mv28, .ref sq, .ref rs])) → S ta = some (2009, .inl ((g 0), 768, .inl (fun j => nI (TB j).val))) → S sq = some (2021, .inl ((g 0), 256, .inl (fun j => nI (SQ j).val))) → S rs = some (2022, .inl ((g 0), 256, .inl (fun j => nI (RS j).val))) → S ro = some (2019, .inl ((g 0), 1700, .inl (fun j => nI (RW j).val))) → (∀ b t e9, B b = some (t, e9) → (t ≠ 2021) → (t ≠ 2022) → (t ≠ 2019) → S b = some (t, e9)) → mp_I D classes A s.heap S H locs → lv_has ls 9 [(5, .int (nI i)), (4, .int (nI n9)), (3, .int (nI f9)), (2, .int (nI (ζ9).val)), (1, .int (nI l9)), (0, .ref o)] → (∀ (RS : Nat → fF) (S : mp_M) (H : Heap) (locs : List Loc) (ls : Array Slot), (grI 0 s9 (mmt s9 (fun a b => SQ (16 * a + b)) (fun a b => SQ (16 * a + b))) s9 0 RS) → S o = some (2000, .inr (10, [mv0, mv1, mv2, mv3, mv4, mv5, mv6, mv7, mv8, mv9, mv10, mv11, mv12, mv13, .int (nI s9), mv15, .ref ta, mv17, mv18, mv19, mv20, mv21, mv22, mv23, mv24, mv25, mv26, .ref ro, mv28, .ref sq, .ref rs])) → S ta = some (2009, .inl ((g 0), 768, .inl (fun j => nI (TB j).val))) → S sq = some (2021, .inl ((g 0), 256, .inl (fun j => nI (SQ j).val))) → S rs = some (2022, .inl ((g 0), 256, .inl (fun j => nI (RS j).val))) → S ro = some (2019, .inl ((g 0), 1700, .inl (fun j => nI (RW j).val))) → (∀ b t e9, B b = some (t, e9) → (t ≠ 2021) → (t ≠ 2022) → (t ≠ 2019) → S b = some (t, e9)) → mp_I D classes A s.heap S H locs → lv_has ls 9 [(5, .int (nI s9)), (4, .int (nI n9)), (3, .int (nI f9)), (2, .int (nI (ζ9).val)), (1, .int (nI l9)), (0, .ref o)] → W p l e R s m args below meth c H locs cells slots Q (F0 m 200 ls [])) → W p l e R s m args below meth c H locs cells slots Q (F0 m 95 ls []) := by
  intro k
  induction k with
  | zero =>
    intro i RS S H locs ls hi hg9 h_o h_ta h_sq h_rs h_ro hfr hI hl kx
    refine lv_iload hx hb d_M_sixteenTimes_95 (lv_at hl 0 rfl) ?_
    refine lv_aload_n hx hb d_M_sixteenTimes_97 rfl (lv_at hl 5 rfl) ?_
    refine mp_get (C := R_M) (T := F_M) (N := 31) (v := .int (nI s9)) hx hb hg i_M hown hK.va hI h_o rfl 14 (by decide) (hg _ q_818) (fun _ h9 => h9) rfl d_M_sixteenTimes_98 ?_
    refine lv_icmp_ge (tgt := 200) hx hb d_M_sixteenTimes_101 (by decide) (fun _ => ?_) (fun h9 => absurd ((nI_leI (by omega) (by omega)).mpr (by omega)) h9)
    obtain rfl : i = s9 := by omega
    exact kx RS S H locs ls hg9 h_o h_ta h_sq h_rs h_ro hfr hI (lv_sub hl [0, 1, 2, 3, 4, 5] rfl)
  | succ k ih =>
    intro i RS S H locs ls hi hg9 h_o h_ta h_sq h_rs h_ro hfr hI hl kx
    refine lv_iload hx hb d_M_sixteenTimes_95 (lv_at hl 0 rfl) ?_
    refine lv_aload_n hx hb d_M_sixteenTimes_97 rfl (lv_at hl 5 rfl) ?_
    refine mp_get (C := R_M) (T := F_M) (N := 31) (v := .int (nI s9)) hx hb hg i_M hown hK.va hI h_o rfl 14 (by decide) (hg _ q_818) (fun _ h9 => h9) rfl d_M_sixteenTimes_98 ?_
    refine lv_icmp_ge (tgt := 200) hx hb d_M_sixteenTimes_101 (by decide) (fun h9 => absurd h9 (by rw [nI_leI (by omega) (by omega)]; omega)) (fun _ => ?_)
    refine lv_iconst (v := nI 0) hx hb d_M_sixteenTimes_104 (by decide) ?_
    refine lv_istore (lv' := [(6, .int (nI 0)), (5, .int (nI i)), (4, .int (nI n9)), (3, .int (nI f9)), (2, .int (nI (ζ9).val)), (1, .int (nI l9)), (0, .ref o)]) hx hb d_M_sixteenTimes_105 hl (by decide) rfl (fun ls hl => ?_)
    refine lp_M_st4 (B := B) (o := o) (ta := ta) (sq := sq) (rs := rs) (ro := ro) (s9 := s9) (l9 := l9) (f9 := f9) (mv0 := mv0) (mv1 := mv1) (mv2 := mv2) (mv3 := mv3) (mv4 := mv4) (mv5 := mv5) (mv6 := mv6) (mv7 := mv7) (mv8 := mv8) (mv9 := mv9) (mv10 := mv10) (mv11 := mv11) (mv12 := mv12) (mv13 := mv13) (mv15 := mv15) (mv17 := mv17) (mv18 := mv18) (mv19 := mv19) (mv20 := mv20) (mv21 := mv21) (mv22 := mv22) (mv23 := mv23) (mv24 := mv24) (mv25 := mv25) (mv26 := mv26) (mv28 := mv28) (TB := TB) (ζ9 := ζ9) (SQ := SQ) (RW := RW) (n9 := n9) (r9 := i) hx hb hml hg hown hK (Nat.le_trans (Nat.le_of_ble_eq_true rfl) hRf) (Nat.le_trans (Nat.le_of_ble_eq_true rfl) hRl) (by omega) (by omega) hs hl9 hf9 (by omega) s9 0 RS S H _ ls (by omega) hg9 h_o h_ta h_sq h_rs h_ro hfr hI (lv_sub hl [0, 1, 2, 3, 4, 5, 6] rfl) (fun RS2 S1 H2 locs ls hg8 j_o j_ta j_sq j_rs j_ro hfr hI hl => ?_)
    refine lv_iinc (v := nI (i + 1)) (lv' := [(5, .int (nI (i + 1))), (6, .int (nI s9)), (4, .int (nI n9)), (3, .int (nI f9)), (2, .int (nI (ζ9).val)), (1, .int (nI l9)), (0, .ref o)]) hx hb d_M_sixteenTimes_194 hl (k := 1) rfl (nI_1 _) (by decide) rfl (fun ls hl => ?_)
    refine lv_goto (tgt := 95) hx hb d_M_sixteenTimes_197 (by decide) ?_
    exact ih (i + 1) RS2 S1 H2 locs ls (by omega) (grI_next hg8) j_o j_ta j_sq j_rs j_ro hfr hI (lv_sub hl [0, 2, 3, 4, 5, 6] rfl) kx
set_option maxHeartbeats 4000000 in
set_option maxRecDepth 100000 in
theorem lp_M_st6 {p : Program} {l : Launch} {e : Env} {R : Room} {s : State} {m : MethodId} {args : Array Value} {below : List Frame} {meth : Method} {c : Code} {Q : State → Prop} {D : mp_G} {g : Nat → ClassId} {A : Nat → Prop} {cells slots : Nat} (hx : p.tables.exec = Jvm.exec) (hb : c.code = b_M_sixteenTimes) (hml : c.maxLocals = 9) (hg : ∀ w ∈ gw, w.before args s = true) (hown : s.vm.findClass R_M = some m.cls) (hK : mp_K D classes (tys g) s) (hRf : 1 ≤ R.frames) (hRl : 21 ≤ R.locals) (hRc : cells ≤ R.cells) (hRs : slots ≤ R.slots) {B : mp_M} {o ta sq rs ro s9 l9 f9 : Nat} {mv0 mv1 mv2 mv3 mv4 mv5 mv6 mv7 mv8 mv9 mv10 mv11 mv12 mv13 mv15 mv17 mv18 mv19 mv20 mv21 mv22 mv23 mv24 mv25 mv26 mv28 : Value} {TB : Nat → fF} {ζ9 : fF} {SQ RS RW : Nat → fF} {n9 : Nat} (hs : s9 ≤ 16) (hl9 : l9 < 3) (hf9 : f9 + s9 ≤ 48) : ∀ (k : Nat) (i : Nat) (S : mp_M) (H : Heap) (locs : List Loc) (ls : Array Slot), i + k = 256 → S o = some (2000, .inr (10, [mv0, mv1, mv2, mv3, mv4, mv5, mv6, mv7, mv8, mv9, mv10, mv11, mv12, mv13, .int (nI s9), mv15, .ref ta, mv17, mv18, mv19, mv20, mv21, mv22, mv23, mv24, mv25, mv26, .ref ro, mv28, .ref sq, .ref rs])) → S ta = some (2009, .inl ((g 0), 768, .inl (fun j => nI (TB j).val))) → S sq = some (2021, .inl ((g 0), 256, .inl (fun j => nI ((mgF i RS SQ) j).val))) → S rs = some (2022, .inl ((g 0), 256, .inl (fun j => nI (RS j).val))) → S ro = some (2019, .inl ((g 0), 1700, .inl (fun j => nI (RW j).val))) → (∀ b t e9, B b = some (t, e9) → (t ≠ 2021) → (t ≠ 2022) → (t ≠ 2019) → S b = some (t, e9)) → mp_I D classes A s.heap S H locs → lv_has ls 9 [(5, .int (nI i)), (4, .int (nI n9)), (3, .int (nI f9)), (2, .int (nI (ζ9).val)), (1, .int (nI l9)), (0, .ref o)] → (∀ (S : mp_M) (H : Heap) (locs : List Loc) (ls : Array Slot), S o = some (2000, .inr (10, [mv0, mv1, mv2, mv3, mv4, mv5, mv6, mv7, mv8, mv9, mv10, mv11, mv12, mv13, .int (nI s9), mv15, .ref ta, mv17, mv18, mv19, mv20, mv21, mv22, mv23, mv24, mv25, mv26, .ref ro, mv28, .ref sq, .ref rs])) → S ta = some (2009, .inl ((g 0), 768, .inl (fun j => nI (TB j).val))) → S sq = some (2021, .inl ((g 0), 256, .inl (fun j => nI ((mgF 256 RS SQ) j).val))) → S rs = some (2022, .inl ((g 0), 256, .inl (fun j => nI (RS j).val))) → S ro = some (2019, .inl ((g 0), 1700, .inl (fun j => nI (RW j).val))) → (∀ b t e9, B b = some (t, e9) → (t ≠ 2021) → (t ≠ 2022) → (t ≠ 2019) → S b = some (t, e9)) → mp_I D classes A s.heap S H locs → lv_has ls 9 [(5, .int (nI 256)), (4, .int (nI n9)), (3, .int (nI f9)), (2, .int (nI (ζ9).val)), (1, .int (nI l9)), (0, .ref o)] → W p l e R s m args below meth c H locs cells slots Q (F0 m 231 ls [])) → W p l e R s m args below meth c H locs cells slots Q (F0 m 203 ls []) := by
  intro k
  induction k with
  | zero =>
    intro i S H locs ls hi h_o h_ta h_sq h_rs h_ro hfr hI hl kx
    refine lv_iload hx hb d_M_sixteenTimes_203 (lv_at hl 0 rfl) ?_
    refine lv_sipush (v := nI 256) hx hb d_M_sixteenTimes_205 (by decide) ?_
    refine lv_icmp_ge (tgt := 231) hx hb d_M_sixteenTimes_208 (by decide) (fun _ => ?_) (fun h9 => absurd ((nI_leI (by omega) (by omega)).mpr (by omega)) h9)
    obtain rfl : i = 256 := by omega
    exact kx S H locs ls h_o h_ta h_sq h_rs h_ro hfr hI (lv_sub hl [0, 1, 2, 3, 4, 5] rfl)
  | succ k ih =>
    intro i S H locs ls hi h_o h_ta h_sq h_rs h_ro hfr hI hl kx
    refine lv_iload hx hb d_M_sixteenTimes_203 (lv_at hl 0 rfl) ?_
    refine lv_sipush (v := nI 256) hx hb d_M_sixteenTimes_205 (by decide) ?_
    refine lv_icmp_ge (tgt := 231) hx hb d_M_sixteenTimes_208 (by decide) (fun h9 => absurd h9 (by rw [nI_leI (by omega) (by omega)]; omega)) (fun _ => ?_)
    refine lv_aload_n hx hb d_M_sixteenTimes_211 rfl (lv_at hl 5 rfl) ?_
    refine mp_get (C := R_M) (T := F_M) (N := 31) (v := .ref sq) hx hb hg i_M hown hK.va hI h_o rfl 29 (by decide) (hg _ q_833) (fun _ h9 => h9) rfl d_M_sixteenTimes_212 ?_
    refine lv_iload hx hb d_M_sixteenTimes_215 (lv_at hl 0 rfl) ?_
    refine lv_aload_n hx hb d_M_sixteenTimes_217 rfl (lv_at hl 5 rfl) ?_
    refine mp_get (C := R_M) (T := F_M) (N := 31) (v := .ref rs) hx hb hg i_M hown hK.va hI h_o rfl 30 (by decide) (hg _ q_834) (fun _ h9 => h9) rfl d_M_sixteenTimes_218 ?_
    refine lv_iload hx hb d_M_sixteenTimes_221 (lv_at hl 0 rfl) ?_
    refine mp_iald hx hb hK.va hI 0 h_rs rfl (vp_in_nI (show i < 256 by omega) (by omega)) d_M_sixteenTimes_223 ?_
    refine lv_topi (fun v1 ev1 => ?_)
    obtain rfl : v1 = nI (RS i).val := ev1.trans (by rw [nI_clamp (by omega)])
    refine mp_iast hx hb hK.va hI 0 h_sq rfl (vp_in_nI (show i < 256 by omega) (by omega)) d_M_sixteenTimes_224 (fun S2 H3 locs e_4 hI => ?_)
    have h_sq_o := h_sq
    have e_4 : S2 = va_up S sq (some (2021, .inl ((g 0), 256, .inl (upd (fun j => nI ((mgF i RS SQ) j).val) (nI i).toNatClampNeg (nI (RS i).val))))) := e_4
    have h_o : S2 o = some (2000, .inr (10, [mv0, mv1, mv2, mv3, mv4, mv5, mv6, mv7, mv8, mv9, mv10, mv11, mv12, mv13, .int (nI s9), mv15, .ref ta, mv17, mv18, mv19, mv20, mv21, mv22, mv23, mv24, mv25, mv26, .ref ro, mv28, .ref sq, .ref rs])) := by rw [e_4]; exact mp_keep h_o h_sq (by decide)
    have h_ta : S2 ta = some (2009, .inl ((g 0), 768, .inl (fun j => nI (TB j).val))) := by rw [e_4]; exact mp_keep h_ta h_sq (by decide)
    have h_rs : S2 rs = some (2022, .inl ((g 0), 256, .inl (fun j => nI (RS j).val))) := by rw [e_4]; exact mp_keep h_rs h_sq (by decide)
    have h_ro : S2 ro = some (2019, .inl ((g 0), 1700, .inl (fun j => nI (RW j).val))) := by rw [e_4]; exact mp_keep h_ro h_sq (by decide)
    have h_sq : S2 sq = some (2021, .inl ((g 0), 256, .inl (upd (fun j => nI ((mgF i RS SQ) j).val) (nI i).toNatClampNeg (nI (RS i).val)))) := by rw [e_4]; exact mp_us _ _ _
    have hfr : ∀ b t e9, B b = some (t, e9) → (t ≠ 2021) → (t ≠ 2022) → (t ≠ 2019) → S2 b = some (t, e9) := fun b t e9 h9 k0 k1 k2 => by rw [e_4]; exact mp_keep (hfr b t e9 h9 k0 k1 k2) h_sq_o (by omega)
    rw [nI_clamp (by omega), nIv_up] at h_sq
    have e9h_sq : (fun j => nI (va_up (mgF i RS SQ) i (RS i) j).val) = (fun j => nI ((mgF (i + 1) RS SQ) j).val) := by rw [mgF_up]
    rw [e9h_sq] at h_sq
    refine lv_iinc (v := nI (i + 1)) (lv' := [(5, .int (nI (i + 1))), (4, .int (nI n9)), (3, .int (nI f9)), (2, .int (nI (ζ9).val)), (1, .int (nI l9)), (0, .ref o)]) hx hb d_M_sixteenTimes_225 hl (k := 0) rfl (nI_1 _) (by decide) rfl (fun ls hl => ?_)
    refine lv_goto (tgt := 203) hx hb d_M_sixteenTimes_228 (by decide) ?_
    exact ih (i + 1) S2 H3 locs ls (by omega) h_o h_ta h_sq h_rs h_ro hfr hI (lv_sub hl [0, 1, 2, 3, 4, 5] rfl) kx
set_option maxHeartbeats 4000000 in
set_option maxRecDepth 100000 in
theorem lp_M_st7 {p : Program} {l : Launch} {e : Env} {R : Room} {s : State} {m : MethodId} {args : Array Value} {below : List Frame} {meth : Method} {c : Code} {Q : State → Prop} {D : mp_G} {g : Nat → ClassId} {A : Nat → Prop} {cells slots : Nat} (hx : p.tables.exec = Jvm.exec) (hb : c.code = b_M_sixteenTimes) (hml : c.maxLocals = 9) (hg : ∀ w ∈ gw, w.before args s = true) (hown : s.vm.findClass R_M = some m.cls) (hK : mp_K D classes (tys g) s) (hRf : 1 ≤ R.frames) (hRl : 21 ≤ R.locals) (hRc : cells ≤ R.cells) (hRs : slots ≤ R.slots) {B : mp_M} {o ta sq rs ro s9 l9 f9 : Nat} {mv0 mv1 mv2 mv3 mv4 mv5 mv6 mv7 mv8 mv9 mv10 mv11 mv12 mv13 mv15 mv17 mv18 mv19 mv20 mv21 mv22 mv23 mv24 mv25 mv26 mv28 : Value} {TB : Nat → fF} {ζ9 : fF} {RW : Nat → fF} (hs : s9 ≤ 16) (hl9 : l9 < 3) (hf9 : f9 + s9 ≤ 48) : ∀ (k : Nat) (i : Nat) (SQ : Nat → fF) (RS : Nat → fF) (S : mp_M) (H : Heap) (locs : List Loc) (ls : Array Slot), i + k = 4 → (∀ a b, a < s9 → b < s9 → SQ (16 * a + b) = sqm s9 (mzt (tbM TB l9) ζ9) i a b) → S o = some (2000, .inr (10, [mv0, mv1, mv2, mv3, mv4, mv5, mv6, mv7, mv8, mv9, mv10, mv11, mv12, mv13, .int (nI s9), mv15, .ref ta, mv17, mv18, mv19, mv20, mv21, mv22, mv23, mv24, mv25, mv26, .ref ro, mv28, .ref sq, .ref rs])) → S ta = some (2009, .inl ((g 0), 768, .inl (fun j => nI (TB j).val))) → S sq = some (2021, .inl ((g 0), 256, .inl (fun j => nI (SQ j).val))) → S rs = some (2022, .inl ((g 0), 256, .inl (fun j => nI (RS j).val))) → S ro = some (2019, .inl ((g 0), 1700, .inl (fun j => nI (RW j).val))) → (∀ b t e9, B b = some (t, e9) → (t ≠ 2021) → (t ≠ 2022) → (t ≠ 2019) → S b = some (t, e9)) → mp_I D classes A s.heap S H locs → lv_has ls 9 [(4, .int (nI i)), (3, .int (nI f9)), (2, .int (nI (ζ9).val)), (1, .int (nI l9)), (0, .ref o)] → (∀ (SQ : Nat → fF) (RS : Nat → fF) (S : mp_M) (H : Heap) (locs : List Loc) (ls : Array Slot), (∀ a b, a < s9 → b < s9 → SQ (16 * a + b) = sqm s9 (mzt (tbM TB l9) ζ9) 4 a b) → S o = some (2000, .inr (10, [mv0, mv1, mv2, mv3, mv4, mv5, mv6, mv7, mv8, mv9, mv10, mv11, mv12, mv13, .int (nI s9), mv15, .ref ta, mv17, mv18, mv19, mv20, mv21, mv22, mv23, mv24, mv25, mv26, .ref ro, mv28, .ref sq, .ref rs])) → S ta = some (2009, .inl ((g 0), 768, .inl (fun j => nI (TB j).val))) → S sq = some (2021, .inl ((g 0), 256, .inl (fun j => nI (SQ j).val))) → S rs = some (2022, .inl ((g 0), 256, .inl (fun j => nI (RS j).val))) → S ro = some (2019, .inl ((g 0), 1700, .inl (fun j => nI (RW j).val))) → (∀ b t e9, B b = some (t, e9) → (t ≠ 2021) → (t ≠ 2022) → (t ≠ 2019) → S b = some (t, e9)) → mp_I D classes A s.heap S H locs → lv_has ls 9 [(4, .int (nI 4)), (3, .int (nI f9)), (2, .int (nI (ζ9).val)), (1, .int (nI l9)), (0, .ref o)] → W p l e R s m args below meth c H locs cells slots Q (F0 m 237 ls [])) → W p l e R s m args below meth c H locs cells slots Q (F0 m 86 ls []) := by
  intro k
  induction k with
  | zero =>
    intro i SQ RS S H locs ls hi hsq h_o h_ta h_sq h_rs h_ro hfr hI hl kx
    refine lv_iload hx hb d_M_sixteenTimes_86 (lv_at hl 0 rfl) ?_
    refine lv_iconst (v := nI 4) hx hb d_M_sixteenTimes_88 (by decide) ?_
    refine lv_icmp_ge (tgt := 237) hx hb d_M_sixteenTimes_89 (by decide) (fun _ => ?_) (fun h9 => absurd ((nI_leI (by omega) (by omega)).mpr (by omega)) h9)
    obtain rfl : i = 4 := by omega
    exact kx SQ RS S H locs ls hsq h_o h_ta h_sq h_rs h_ro hfr hI (lv_sub hl [0, 1, 2, 3, 4] rfl)
  | succ k ih =>
    intro i SQ RS S H locs ls hi hsq h_o h_ta h_sq h_rs h_ro hfr hI hl kx
    refine lv_iload hx hb d_M_sixteenTimes_86 (lv_at hl 0 rfl) ?_
    refine lv_iconst (v := nI 4) hx hb d_M_sixteenTimes_88 (by decide) ?_
    refine lv_icmp_ge (tgt := 237) hx hb d_M_sixteenTimes_89 (by decide) (fun h9 => absurd h9 (by rw [nI_leI (by omega) (by omega)]; omega)) (fun _ => ?_)
    refine lv_iconst (v := nI 0) hx hb d_M_sixteenTimes_92 (by decide) ?_
    refine lv_istore (lv' := [(5, .int (nI 0)), (4, .int (nI i)), (3, .int (nI f9)), (2, .int (nI (ζ9).val)), (1, .int (nI l9)), (0, .ref o)]) hx hb d_M_sixteenTimes_93 hl (by decide) rfl (fun ls hl => ?_)
    refine lp_M_st5 (B := B) (o := o) (ta := ta) (sq := sq) (rs := rs) (ro := ro) (s9 := s9) (l9 := l9) (f9 := f9) (mv0 := mv0) (mv1 := mv1) (mv2 := mv2) (mv3 := mv3) (mv4 := mv4) (mv5 := mv5) (mv6 := mv6) (mv7 := mv7) (mv8 := mv8) (mv9 := mv9) (mv10 := mv10) (mv11 := mv11) (mv12 := mv12) (mv13 := mv13) (mv15 := mv15) (mv17 := mv17) (mv18 := mv18) (mv19 := mv19) (mv20 := mv20) (mv21 := mv21) (mv22 := mv22) (mv23 := mv23) (mv24 := mv24) (mv25 := mv25) (mv26 := mv26) (mv28 := mv28) (TB := TB) (ζ9 := ζ9) (SQ := SQ) (RW := RW) (n9 := i) hx hb hml hg hown hK (Nat.le_trans (Nat.le_of_ble_eq_true rfl) hRf) (Nat.le_trans (Nat.le_of_ble_eq_true rfl) hRl) (by omega) (by omega) hs hl9 hf9 s9 0 RS S H _ ls (by omega) (grI_0 _ _ _ _) h_o h_ta h_sq h_rs h_ro hfr hI (lv_sub hl [0, 1, 2, 3, 4, 5] rfl) (fun RS2 S1 H2 locs ls hg8 h_o h_ta h_sq h_rs h_ro hfr hI hl => ?_)
    refine lv_iconst (v := nI 0) hx hb d_M_sixteenTimes_200 (by decide) ?_
    refine lv_istore (lv' := [(5, .int (nI 0)), (4, .int (nI i)), (3, .int (nI f9)), (2, .int (nI (ζ9).val)), (1, .int (nI l9)), (0, .ref o)]) hx hb d_M_sixteenTimes_201 hl (by decide) rfl (fun ls hl => ?_)
    rw [← mgF_0 RS2 SQ] at h_sq
    refine lp_M_st6 (B := B) (o := o) (ta := ta) (sq := sq) (rs := rs) (ro := ro) (s9 := s9) (l9 := l9) (f9 := f9) (mv0 := mv0) (mv1 := mv1) (mv2 := mv2) (mv3 := mv3) (mv4 := mv4) (mv5 := mv5) (mv6 := mv6) (mv7 := mv7) (mv8 := mv8) (mv9 := mv9) (mv10 := mv10) (mv11 := mv11) (mv12 := mv12) (mv13 := mv13) (mv15 := mv15) (mv17 := mv17) (mv18 := mv18) (mv19 := mv19) (mv20 := mv20) (mv21 := mv21) (mv22 := mv22) (mv23 := mv23) (mv24 := mv24) (mv25 := mv25) (mv26 := mv26) (mv28 := mv28) (TB := TB) (ζ9 := ζ9) (SQ := SQ) (RS := RS2) (RW := RW) (n9 := i) hx hb hml hg hown hK (Nat.le_trans (Nat.le_of_ble_eq_true rfl) hRf) (Nat.le_trans (Nat.le_of_ble_eq_true rfl) hRl) (by omega) (by omega) hs hl9 hf9 256 0 S1 H2 _ ls (by omega) h_o h_ta h_sq h_rs h_ro hfr hI (lv_sub hl [0, 1, 2, 3, 4, 5] rfl) (fun S3 H4 locs ls h_o h_ta h_sq h_rs h_ro hfr hI hl => ?_)
    refine lv_iinc (v := nI (i + 1)) (lv' := [(4, .int (nI (i + 1))), (5, .int (nI 256)), (3, .int (nI f9)), (2, .int (nI (ζ9).val)), (1, .int (nI l9)), (0, .ref o)]) hx hb d_M_sixteenTimes_231 hl (k := 1) rfl (nI_1 _) (by decide) rfl (fun ls hl => ?_)
    refine lv_goto (tgt := 86) hx hb d_M_sixteenTimes_234 (by decide) ?_
    exact ih (i + 1) (mgF 256 RS2 SQ) RS2 S3 H4 locs ls (by omega) (fun a b ha hb => by rw [mgF_lt (by omega), show 16 * a + b = 16 * (0 + a) + b by omega, grI_at hg8 ha hb]; exact sm_cg (fun k hk => by show SQ (16 * a + k) * SQ (16 * k + b) = _; rw [hsq a k ha hk, hsq k b hk hb])) h_o h_ta h_sq h_rs h_ro hfr hI (lv_sub hl [0, 2, 3, 4, 5] rfl) kx
set_option maxHeartbeats 4000000 in
set_option maxRecDepth 100000 in
theorem lp_M_st8 {p : Program} {l : Launch} {e : Env} {R : Room} {s : State} {m : MethodId} {args : Array Value} {below : List Frame} {meth : Method} {c : Code} {Q : State → Prop} {D : mp_G} {g : Nat → ClassId} {A : Nat → Prop} {cells slots : Nat} (hx : p.tables.exec = Jvm.exec) (hb : c.code = b_M_sixteenTimes) (hml : c.maxLocals = 9) (hg : ∀ w ∈ gw, w.before args s = true) (hown : s.vm.findClass R_M = some m.cls) (hK : mp_K D classes (tys g) s) (hRf : 1 ≤ R.frames) (hRl : 21 ≤ R.locals) (hRc : cells ≤ R.cells) (hRs : slots ≤ R.slots) {B : mp_M} {o ta sq rs ro s9 l9 f9 : Nat} {mv0 mv1 mv2 mv3 mv4 mv5 mv6 mv7 mv8 mv9 mv10 mv11 mv12 mv13 mv15 mv17 mv18 mv19 mv20 mv21 mv22 mv23 mv24 mv25 mv26 mv28 : Value} {TB : Nat → fF} {ζ9 : fF} {SQ RS RQ : Nat → fF} {r9 : Nat} (hs : s9 ≤ 16) (hl9 : l9 < 3) (hf9 : f9 + s9 ≤ 48) (hr9 : r9 < s9) : ∀ (k : Nat) (i : Nat) (RW : Nat → fF) (S : mp_M) (H : Heap) (locs : List Loc) (ls : Array Slot), i + k = s9 → (grI f9 s9 (fun a b => SQ (16 * a + b)) r9 i RW) → (∀ q, q < 16 * f9 → RW q = RQ q) → S o = some (2000, .inr (10, [mv0, mv1, mv2, mv3, mv4, mv5, mv6, mv7, mv8, mv9, mv10, mv11, mv12, mv13, .int (nI s9), mv15, .ref ta, mv17, mv18, mv19, mv20, mv21, mv22, mv23, mv24, mv25, mv26, .ref ro, mv28, .ref sq, .ref rs])) → S ta = some (2009, .inl ((g 0), 768, .inl (fun j => nI (TB j).val))) → S sq = some (2021, .inl ((g 0), 256, .inl (fun j => nI (SQ j).val))) → S rs = some (2022, .inl ((g 0), 256, .inl (fun j => nI (RS j).val))) → S ro = some (2019, .inl ((g 0), 1700, .inl (fun j => nI (RW j).val))) → (∀ b t e9, B b = some (t, e9) → (t ≠ 2021) → (t ≠ 2022) → (t ≠ 2019) → S b = some (t, e9)) → mp_I D classes A s.heap S H locs → lv_has ls 9 [(5, .int (nI i)), (4, .int (nI r9)), (3, .int (nI f9)), (2, .int (nI (ζ9).val)), (1, .int (nI l9)), (0, .ref o)] → (∀ (RW : Nat → fF) (S : mp_M) (H : Heap) (locs : List Loc) (ls : Array Slot), (grI f9 s9 (fun a b => SQ (16 * a + b)) r9 s9 RW) → (∀ q, q < 16 * f9 → RW q = RQ q) → S o = some (2000, .inr (10, [mv0, mv1, mv2, mv3, mv4, mv5, mv6, mv7, mv8, mv9, mv10, mv11, mv12, mv13, .int (nI s9), mv15, .ref ta, mv17, mv18, mv19, mv20, mv21, mv22, mv23, mv24, mv25, mv26, .ref ro, mv28, .ref sq, .ref rs])) → S ta = some (2009, .inl ((g 0), 768, .inl (fun j => nI (TB j).val))) → S sq = some (2021, .inl ((g 0), 256, .inl (fun j => nI (SQ j).val))) → S rs = some (2022, .inl ((g 0), 256, .inl (fun j => nI (RS j).val))) → S ro = some (2019, .inl ((g 0), 1700, .inl (fun j => nI (RW j).val))) → (∀ b t e9, B b = some (t, e9) → (t ≠ 2021) → (t ≠ 2022) → (t ≠ 2019) → S b = some (t, e9)) → mp_I D classes A s.heap S H locs → lv_has ls 9 [(5, .int (nI s9)), (4, .int (nI r9)), (3, .int (nI f9)), (2, .int (nI (ζ9).val)), (1, .int (nI l9)), (0, .ref o)] → W p l e R s m args below meth c H locs cells slots Q (F0 m 295 ls [])) → W p l e R s m args below meth c H locs cells slots Q (F0 m 252 ls []) := by
  intro k
  induction k with
  | zero =>
    intro i RW S H locs ls hi hg9 hlo h_o h_ta h_sq h_rs h_ro hfr hI hl kx
    refine lv_iload hx hb d_M_sixteenTimes_252 (lv_at hl 0 rfl) ?_
    refine lv_aload_n hx hb d_M_sixteenTimes_254 rfl (lv_at hl 5 rfl) ?_
    refine mp_get (C := R_M) (T := F_M) (N := 31) (v := .int (nI s9)) hx hb hg i_M hown hK.va hI h_o rfl 14 (by decide) (hg _ q_818) (fun _ h9 => h9) rfl d_M_sixteenTimes_255 ?_
    refine lv_icmp_ge (tgt := 295) hx hb d_M_sixteenTimes_258 (by decide) (fun _ => ?_) (fun h9 => absurd ((nI_leI (by omega) (by omega)).mpr (by omega)) h9)
    obtain rfl : i = s9 := by omega
    exact kx RW S H locs ls hg9 hlo h_o h_ta h_sq h_rs h_ro hfr hI (lv_sub hl [0, 1, 2, 3, 4, 5] rfl)
  | succ k ih =>
    intro i RW S H locs ls hi hg9 hlo h_o h_ta h_sq h_rs h_ro hfr hI hl kx
    refine lv_iload hx hb d_M_sixteenTimes_252 (lv_at hl 0 rfl) ?_
    refine lv_aload_n hx hb d_M_sixteenTimes_254 rfl (lv_at hl 5 rfl) ?_
    refine mp_get (C := R_M) (T := F_M) (N := 31) (v := .int (nI s9)) hx hb hg i_M hown hK.va hI h_o rfl 14 (by decide) (hg _ q_818) (fun _ h9 => h9) rfl d_M_sixteenTimes_255 ?_
    refine lv_icmp_ge (tgt := 295) hx hb d_M_sixteenTimes_258 (by decide) (fun h9 => absurd h9 (by rw [nI_leI (by omega) (by omega)]; omega)) (fun _ => ?_)
    refine lv_aload_n hx hb d_M_sixteenTimes_261 rfl (lv_at hl 5 rfl) ?_
    refine mp_get (C := R_M) (T := F_M) (N := 31) (v := .ref ro) hx hb hg i_M hown hK.va hI h_o rfl 27 (by decide) (hg _ q_831) (fun _ h9 => h9) rfl d_M_sixteenTimes_262 ?_
    refine lv_bipush (v := nI 16) hx hb d_M_sixteenTimes_265 (by decide) ?_
    refine lv_iload_n hx hb d_M_sixteenTimes_267 rfl (lv_at hl 2 rfl) ?_
    refine lv_iload hx hb d_M_sixteenTimes_268 (lv_at hl 1 rfl) ?_
    refine lv_iadd hx hb d_M_sixteenTimes_270 ?_
    refine lv_topi (fun v1 ev1 => ?_)
    obtain rfl : v1 = nI (f9 + r9) := ev1.trans (nI_add _ _)
    refine lv_imul hx hb d_M_sixteenTimes_271 ?_
    refine lv_topi (fun v2 ev2 => ?_)
    obtain rfl : v2 = nI (16 * (f9 + r9)) := ev2.trans (pk_mul _ _)
    refine lv_iload hx hb d_M_sixteenTimes_272 (lv_at hl 0 rfl) ?_
    refine lv_iadd hx hb d_M_sixteenTimes_274 ?_
    refine lv_topi (fun v3 ev3 => ?_)
    obtain rfl : v3 = nI ((16 * (f9 + r9)) + i) := ev3.trans (nI_add _ _)
    refine lv_aload_n hx hb d_M_sixteenTimes_275 rfl (lv_at hl 5 rfl) ?_
    refine mp_get (C := R_M) (T := F_M) (N := 31) (v := .ref sq) hx hb hg i_M hown hK.va hI h_o rfl 29 (by decide) (hg _ q_833) (fun _ h9 => h9) rfl d_M_sixteenTimes_276 ?_
    refine lv_bipush (v := nI 16) hx hb d_M_sixteenTimes_279 (by decide) ?_
    refine lv_iload hx hb d_M_sixteenTimes_281 (lv_at hl 1 rfl) ?_
    refine lv_imul hx hb d_M_sixteenTimes_283 ?_
    refine lv_topi (fun v4 ev4 => ?_)
    obtain rfl : v4 = nI (16 * r9) := ev4.trans (pk_mul _ _)
    refine lv_iload hx hb d_M_sixteenTimes_284 (lv_at hl 0 rfl) ?_
    refine lv_iadd hx hb d_M_sixteenTimes_286 ?_
    refine lv_topi (fun v5 ev5 => ?_)
    obtain rfl : v5 = nI ((16 * r9) + i) := ev5.trans (nI_add _ _)
    refine mp_iald hx hb hK.va hI 0 h_sq rfl (vp_in_nI (show (16 * r9) + i < 256 by omega) (by omega)) d_M_sixteenTimes_287 ?_
    refine lv_topi (fun v6 ev6 => ?_)
    obtain rfl : v6 = nI (SQ ((16 * r9) + i)).val := ev6.trans (by rw [nI_clamp (by omega)])
    refine mp_iast hx hb hK.va hI 0 h_ro rfl (vp_in_nI (show (16 * (f9 + r9)) + i < 1700 by omega) (by omega)) d_M_sixteenTimes_288 (fun S7 H8 locs e_9 hI => ?_)
    have h_ro_o := h_ro
    have e_9 : S7 = va_up S ro (some (2019, .inl ((g 0), 1700, .inl (upd (fun j => nI (RW j).val) (nI ((16 * (f9 + r9)) + i)).toNatClampNeg (nI (SQ ((16 * r9) + i)).val))))) := e_9
    have h_o : S7 o = some (2000, .inr (10, [mv0, mv1, mv2, mv3, mv4, mv5, mv6, mv7, mv8, mv9, mv10, mv11, mv12, mv13, .int (nI s9), mv15, .ref ta, mv17, mv18, mv19, mv20, mv21, mv22, mv23, mv24, mv25, mv26, .ref ro, mv28, .ref sq, .ref rs])) := by rw [e_9]; exact mp_keep h_o h_ro (by decide)
    have h_ta : S7 ta = some (2009, .inl ((g 0), 768, .inl (fun j => nI (TB j).val))) := by rw [e_9]; exact mp_keep h_ta h_ro (by decide)
    have h_sq : S7 sq = some (2021, .inl ((g 0), 256, .inl (fun j => nI (SQ j).val))) := by rw [e_9]; exact mp_keep h_sq h_ro (by decide)
    have h_rs : S7 rs = some (2022, .inl ((g 0), 256, .inl (fun j => nI (RS j).val))) := by rw [e_9]; exact mp_keep h_rs h_ro (by decide)
    have h_ro : S7 ro = some (2019, .inl ((g 0), 1700, .inl (upd (fun j => nI (RW j).val) (nI ((16 * (f9 + r9)) + i)).toNatClampNeg (nI (SQ ((16 * r9) + i)).val)))) := by rw [e_9]; exact mp_us _ _ _
    have hfr : ∀ b t e9, B b = some (t, e9) → (t ≠ 2021) → (t ≠ 2022) → (t ≠ 2019) → S7 b = some (t, e9) := fun b t e9 h9 k0 k1 k2 => by rw [e_9]; exact mp_keep (hfr b t e9 h9 k0 k1 k2) h_ro_o (by omega)
    rw [nI_clamp (by omega), nIv_up] at h_ro
    refine lv_iinc (v := nI (i + 1)) (lv' := [(5, .int (nI (i + 1))), (4, .int (nI r9)), (3, .int (nI f9)), (2, .int (nI (ζ9).val)), (1, .int (nI l9)), (0, .ref o)]) hx hb d_M_sixteenTimes_289 hl (k := 0) rfl (nI_1 _) (by decide) rfl (fun ls hl => ?_)
    refine lv_goto (tgt := 252) hx hb d_M_sixteenTimes_292 (by decide) ?_
    exact ih (i + 1) (va_up RW (16 * (f9 + r9) + i) ((fun a b => SQ (16 * a + b)) r9 i)) S7 H8 locs ls (by omega) (grI_up hg9 hs (by omega) rfl) (fun q hq => by rw [mp_un (by omega)]; exact hlo q hq) h_o h_ta h_sq h_rs h_ro hfr hI (lv_sub hl [0, 1, 2, 3, 4, 5] rfl) kx
set_option maxHeartbeats 4000000 in
set_option maxRecDepth 100000 in
theorem lp_M_st9 {p : Program} {l : Launch} {e : Env} {R : Room} {s : State} {m : MethodId} {args : Array Value} {below : List Frame} {meth : Method} {c : Code} {Q : State → Prop} {D : mp_G} {g : Nat → ClassId} {A : Nat → Prop} {cells slots : Nat} (hx : p.tables.exec = Jvm.exec) (hb : c.code = b_M_sixteenTimes) (hml : c.maxLocals = 9) (hg : ∀ w ∈ gw, w.before args s = true) (hown : s.vm.findClass R_M = some m.cls) (hK : mp_K D classes (tys g) s) (hRf : 1 ≤ R.frames) (hRl : 21 ≤ R.locals) (hRc : cells ≤ R.cells) (hRs : slots ≤ R.slots) {B : mp_M} {o ta sq rs ro s9 l9 f9 : Nat} {mv0 mv1 mv2 mv3 mv4 mv5 mv6 mv7 mv8 mv9 mv10 mv11 mv12 mv13 mv15 mv17 mv18 mv19 mv20 mv21 mv22 mv23 mv24 mv25 mv26 mv28 : Value} {TB : Nat → fF} {ζ9 : fF} {SQ RS RQ : Nat → fF} (hs : s9 ≤ 16) (hl9 : l9 < 3) (hf9 : f9 + s9 ≤ 48) : ∀ (k : Nat) (i : Nat) (RW : Nat → fF) (S : mp_M) (H : Heap) (locs : List Loc) (ls : Array Slot), i + k = s9 → (grI f9 s9 (fun a b => SQ (16 * a + b)) i 0 RW) → (∀ q, q < 16 * f9 → RW q = RQ q) → S o = some (2000, .inr (10, [mv0, mv1, mv2, mv3, mv4, mv5, mv6, mv7, mv8, mv9, mv10, mv11, mv12, mv13, .int (nI s9), mv15, .ref ta, mv17, mv18, mv19, mv20, mv21, mv22, mv23, mv24, mv25, mv26, .ref ro, mv28, .ref sq, .ref rs])) → S ta = some (2009, .inl ((g 0), 768, .inl (fun j => nI (TB j).val))) → S sq = some (2021, .inl ((g 0), 256, .inl (fun j => nI (SQ j).val))) → S rs = some (2022, .inl ((g 0), 256, .inl (fun j => nI (RS j).val))) → S ro = some (2019, .inl ((g 0), 1700, .inl (fun j => nI (RW j).val))) → (∀ b t e9, B b = some (t, e9) → (t ≠ 2021) → (t ≠ 2022) → (t ≠ 2019) → S b = some (t, e9)) → mp_I D classes A s.heap S H locs → lv_has ls 9 [(4, .int (nI i)), (3, .int (nI f9)), (2, .int (nI (ζ9).val)), (1, .int (nI l9)), (0, .ref o)] → (∀ (RW : Nat → fF) (S : mp_M) (H : Heap) (locs : List Loc) (ls : Array Slot), (grI f9 s9 (fun a b => SQ (16 * a + b)) s9 0 RW) → (∀ q, q < 16 * f9 → RW q = RQ q) → S o = some (2000, .inr (10, [mv0, mv1, mv2, mv3, mv4, mv5, mv6, mv7, mv8, mv9, mv10, mv11, mv12, mv13, .int (nI s9), mv15, .ref ta, mv17, mv18, mv19, mv20, mv21, mv22, mv23, mv24, mv25, mv26, .ref ro, mv28, .ref sq, .ref rs])) → S ta = some (2009, .inl ((g 0), 768, .inl (fun j => nI (TB j).val))) → S sq = some (2021, .inl ((g 0), 256, .inl (fun j => nI (SQ j).val))) → S rs = some (2022, .inl ((g 0), 256, .inl (fun j => nI (RS j).val))) → S ro = some (2019, .inl ((g 0), 1700, .inl (fun j => nI (RW j).val))) → (∀ b t e9, B b = some (t, e9) → (t ≠ 2021) → (t ≠ 2022) → (t ≠ 2019) → S b = some (t, e9)) → mp_I D classes A s.heap S H locs → lv_has ls 9 [(4, .int (nI s9)), (3, .int (nI f9)), (2, .int (nI (ζ9).val)), (1, .int (nI l9)), (0, .ref o)] → W p l e R s m args below meth c H locs cells slots Q (F0 m 301 ls [])) → W p l e R s m args below meth c H locs cells slots Q (F0 m 240 ls []) := by
  intro k
  induction k with
  | zero =>
    intro i RW S H locs ls hi hg9 hlo h_o h_ta h_sq h_rs h_ro hfr hI hl kx
    refine lv_iload hx hb d_M_sixteenTimes_240 (lv_at hl 0 rfl) ?_
    refine lv_aload_n hx hb d_M_sixteenTimes_242 rfl (lv_at hl 4 rfl) ?_
    refine mp_get (C := R_M) (T := F_M) (N := 31) (v := .int (nI s9)) hx hb hg i_M hown hK.va hI h_o rfl 14 (by decide) (hg _ q_818) (fun _ h9 => h9) rfl d_M_sixteenTimes_243 ?_
    refine lv_icmp_ge (tgt := 301) hx hb d_M_sixteenTimes_246 (by decide) (fun _ => ?_) (fun h9 => absurd ((nI_leI (by omega) (by omega)).mpr (by omega)) h9)
    obtain rfl : i = s9 := by omega
    exact kx RW S H locs ls hg9 hlo h_o h_ta h_sq h_rs h_ro hfr hI (lv_sub hl [0, 1, 2, 3, 4] rfl)
  | succ k ih =>
    intro i RW S H locs ls hi hg9 hlo h_o h_ta h_sq h_rs h_ro hfr hI hl kx
    refine lv_iload hx hb d_M_sixteenTimes_240 (lv_at hl 0 rfl) ?_
    refine lv_aload_n hx hb d_M_sixteenTimes_242 rfl (lv_at hl 4 rfl) ?_
    refine mp_get (C := R_M) (T := F_M) (N := 31) (v := .int (nI s9)) hx hb hg i_M hown hK.va hI h_o rfl 14 (by decide) (hg _ q_818) (fun _ h9 => h9) rfl d_M_sixteenTimes_243 ?_
    refine lv_icmp_ge (tgt := 301) hx hb d_M_sixteenTimes_246 (by decide) (fun h9 => absurd h9 (by rw [nI_leI (by omega) (by omega)]; omega)) (fun _ => ?_)
    refine lv_iconst (v := nI 0) hx hb d_M_sixteenTimes_249 (by decide) ?_
    refine lv_istore (lv' := [(5, .int (nI 0)), (4, .int (nI i)), (3, .int (nI f9)), (2, .int (nI (ζ9).val)), (1, .int (nI l9)), (0, .ref o)]) hx hb d_M_sixteenTimes_250 hl (by decide) rfl (fun ls hl => ?_)
    refine lp_M_st8 (B := B) (o := o) (ta := ta) (sq := sq) (rs := rs) (ro := ro) (s9 := s9) (l9 := l9) (f9 := f9) (mv0 := mv0) (mv1 := mv1) (mv2 := mv2) (mv3 := mv3) (mv4 := mv4) (mv5 := mv5) (mv6 := mv6) (mv7 := mv7) (mv8 := mv8) (mv9 := mv9) (mv10 := mv10) (mv11 := mv11) (mv12 := mv12) (mv13 := mv13) (mv15 := mv15) (mv17 := mv17) (mv18 := mv18) (mv19 := mv19) (mv20 := mv20) (mv21 := mv21) (mv22 := mv22) (mv23 := mv23) (mv24 := mv24) (mv25 := mv25) (mv26 := mv26) (mv28 := mv28) (TB := TB) (ζ9 := ζ9) (SQ := SQ) (RS := RS) (RQ := RQ) (r9 := i) hx hb hml hg hown hK (Nat.le_trans (Nat.le_of_ble_eq_true rfl) hRf) (Nat.le_trans (Nat.le_of_ble_eq_true rfl) hRl) (by omega) (by omega) hs hl9 hf9 (by omega) s9 0 RW S H _ ls (by omega) hg9 hlo h_o h_ta h_sq h_rs h_ro hfr hI (lv_sub hl [0, 1, 2, 3, 4, 5] rfl) (fun RW2 S1 H2 locs ls hg8 hl8 j_o j_ta j_sq j_rs j_ro hfr hI hl => ?_)
    refine lv_iinc (v := nI (i + 1)) (lv' := [(4, .int (nI (i + 1))), (5, .int (nI s9)), (3, .int (nI f9)), (2, .int (nI (ζ9).val)), (1, .int (nI l9)), (0, .ref o)]) hx hb d_M_sixteenTimes_295 hl (k := 1) rfl (nI_1 _) (by decide) rfl (fun ls hl => ?_)
    refine lv_goto (tgt := 240) hx hb d_M_sixteenTimes_298 (by decide) ?_
    exact ih (i + 1) RW2 S1 H2 locs ls (by omega) (grI_next hg8) hl8 j_o j_ta j_sq j_rs j_ro hfr hI (lv_sub hl [0, 2, 3, 4, 5] rfl) kx
set_option maxHeartbeats 4000000 in
set_option maxRecDepth 100000 in
/-- a table less a number, sixteen times, in the reference -/
theorem c_M_sixteen (l : Launch) (D : mp_G) (g : Nat → ClassId) (S : mp_M) (sz : Nat) (o ta sq rs ro s9 l9 f9 : Nat) (mv0 mv1 mv2 mv3 mv4 mv5 mv6 mv7 mv8 mv9 mv10 mv11 mv12 mv13 mv15 mv17 mv18 mv19 mv20 mv21 mv22 mv23 mv24 mv25 mv26 mv28 : Value) (TB : Nat → fF) (ζ9 : fF) (SQ RS RW : Nat → fF) (h_o : S o = some (2000, .inr (10, [mv0, mv1, mv2, mv3, mv4, mv5, mv6, mv7, mv8, mv9, mv10, mv11, mv12, mv13, .int (nI s9), mv15, .ref ta, mv17, mv18, mv19, mv20, mv21, mv22, mv23, mv24, mv25, mv26, .ref ro, mv28, .ref sq, .ref rs]))) (h_ta : S ta = some (2009, .inl ((g 0), 768, .inl (fun j => nI (TB j).val)))) (h_sq : S sq = some (2021, .inl ((g 0), 256, .inl (fun j => nI (SQ j).val)))) (h_rs : S rs = some (2022, .inl ((g 0), 256, .inl (fun j => nI (RS j).val)))) (h_ro : S ro = some (2019, .inl ((g 0), 1700, .inl (fun j => nI (RW j).val)))) (hs : s9 ≤ 16) (hl9 : l9 < 3) (hf9 : f9 + s9 ≤ 48) : Met l y_M_sixteenTimes w_M_sixteenTimes ({ frames := 1, cells := 0, slots := 0, locals := 21 }) (va_Pc [.ref o, .int (nI l9), .int (nI (ζ9).val), .int (nI f9)] (mp_B0 D classes (tys g) S sz)) (va_Qv (fun (S1 : mp_M) => ∃ SQ1 RS1 RW1 : Nat → fF, S1 sq = some (2021, .inl ((g 0), 256, .inl (fun j => nI (SQ1 j).val))) ∧ S1 rs = some (2022, .inl ((g 0), 256, .inl (fun j => nI (RS1 j).val))) ∧ S1 ro = some (2019, .inl ((g 0), 1700, .inl (fun j => nI (RW1 j).val))) ∧ (∀ a b, a < s9 → b < s9 → RW1 (16 * (f9 + a) + b) = sqm s9 (mzt (tbM TB l9) ζ9) 4 a b) ∧ (∀ q, q < 16 * f9 → RW1 q = RW q) ∧ (∀ b t e9, S b = some (t, e9) → (t ≠ 2021) → (t ≠ 2022) → (t ≠ 2019) → S1 b = some (t, e9))) (mp_B1 D classes S sz) (mp_A S sz)) 0 0 (mp_A S sz) := by
  refine Met.ofW (cc := b_M_sixteenTimes) (maxL := 9) (ret := none) (by decide) rfl ?_
  intro p e s m args below meth c s₁ B hml hv
  obtain ⟨rfl, hsz, hH, hK⟩ := hv
  have hx := B.exec
  have hb := B.bytes
  have hr := B.returns
  have hts := atoms_spec (ws := w_M_sixteenTimes) B.pre
  have hg : ∀ w ∈ gw, w.before _ s = true := fun w h => hts w (List.mem_cons_of_mem _ h)
  have hown : s.vm.findClass R_M = some m.cls := findClass_of_methodNamed B.named
  have hlocks := B.notSynchronized
  subst hsz
  have hI := mp_I.start hH
  have hl := lv_entry ([.ref o, .int (nI l9), .int (nI (ζ9).val), .int (nI f9)]) (n := 9) (Nat.le_of_ble_eq_true rfl)
  rw [lg_entry_eq]
  generalize (lg_sl ([.ref o, .int (nI l9), .int (nI (ζ9).val), .int (nI f9)]) ++ List.replicate (9 - (lg_sl ([.ref o, .int (nI l9), .int (nI (ζ9).val), .int (nI f9)])).length) Slot.unset).toArray = ls at hl ⊢
  have hl : lv_has ls 9 [(0, .ref o), (1, .int (nI l9)), (2, .int (nI (ζ9).val)), (3, .int (nI f9))] := hl
  have hfr : ∀ b t e9, S b = some (t, e9) → (t ≠ 2021) → (t ≠ 2022) → (t ≠ 2019) → S b = some (t, e9) := fun _ _ _ h9 _ _ _ => h9
  refine lv_iconst (v := nI 0) hx hb d_M_sixteenTimes_0 (by decide) ?_
  refine lv_istore (lv' := [(4, .int (nI 0)), (0, .ref o), (1, .int (nI l9)), (2, .int (nI (ζ9).val)), (3, .int (nI f9))]) hx hb d_M_sixteenTimes_1 hl (by decide) rfl (fun ls hl => ?_)
  refine lp_M_st2 (B := S) (o := o) (ta := ta) (sq := sq) (rs := rs) (ro := ro) (s9 := s9) (l9 := l9) (f9 := f9) (mv0 := mv0) (mv1 := mv1) (mv2 := mv2) (mv3 := mv3) (mv4 := mv4) (mv5 := mv5) (mv6 := mv6) (mv7 := mv7) (mv8 := mv8) (mv9 := mv9) (mv10 := mv10) (mv11 := mv11) (mv12 := mv12) (mv13 := mv13) (mv15 := mv15) (mv17 := mv17) (mv18 := mv18) (mv19 := mv19) (mv20 := mv20) (mv21 := mv21) (mv22 := mv22) (mv23 := mv23) (mv24 := mv24) (mv25 := mv25) (mv26 := mv26) (mv28 := mv28) (TB := TB) (ζ9 := ζ9) (RS := RS) (RW := RW) hx hb hml hg hown hK (Nat.le_of_ble_eq_true rfl) (Nat.le_of_ble_eq_true rfl) (Nat.le_of_ble_eq_true rfl) (Nat.le_of_ble_eq_true rfl) hs hl9 hf9 s9 0 SQ S s.heap _ ls (by omega) (grI_0 _ _ _ _) h_o h_ta h_sq h_rs h_ro hfr hI (lv_sub hl [0, 4, 3, 2, 1] rfl) (fun SQ2 S1 H2 locs ls hg8 h_o h_ta h_sq h_rs h_ro hfr hI hl => ?_)
  refine lv_iconst (v := nI 0) hx hb d_M_sixteenTimes_83 (by decide) ?_
  refine lv_istore (lv' := [(4, .int (nI 0)), (3, .int (nI f9)), (2, .int (nI (ζ9).val)), (1, .int (nI l9)), (0, .ref o)]) hx hb d_M_sixteenTimes_84 hl (by decide) rfl (fun ls hl => ?_)
  refine lp_M_st7 (B := S) (o := o) (ta := ta) (sq := sq) (rs := rs) (ro := ro) (s9 := s9) (l9 := l9) (f9 := f9) (mv0 := mv0) (mv1 := mv1) (mv2 := mv2) (mv3 := mv3) (mv4 := mv4) (mv5 := mv5) (mv6 := mv6) (mv7 := mv7) (mv8 := mv8) (mv9 := mv9) (mv10 := mv10) (mv11 := mv11) (mv12 := mv12) (mv13 := mv13) (mv15 := mv15) (mv17 := mv17) (mv18 := mv18) (mv19 := mv19) (mv20 := mv20) (mv21 := mv21) (mv22 := mv22) (mv23 := mv23) (mv24 := mv24) (mv25 := mv25) (mv26 := mv26) (mv28 := mv28) (TB := TB) (ζ9 := ζ9) (RW := RW) hx hb hml hg hown hK (Nat.le_of_ble_eq_true rfl) (Nat.le_of_ble_eq_true rfl) (Nat.le_of_ble_eq_true rfl) (Nat.le_of_ble_eq_true rfl) hs hl9 hf9 4 0 SQ2 RS S1 H2 _ ls (by omega) (fun a b ha hb => by rw [show 16 * a + b = 16 * (0 + a) + b by omega]; exact grI_at hg8 ha hb) h_o h_ta h_sq h_rs h_ro hfr hI (lv_sub hl [0, 1, 2, 3, 4] rfl) (fun SQ1 RS1 S3 H4 locs ls hsq h_o h_ta h_sq h_rs h_ro hfr hI hl => ?_)
  refine lv_iconst (v := nI 0) hx hb d_M_sixteenTimes_237 (by decide) ?_
  refine lv_istore (lv' := [(4, .int (nI 0)), (3, .int (nI f9)), (2, .int (nI (ζ9).val)), (1, .int (nI l9)), (0, .ref o)]) hx hb d_M_sixteenTimes_238 hl (by decide) rfl (fun ls hl => ?_)
  refine lp_M_st9 (B := S) (o := o) (ta := ta) (sq := sq) (rs := rs) (ro := ro) (s9 := s9) (l9 := l9) (f9 := f9) (mv0 := mv0) (mv1 := mv1) (mv2 := mv2) (mv3 := mv3) (mv4 := mv4) (mv5 := mv5) (mv6 := mv6) (mv7 := mv7) (mv8 := mv8) (mv9 := mv9) (mv10 := mv10) (mv11 := mv11) (mv12 := mv12) (mv13 := mv13) (mv15 := mv15) (mv17 := mv17) (mv18 := mv18) (mv19 := mv19) (mv20 := mv20) (mv21 := mv21) (mv22 := mv22) (mv23 := mv23) (mv24 := mv24) (mv25 := mv25) (mv26 := mv26) (mv28 := mv28) (TB := TB) (ζ9 := ζ9) (SQ := SQ1) (RS := RS1) (RQ := RW) hx hb hml hg hown hK (Nat.le_of_ble_eq_true rfl) (Nat.le_of_ble_eq_true rfl) (Nat.le_of_ble_eq_true rfl) (Nat.le_of_ble_eq_true rfl) hs hl9 hf9 s9 0 RW S3 H4 _ ls (by omega) (grI_0 _ _ _ _) (fun _ _ => rfl) h_o h_ta h_sq h_rs h_ro hfr hI (lv_sub hl [0, 1, 2, 3, 4] rfl) (fun RW1 S5 H6 locs ls hg9 hlo j_o j_ta j_sq j_rs j_ro hfr hI hl => ?_)
  refine mp_vret hx hb hr hlocks hI (Nat.le_of_ble_eq_true rfl) (Nat.le_of_ble_eq_true rfl) ?_ d_M_sixteenTimes_301
  exact ⟨SQ1, RS1, RW1, j_sq, j_rs, j_ro, fun a b ha hb => (grI_at hg9 ha hb).trans (hsq a b ha hb), hlo, hfr⟩
set_option maxHeartbeats 4000000 in
set_option maxRecDepth 100000 in
theorem lp_M_rk1 {p : Program} {l : Launch} {e : Env} {R : Room} {s : State} {m : MethodId} {args : Array Value} {below : List Frame} {meth : Method} {c : Code} {Q : State → Prop} {D : mp_G} {g : Nat → ClassId} {A : Nat → Prop} {cells slots : Nat} (hx : p.tables.exec = Jvm.exec) (hb : c.code = b_M_rank) (hml : c.maxLocals = 7) (hg : ∀ w ∈ gw, w.before args s = true) (hown : s.vm.findClass R_M = some m.cls) (hK : mp_K D classes (tys g) s) (hRf : 0 ≤ R.frames) (hRl : 0 ≤ R.locals) (hRc : cells ≤ R.cells) (hRs : slots ≤ R.slots) {B : mp_M} {o ro s9 mny : Nat} {mv0 mv1 mv2 mv3 mv4 mv5 mv6 mv7 mv8 mv9 mv10 mv11 mv12 mv13 mv15 mv16 mv17 mv18 mv19 mv20 mv21 mv22 mv23 mv24 mv25 mv26 mv28 mv29 mv30 : Value} {c9 r9 : Nat} {RW : Nat → fF} (hs : s9 ≤ 16) (hm9 : mny ≤ 48) (hc9 : c9 < s9) (hr9 : r9 ≤ mny) : ∀ (k : Nat) (v4 : Int32) (S : mp_M) (H : Heap) (locs : List Loc) (ls : Array Slot), r9 + k ≤ mny → (fnI c9 (r9 + k) mny RW v4) → S o = some (2000, .inr (10, [mv0, mv1, mv2, mv3, mv4, mv5, mv6, mv7, mv8, mv9, mv10, mv11, mv12, mv13, .int (nI s9), mv15, mv16, mv17, mv18, mv19, mv20, mv21, mv22, mv23, mv24, mv25, mv26, .ref ro, mv28, mv29, mv30])) → S ro = some (2019, .inl ((g 0), 1700, .inl (fun j => nI (RW j).val))) → (∀ b t e9, B b = some (t, e9) → (t ≠ 2019) → S b = some (t, e9)) → mp_I D classes A s.heap S H locs → lv_has ls 7 [(5, .int (nI (r9 + k) + -1)), (4, .int v4), (3, .int (nI c9)), (2, .int (nI r9)), (1, .int (nI mny)), (0, .ref o)] → (∀ (v4 : Int32) (S : mp_M) (H : Heap) (locs : List Loc) (ls : Array Slot), (fnI c9 (r9 + 0) mny RW v4) → S o = some (2000, .inr (10, [mv0, mv1, mv2, mv3, mv4, mv5, mv6, mv7, mv8, mv9, mv10, mv11, mv12, mv13, .int (nI s9), mv15, mv16, mv17, mv18, mv19, mv20, mv21, mv22, mv23, mv24, mv25, mv26, .ref ro, mv28, mv29, mv30])) → S ro = some (2019, .inl ((g 0), 1700, .inl (fun j => nI (RW j).val))) → (∀ b t e9, B b = some (t, e9) → (t ≠ 2019) → S b = some (t, e9)) → mp_I D classes A s.heap S H locs → lv_has ls 7 [(5, .int (nI (r9 + 0) + -1)), (4, .int v4), (3, .int (nI c9)), (2, .int (nI r9)), (1, .int (nI mny)), (0, .ref o)] → W p l e R s m args below meth c H locs cells slots Q (F0 m 51 ls [])) → W p l e R s m args below meth c H locs cells slots Q (F0 m 20 ls []) := by
  intro k
  induction k with
  | zero =>
    intro v4 S H locs ls hi hfn h_o h_ro hfr hI hl kx
    refine lv_iload hx hb d_M_rank_20 (lv_at hl 0 rfl) ?_
    refine lv_iload_n hx hb d_M_rank_22 rfl (lv_at hl 3 rfl) ?_
    refine lv_icmp_lt (tgt := 51) hx hb d_M_rank_23 (by decide) (fun _ => ?_) (fun h9 => absurd (nI_dlt (by omega)) h9)
    exact kx v4 S H locs ls hfn h_o h_ro hfr hI (lv_sub hl [0, 1, 2, 3, 4, 5] rfl)
  | succ k ih =>
    intro v4 S H locs ls hi hfn h_o h_ro hfr hI hl kx
    rw [show (nI (r9 + (k + 1)) + -1 : Int32) = nI (r9 + k) from nI_dec (r9 + k)] at hl
    refine lv_iload hx hb d_M_rank_20 (lv_at hl 0 rfl) ?_
    refine lv_iload_n hx hb d_M_rank_22 rfl (lv_at hl 3 rfl) ?_
    refine lv_icmp_lt (tgt := 51) hx hb d_M_rank_23 (by decide) (fun h9 => absurd h9 (by rw [nI_ltI (by omega) (by omega)]; omega)) (fun _ => ?_)
    refine lv_aload_n hx hb d_M_rank_26 rfl (lv_at hl 5 rfl) ?_
    refine mp_get (C := R_M) (T := F_M) (N := 31) (v := .ref ro) hx hb hg i_M hown hK.va hI h_o rfl 27 (by decide) (hg _ q_831) (fun _ h9 => h9) rfl d_M_rank_27 ?_
    refine lv_bipush (v := nI 16) hx hb d_M_rank_30 (by decide) ?_
    refine lv_iload hx hb d_M_rank_32 (lv_at hl 0 rfl) ?_
    refine lv_imul hx hb d_M_rank_34 ?_
    refine lv_topi (fun v1 ev1 => ?_)
    obtain rfl : v1 = nI (16 * (r9 + k)) := ev1.trans (pk_mul _ _)
    refine lv_iload_n hx hb d_M_rank_35 rfl (lv_at hl 2 rfl) ?_
    refine lv_iadd hx hb d_M_rank_36 ?_
    refine lv_topi (fun v2 ev2 => ?_)
    obtain rfl : v2 = nI ((16 * (r9 + k)) + c9) := ev2.trans (nI_add _ _)
    refine mp_iald hx hb hK.va hI 0 h_ro rfl (vp_in_nI (show (16 * (r9 + k)) + c9 < 1700 by omega) (by omega)) d_M_rank_37 ?_
    refine lv_topi (fun v3 ev3 => ?_)
    obtain rfl : v3 = nI (RW ((16 * (r9 + k)) + c9)).val := ev3.trans (by rw [nI_clamp (by omega)])
    refine lv_if_eq (tgt := 45) hx hb d_M_rank_38 (by decide) (fun c1 => ?_) (fun c1 => ?_)
    · rw [zI_eq (by omega)] at c1
      refine lv_iinc (v := (nI (r9 + k) + (-1))) (lv' := [(5, .int (nI (r9 + k) + (-1))), (4, .int v4), (3, .int (nI c9)), (2, .int (nI r9)), (1, .int (nI mny)), (0, .ref o)]) hx hb d_M_rank_45 hl (k := 0) rfl (rfl) (by decide) rfl (fun ls hl => ?_)
      refine lv_goto (tgt := 20) hx hb d_M_rank_48 (by decide) ?_
      exact ih v4 S H locs ls (by omega) (fnI_z (K := r9 + k) hfn (Fin.ext c1)) h_o h_ro hfr hI (lv_sub hl [0, 1, 2, 3, 4, 5] rfl) kx
    · rw [zI_eq (by omega)] at c1
      refine lv_iload hx hb d_M_rank_41 (lv_at hl 0 rfl) ?_
      refine lv_istore (lv' := [(4, .int (nI (r9 + k))), (5, .int (nI (r9 + k))), (3, .int (nI c9)), (2, .int (nI r9)), (1, .int (nI mny)), (0, .ref o)]) hx hb d_M_rank_43 hl (by decide) rfl (fun ls hl => ?_)
      refine lv_iinc (v := (nI (r9 + k) + (-1))) (lv' := [(5, .int (nI (r9 + k) + (-1))), (4, .int (nI (r9 + k))), (3, .int (nI c9)), (2, .int (nI r9)), (1, .int (nI mny)), (0, .ref o)]) hx hb d_M_rank_45 hl (k := 1) rfl (rfl) (by decide) rfl (fun ls hl => ?_)
      refine lv_goto (tgt := 20) hx hb d_M_rank_48 (by decide) ?_
      exact ih (nI (r9 + k)) S H locs ls (by omega) (Or.inr ⟨r9 + k, Nat.le_refl _, by omega, rfl, fun q9 => c1 (by rw [q9]; rfl)⟩) h_o h_ro hfr hI (lv_sub hl [0, 1, 2, 3, 4, 5] rfl) kx
set_option maxHeartbeats 4000000 in
set_option maxRecDepth 100000 in
theorem lp_M_rk2 {p : Program} {l : Launch} {e : Env} {R : Room} {s : State} {m : MethodId} {args : Array Value} {below : List Frame} {meth : Method} {c : Code} {Q : State → Prop} {D : mp_G} {g : Nat → ClassId} {A : Nat → Prop} {cells slots : Nat} (hx : p.tables.exec = Jvm.exec) (hb : c.code = b_M_rank) (hml : c.maxLocals = 7) (hg : ∀ w ∈ gw, w.before args s = true) (hown : s.vm.findClass R_M = some m.cls) (hK : mp_K D classes (tys g) s) (hRf : 0 ≤ R.frames) (hRl : 0 ≤ R.locals) (hRc : cells ≤ R.cells) (hRs : slots ≤ R.slots) {B : mp_M} {o ro s9 mny : Nat} {mv0 mv1 mv2 mv3 mv4 mv5 mv6 mv7 mv8 mv9 mv10 mv11 mv12 mv13 mv15 mv16 mv17 mv18 mv19 mv20 mv21 mv22 mv23 mv24 mv25 mv26 mv28 mv29 mv30 : Value} {c9 r9 f9 : Nat} {RW : Nat → fF} (hs : s9 ≤ 16) (hm9 : mny ≤ 48) (hr9 : r9 < mny) (hf9 : f9 < mny) : ∀ (k : Nat) (i : Nat) (RV : Nat → fF) (S : mp_M) (H : Heap) (locs : List Loc) (ls : Array Slot), i + k = s9 → (swI r9 f9 i RW RV) → S o = some (2000, .inr (10, [mv0, mv1, mv2, mv3, mv4, mv5, mv6, mv7, mv8, mv9, mv10, mv11, mv12, mv13, .int (nI s9), mv15, mv16, mv17, mv18, mv19, mv20, mv21, mv22, mv23, mv24, mv25, mv26, .ref ro, mv28, mv29, mv30])) → S ro = some (2019, .inl ((g 0), 1700, .inl (fun j => nI (RV j).val))) → (∀ b t e9, B b = some (t, e9) → (t ≠ 2019) → S b = some (t, e9)) → mp_I D classes A s.heap S H locs → lv_has ls 7 [(5, .int (nI i)), (4, .int (nI f9)), (3, .int (nI c9)), (2, .int (nI r9)), (1, .int (nI mny)), (0, .ref o)] → (∀ (RV : Nat → fF) (S : mp_M) (H : Heap) (locs : List Loc) (ls : Array Slot), (swI r9 f9 s9 RW RV) → S o = some (2000, .inr (10, [mv0, mv1, mv2, mv3, mv4, mv5, mv6, mv7, mv8, mv9, mv10, mv11, mv12, mv13, .int (nI s9), mv15, mv16, mv17, mv18, mv19, mv20, mv21, mv22, mv23, mv24, mv25, mv26, .ref ro, mv28, mv29, mv30])) → S ro = some (2019, .inl ((g 0), 1700, .inl (fun j => nI (RV j).val))) → (∀ b t e9, B b = some (t, e9) → (t ≠ 2019) → S b = some (t, e9)) → mp_I D classes A s.heap S H locs → lv_has ls 7 [(5, .int (nI s9)), (4, .int (nI f9)), (3, .int (nI c9)), (2, .int (nI r9)), (1, .int (nI mny)), (0, .ref o)] → W p l e R s m args below meth c H locs cells slots Q (F0 m 129 ls [])) → W p l e R s m args below meth c H locs cells slots Q (F0 m 60 ls []) := by
  intro k
  induction k with
  | zero =>
    intro i RV S H locs ls hi hsw h_o h_ro hfr hI hl kx
    refine lv_iload hx hb d_M_rank_60 (lv_at hl 0 rfl) ?_
    refine lv_aload_n hx hb d_M_rank_62 rfl (lv_at hl 5 rfl) ?_
    refine mp_get (C := R_M) (T := F_M) (N := 31) (v := .int (nI s9)) hx hb hg i_M hown hK.va hI h_o rfl 14 (by decide) (hg _ q_818) (fun _ h9 => h9) rfl d_M_rank_63 ?_
    refine lv_icmp_ge (tgt := 129) hx hb d_M_rank_66 (by decide) (fun _ => ?_) (fun h9 => absurd ((nI_leI (by omega) (by omega)).mpr (by omega)) h9)
    obtain rfl : i = s9 := by omega
    exact kx RV S H locs ls hsw h_o h_ro hfr hI (lv_sub hl [0, 1, 2, 3, 4, 5] rfl)
  | succ k ih =>
    intro i RV S H locs ls hi hsw h_o h_ro hfr hI hl kx
    refine lv_iload hx hb d_M_rank_60 (lv_at hl 0 rfl) ?_
    refine lv_aload_n hx hb d_M_rank_62 rfl (lv_at hl 5 rfl) ?_
    refine mp_get (C := R_M) (T := F_M) (N := 31) (v := .int (nI s9)) hx hb hg i_M hown hK.va hI h_o rfl 14 (by decide) (hg _ q_818) (fun _ h9 => h9) rfl d_M_rank_63 ?_
    refine lv_icmp_ge (tgt := 129) hx hb d_M_rank_66 (by decide) (fun h9 => absurd h9 (by rw [nI_leI (by omega) (by omega)]; omega)) (fun _ => ?_)
    refine lv_aload_n hx hb d_M_rank_69 rfl (lv_at hl 5 rfl) ?_
    refine mp_get (C := R_M) (T := F_M) (N := 31) (v := .ref ro) hx hb hg i_M hown hK.va hI h_o rfl 27 (by decide) (hg _ q_831) (fun _ h9 => h9) rfl d_M_rank_70 ?_
    refine lv_bipush (v := nI 16) hx hb d_M_rank_73 (by decide) ?_
    refine lv_iload_n hx hb d_M_rank_75 rfl (lv_at hl 3 rfl) ?_
    refine lv_imul hx hb d_M_rank_76 ?_
    refine lv_topi (fun v1 ev1 => ?_)
    obtain rfl : v1 = nI (16 * r9) := ev1.trans (pk_mul _ _)
    refine lv_iload hx hb d_M_rank_77 (lv_at hl 0 rfl) ?_
    refine lv_iadd hx hb d_M_rank_79 ?_
    refine lv_topi (fun v2 ev2 => ?_)
    obtain rfl : v2 = nI ((16 * r9) + i) := ev2.trans (nI_add _ _)
    refine mp_iald hx hb hK.va hI 0 h_ro rfl (vp_in_nI (show (16 * r9) + i < 1700 by omega) (by omega)) d_M_rank_80 ?_
    refine lv_topi (fun v3 ev3 => ?_)
    obtain rfl : v3 = nI (RV ((16 * r9) + i)).val := ev3.trans (by rw [nI_clamp (by omega)])
    refine lv_istore (lv' := [(6, .int (nI (RV ((16 * r9) + i)).val)), (5, .int (nI i)), (4, .int (nI f9)), (3, .int (nI c9)), (2, .int (nI r9)), (1, .int (nI mny)), (0, .ref o)]) hx hb d_M_rank_81 hl (by decide) rfl (fun ls hl => ?_)
    refine lv_aload_n hx hb d_M_rank_83 rfl (lv_at hl 6 rfl) ?_
    refine mp_get (C := R_M) (T := F_M) (N := 31) (v := .ref ro) hx hb hg i_M hown hK.va hI h_o rfl 27 (by decide) (hg _ q_831) (fun _ h9 => h9) rfl d_M_rank_84 ?_
    refine lv_bipush (v := nI 16) hx hb d_M_rank_87 (by decide) ?_
    refine lv_iload_n hx hb d_M_rank_89 rfl (lv_at hl 4 rfl) ?_
    refine lv_imul hx hb d_M_rank_90 ?_
    refine lv_topi (fun v4 ev4 => ?_)
    obtain rfl : v4 = nI (16 * r9) := ev4.trans (pk_mul _ _)
    refine lv_iload hx hb d_M_rank_91 (lv_at hl 1 rfl) ?_
    refine lv_iadd hx hb d_M_rank_93 ?_
    refine lv_topi (fun v5 ev5 => ?_)
    obtain rfl : v5 = nI ((16 * r9) + i) := ev5.trans (nI_add _ _)
    refine lv_aload_n hx hb d_M_rank_94 rfl (lv_at hl 6 rfl) ?_
    refine mp_get (C := R_M) (T := F_M) (N := 31) (v := .ref ro) hx hb hg i_M hown hK.va hI h_o rfl 27 (by decide) (hg _ q_831) (fun _ h9 => h9) rfl d_M_rank_95 ?_
    refine lv_bipush (v := nI 16) hx hb d_M_rank_98 (by decide) ?_
    refine lv_iload hx hb d_M_rank_100 (lv_at hl 2 rfl) ?_
    refine lv_imul hx hb d_M_rank_102 ?_
    refine lv_topi (fun v6 ev6 => ?_)
    obtain rfl : v6 = nI (16 * f9) := ev6.trans (pk_mul _ _)
    refine lv_iload hx hb d_M_rank_103 (lv_at hl 1 rfl) ?_
    refine lv_iadd hx hb d_M_rank_105 ?_
    refine lv_topi (fun v7 ev7 => ?_)
    obtain rfl : v7 = nI ((16 * f9) + i) := ev7.trans (nI_add _ _)
    refine mp_iald hx hb hK.va hI 0 h_ro rfl (vp_in_nI (show (16 * f9) + i < 1700 by omega) (by omega)) d_M_rank_106 ?_
    refine lv_topi (fun v8 ev8 => ?_)
    obtain rfl : v8 = nI (RV ((16 * f9) + i)).val := ev8.trans (by rw [nI_clamp (by omega)])
    refine mp_iast hx hb hK.va hI 0 h_ro rfl (vp_in_nI (show (16 * r9) + i < 1700 by omega) (by omega)) d_M_rank_107 (fun S9 H10 locs e_11 hI => ?_)
    have h_ro_o := h_ro
    have e_11 : S9 = va_up S ro (some (2019, .inl ((g 0), 1700, .inl (upd (fun j => nI (RV j).val) (nI ((16 * r9) + i)).toNatClampNeg (nI (RV ((16 * f9) + i)).val))))) := e_11
    have h_o : S9 o = some (2000, .inr (10, [mv0, mv1, mv2, mv3, mv4, mv5, mv6, mv7, mv8, mv9, mv10, mv11, mv12, mv13, .int (nI s9), mv15, mv16, mv17, mv18, mv19, mv20, mv21, mv22, mv23, mv24, mv25, mv26, .ref ro, mv28, mv29, mv30])) := by rw [e_11]; exact mp_keep h_o h_ro (by decide)
    have h_ro : S9 ro = some (2019, .inl ((g 0), 1700, .inl (upd (fun j => nI (RV j).val) (nI ((16 * r9) + i)).toNatClampNeg (nI (RV ((16 * f9) + i)).val)))) := by rw [e_11]; exact mp_us _ _ _
    have hfr : ∀ b t e9, B b = some (t, e9) → (t ≠ 2019) → S9 b = some (t, e9) := fun b t e9 h9 k0 => by rw [e_11]; exact mp_keep (hfr b t e9 h9 k0) h_ro_o (by omega)
    rw [nI_clamp (by omega), nIv_up] at h_ro
    refine lv_aload_n hx hb d_M_rank_108 rfl (lv_at hl 6 rfl) ?_
    refine mp_get (C := R_M) (T := F_M) (N := 31) (v := .ref ro) hx hb hg i_M hown hK.va hI h_o rfl 27 (by decide) (hg _ q_831) (fun _ h9 => h9) rfl d_M_rank_109 ?_
    refine lv_bipush (v := nI 16) hx hb d_M_rank_112 (by decide) ?_
    refine lv_iload hx hb d_M_rank_114 (lv_at hl 2 rfl) ?_
    refine lv_imul hx hb d_M_rank_116 ?_
    refine lv_topi (fun v12 ev12 => ?_)
    obtain rfl : v12 = nI (16 * f9) := ev12.trans (pk_mul _ _)
    refine lv_iload hx hb d_M_rank_117 (lv_at hl 1 rfl) ?_
    refine lv_iadd hx hb d_M_rank_119 ?_
    refine lv_topi (fun v13 ev13 => ?_)
    obtain rfl : v13 = nI ((16 * f9) + i) := ev13.trans (nI_add _ _)
    refine lv_iload hx hb d_M_rank_120 (lv_at hl 0 rfl) ?_
    refine mp_iast hx hb hK.va hI 0 h_ro rfl (vp_in_nI (show (16 * f9) + i < 1700 by omega) (by omega)) d_M_rank_122 (fun S14 H15 locs e_16 hI => ?_)
    have h_ro_o := h_ro
    have e_16 : S14 = va_up S9 ro (some (2019, .inl ((g 0), 1700, .inl (upd (fun j => nI (va_up RV ((16 * r9) + i) (RV ((16 * f9) + i)) j).val) (nI ((16 * f9) + i)).toNatClampNeg (nI (RV ((16 * r9) + i)).val))))) := e_16
    have h_o : S14 o = some (2000, .inr (10, [mv0, mv1, mv2, mv3, mv4, mv5, mv6, mv7, mv8, mv9, mv10, mv11, mv12, mv13, .int (nI s9), mv15, mv16, mv17, mv18, mv19, mv20, mv21, mv22, mv23, mv24, mv25, mv26, .ref ro, mv28, mv29, mv30])) := by rw [e_16]; exact mp_keep h_o h_ro (by decide)
    have h_ro : S14 ro = some (2019, .inl ((g 0), 1700, .inl (upd (fun j => nI (va_up RV ((16 * r9) + i) (RV ((16 * f9) + i)) j).val) (nI ((16 * f9) + i)).toNatClampNeg (nI (RV ((16 * r9) + i)).val)))) := by rw [e_16]; exact mp_us _ _ _
    have hfr : ∀ b t e9, B b = some (t, e9) → (t ≠ 2019) → S14 b = some (t, e9) := fun b t e9 h9 k0 => by rw [e_16]; exact mp_keep (hfr b t e9 h9 k0) h_ro_o (by omega)
    rw [nI_clamp (by omega), nIv_up] at h_ro
    refine lv_iinc (v := nI (i + 1)) (lv' := [(5, .int (nI (i + 1))), (6, .int (nI (RV ((16 * r9) + i)).val)), (4, .int (nI f9)), (3, .int (nI c9)), (2, .int (nI r9)), (1, .int (nI mny)), (0, .ref o)]) hx hb d_M_rank_123 hl (k := 1) rfl (nI_1 _) (by decide) rfl (fun ls hl => ?_)
    refine lv_goto (tgt := 60) hx hb d_M_rank_126 (by decide) ?_
    exact ih (i + 1) (va_up (va_up RV (16 * r9 + i) (RV (16 * f9 + i))) (16 * f9 + i) (RV (16 * r9 + i))) S14 H15 locs ls (by omega) (swI_up hsw (by omega)) h_o h_ro hfr hI (lv_sub hl [0, 2, 3, 4, 5, 6] rfl) kx
set_option maxHeartbeats 4000000 in
set_option maxRecDepth 100000 in
theorem lp_M_rk3 {p : Program} {l : Launch} {e : Env} {R : Room} {s : State} {m : MethodId} {args : Array Value} {below : List Frame} {meth : Method} {c : Code} {Q : State → Prop} {D : mp_G} {g : Nat → ClassId} {A : Nat → Prop} {cells slots : Nat} (hx : p.tables.exec = Jvm.exec) (hb : c.code = b_M_rank) (hml : c.maxLocals = 7) (hg : ∀ w ∈ gw, w.before args s = true) (hown : s.vm.findClass R_M = some m.cls) (hK : mp_K D classes (tys g) s) (hRf : 3 ≤ R.frames) (hRl : 71 ≤ R.locals) (hRc : cells ≤ R.cells) (hRs : slots ≤ R.slots) {B : mp_M} {o ro s9 mny : Nat} {mv0 mv1 mv2 mv3 mv4 mv5 mv6 mv7 mv8 mv9 mv10 mv11 mv12 mv13 mv15 mv16 mv17 mv18 mv19 mv20 mv21 mv22 mv23 mv24 mv25 mv26 mv28 mv29 mv30 : Value} {c9 r9 f9 : Nat} {RW : Nat → fF} (hs : s9 ≤ 16) (hm9 : mny ≤ 48) (hc9 : c9 < s9) : ∀ (k : Nat) (i : Nat) (RV : Nat → fF) (S : mp_M) (H : Heap) (locs : List Loc) (ls : Array Slot), i + k = mny → (r9 < i) → (elI s9 r9 c9 i RW RV) → S o = some (2000, .inr (10, [mv0, mv1, mv2, mv3, mv4, mv5, mv6, mv7, mv8, mv9, mv10, mv11, mv12, mv13, .int (nI s9), mv15, mv16, mv17, mv18, mv19, mv20, mv21, mv22, mv23, mv24, mv25, mv26, .ref ro, mv28, mv29, mv30])) → S ro = some (2019, .inl ((g 0), 1700, .inl (fun j => nI (RV j).val))) → (∀ b t e9, B b = some (t, e9) → (t ≠ 2019) → S b = some (t, e9)) → mp_I D classes A s.heap S H locs → lv_has ls 7 [(5, .int (nI i)), (4, .int (nI f9)), (3, .int (nI c9)), (2, .int (nI r9)), (1, .int (nI mny)), (0, .ref o)] → (∀ (RV : Nat → fF) (S : mp_M) (H : Heap) (locs : List Loc) (ls : Array Slot), (r9 < mny) → (elI s9 r9 c9 mny RW RV) → S o = some (2000, .inr (10, [mv0, mv1, mv2, mv3, mv4, mv5, mv6, mv7, mv8, mv9, mv10, mv11, mv12, mv13, .int (nI s9), mv15, mv16, mv17, mv18, mv19, mv20, mv21, mv22, mv23, mv24, mv25, mv26, .ref ro, mv28, mv29, mv30])) → S ro = some (2019, .inl ((g 0), 1700, .inl (fun j => nI (RV j).val))) → (∀ b t e9, B b = some (t, e9) → (t ≠ 2019) → S b = some (t, e9)) → mp_I D classes A s.heap S H locs → lv_has ls 7 [(5, .int (nI mny)), (4, .int (nI f9)), (3, .int (nI c9)), (2, .int (nI r9)), (1, .int (nI mny)), (0, .ref o)] → W p l e R s m args below meth c H locs cells slots Q (F0 m 164 ls [])) → W p l e R s m args below meth c H locs cells slots Q (F0 m 134 ls []) := by
  intro k
  induction k with
  | zero =>
    intro i RV S H locs ls hi hri hel h_o h_ro hfr hI hl kx
    refine lv_iload hx hb d_M_rank_134 (lv_at hl 0 rfl) ?_
    refine lv_iload_n hx hb d_M_rank_136 rfl (lv_at hl 4 rfl) ?_
    refine lv_icmp_ge (tgt := 164) hx hb d_M_rank_137 (by decide) (fun _ => ?_) (fun h9 => absurd ((nI_leI (by omega) (by omega)).mpr (by omega)) h9)
    obtain rfl : i = mny := by omega
    exact kx RV S H locs ls hri hel h_o h_ro hfr hI (lv_sub hl [0, 1, 2, 3, 4, 5] rfl)
  | succ k ih =>
    intro i RV S H locs ls hi hri hel h_o h_ro hfr hI hl kx
    refine lv_iload hx hb d_M_rank_134 (lv_at hl 0 rfl) ?_
    refine lv_iload_n hx hb d_M_rank_136 rfl (lv_at hl 4 rfl) ?_
    refine lv_icmp_ge (tgt := 164) hx hb d_M_rank_137 (by decide) (fun h9 => absurd h9 (by rw [nI_leI (by omega) (by omega)]; omega)) (fun _ => ?_)
    refine lv_aload_n hx hb d_M_rank_140 rfl (lv_at hl 5 rfl) ?_
    refine lv_bipush (v := nI 16) hx hb d_M_rank_141 (by decide) ?_
    refine lv_iload hx hb d_M_rank_143 (lv_at hl 0 rfl) ?_
    refine lv_imul hx hb d_M_rank_145 ?_
    refine lv_topi (fun v1 ev1 => ?_)
    obtain rfl : v1 = nI (16 * i) := ev1.trans (pk_mul _ _)
    refine lv_bipush (v := nI 16) hx hb d_M_rank_146 (by decide) ?_
    refine lv_iload_n hx hb d_M_rank_148 rfl (lv_at hl 3 rfl) ?_
    refine lv_imul hx hb d_M_rank_149 ?_
    refine lv_topi (fun v2 ev2 => ?_)
    obtain rfl : v2 = nI (16 * r9) := ev2.trans (pk_mul _ _)
    refine lv_iload_n hx hb d_M_rank_150 rfl (lv_at hl 2 rfl) ?_
    refine lv_aload_n hx hb d_M_rank_151 rfl (lv_at hl 5 rfl) ?_
    refine mp_get (C := R_M) (T := F_M) (N := 31) (v := .int (nI s9)) hx hb hg i_M hown hK.va hI h_o rfl 14 (by decide) (hg _ q_818) (fun _ h9 => h9) rfl d_M_rank_152 ?_
    refine mp_callv hI (va_runV (As := [.int (nI (16 * i)), .int (nI (16 * r9)), .int (nI c9), .int (nI s9)]) (rest := []) ⟨hx, hb, hml, hown, hg⟩ (c_M_takeRow l D g S _ o ro (16 * i) (16 * r9) c9 s9 mv0 mv1 mv2 mv3 mv4 mv5 mv6 mv7 mv8 mv9 mv10 mv11 mv12 mv13 (.int (nI s9)) mv15 mv16 mv17 mv18 mv19 mv20 mv21 mv22 mv23 mv24 mv25 mv26 mv28 mv29 mv30 RV h_o h_ro (by omega) (by omega) (by omega) hc9) ⟨(callB_of 4 hg (wd_goodG q_1018) rfl rfl rfl (hg _ q_5) (hg _ q_1015) (by decide +kernel) ⟨Nat.le_trans (Nat.le_of_ble_eq_true rfl) hRf, Nat.le_trans (Nat.le_of_ble_eq_true rfl) hRl⟩), hg _ q_1017, hg _ qs_38⟩ (mp_preV (C := R_M) (T := F_M) hI hK h_o rfl [.int (nI (16 * i)), .int (nI (16 * r9)), .int (nI c9), .int (nI s9)]) rfl rfl hl.1 rfl (lv_room (Nat.le_of_ble_eq_true rfl)) d_M_rank_155 ⟨by omega, by omega⟩) (fun S3 H4 locs p_5 hI => ?_)
    obtain ⟨q_ro, fq⟩ := p_5
    have h_o : S3 o = some (2000, .inr (10, [mv0, mv1, mv2, mv3, mv4, mv5, mv6, mv7, mv8, mv9, mv10, mv11, mv12, mv13, .int (nI s9), mv15, mv16, mv17, mv18, mv19, mv20, mv21, mv22, mv23, mv24, mv25, mv26, .ref ro, mv28, mv29, mv30])) := fq o _ _ h_o (by omega)
    have hfr : ∀ b t e9, B b = some (t, e9) → (t ≠ 2019) → S3 b = some (t, e9) := fun b t e9 h9 k0 => by have h8 := hfr b t e9 h9 k0; exact fq b _ _ h8 (by omega)
    have h_ro := q_ro
    refine lv_iinc (v := nI (i + 1)) (lv' := [(5, .int (nI (i + 1))), (4, .int (nI f9)), (3, .int (nI c9)), (2, .int (nI r9)), (1, .int (nI mny)), (0, .ref o)]) hx hb d_M_rank_158 hl (k := 0) rfl (nI_1 _) (by decide) rfl (fun ls hl => ?_)
    refine lv_goto (tgt := 134) hx hb d_M_rank_161 (by decide) ?_
    exact ih (i + 1) (trI (16 * i) (16 * r9) (RV (16 * i + c9) * iv (RV (16 * r9 + c9))) RV s9) S3 H4 locs ls (by omega) (by omega) (elI_up hel hs hc9 (by omega)) h_o h_ro hfr hI (lv_sub hl [0, 1, 2, 3, 4, 5] rfl) kx
set_option maxHeartbeats 4000000 in
set_option maxRecDepth 100000 in
theorem lp_M_rk4 {p : Program} {l : Launch} {e : Env} {R : Room} {s : State} {m : MethodId} {args : Array Value} {below : List Frame} {meth : Method} {c : Code} {Q : State → Prop} {D : mp_G} {g : Nat → ClassId} {A : Nat → Prop} {cells slots : Nat} (hx : p.tables.exec = Jvm.exec) (hb : c.code = b_M_rank) (hml : c.maxLocals = 7) (hg : ∀ w ∈ gw, w.before args s = true) (hown : s.vm.findClass R_M = some m.cls) (hK : mp_K D classes (tys g) s) (hRf : 3 ≤ R.frames) (hRl : 71 ≤ R.locals) (hRc : cells ≤ R.cells) (hRs : slots ≤ R.slots) {B : mp_M} {o ro s9 mny : Nat} {mv0 mv1 mv2 mv3 mv4 mv5 mv6 mv7 mv8 mv9 mv10 mv11 mv12 mv13 mv15 mv16 mv17 mv18 mv19 mv20 mv21 mv22 mv23 mv24 mv25 mv26 mv28 mv29 mv30 : Value} {Rq : Nat → Nat → fF} (hs : s9 ≤ 16) (hm9 : mny ≤ 48) : ∀ (k : Nat) (i : Nat) (r9 : Nat) (RW : Nat → fF) (pq : Nat → Nat) (S : mp_M) (H : Heap) (locs : List Loc) (ls : Array Slot), i + k = s9 → (rkI s9 mny i r9 (fun a b => RW (16 * a + b)) pq Rq) → S o = some (2000, .inr (10, [mv0, mv1, mv2, mv3, mv4, mv5, mv6, mv7, mv8, mv9, mv10, mv11, mv12, mv13, .int (nI s9), mv15, mv16, mv17, mv18, mv19, mv20, mv21, mv22, mv23, mv24, mv25, mv26, .ref ro, mv28, mv29, mv30])) → S ro = some (2019, .inl ((g 0), 1700, .inl (fun j => nI (RW j).val))) → (∀ b t e9, B b = some (t, e9) → (t ≠ 2019) → S b = some (t, e9)) → mp_I D classes A s.heap S H locs → lv_has ls 7 [(3, .int (nI i)), (2, .int (nI r9)), (1, .int (nI mny)), (0, .ref o)] → (∀ (r9 : Nat) (RW : Nat → fF) (pq : Nat → Nat) (S : mp_M) (H : Heap) (locs : List Loc) (ls : Array Slot), (rkI s9 mny s9 r9 (fun a b => RW (16 * a + b)) pq Rq) → S o = some (2000, .inr (10, [mv0, mv1, mv2, mv3, mv4, mv5, mv6, mv7, mv8, mv9, mv10, mv11, mv12, mv13, .int (nI s9), mv15, mv16, mv17, mv18, mv19, mv20, mv21, mv22, mv23, mv24, mv25, mv26, .ref ro, mv28, mv29, mv30])) → S ro = some (2019, .inl ((g 0), 1700, .inl (fun j => nI (RW j).val))) → (∀ b t e9, B b = some (t, e9) → (t ≠ 2019) → S b = some (t, e9)) → mp_I D classes A s.heap S H locs → lv_has ls 7 [(3, .int (nI s9)), (2, .int (nI r9)), (1, .int (nI mny)), (0, .ref o)] → W p l e R s m args below meth c H locs cells slots Q (F0 m 173 ls [])) → W p l e R s m args below meth c H locs cells slots Q (F0 m 4 ls []) := by
  intro k
  induction k with
  | zero =>
    intro i r9 RW pq S H locs ls hi hrk h_o h_ro hfr hI hl kx
    refine lv_iload_n hx hb d_M_rank_4 rfl (lv_at hl 0 rfl) ?_
    refine lv_aload_n hx hb d_M_rank_5 rfl (lv_at hl 3 rfl) ?_
    refine mp_get (C := R_M) (T := F_M) (N := 31) (v := .int (nI s9)) hx hb hg i_M hown hK.va hI h_o rfl 14 (by decide) (hg _ q_818) (fun _ h9 => h9) rfl d_M_rank_6 ?_
    refine lv_icmp_ge (tgt := 173) hx hb d_M_rank_9 (by decide) (fun _ => ?_) (fun h9 => absurd ((nI_leI (by omega) (by omega)).mpr (by omega)) h9)
    obtain rfl : i = s9 := by omega
    exact kx r9 RW pq S H locs ls hrk h_o h_ro hfr hI (lv_sub hl [0, 1, 2, 3] rfl)
  | succ k ih =>
    intro i r9 RW pq S H locs ls hi hrk h_o h_ro hfr hI hl kx
    have hrm := hrk.2.1
    refine lv_iload_n hx hb d_M_rank_4 rfl (lv_at hl 0 rfl) ?_
    refine lv_aload_n hx hb d_M_rank_5 rfl (lv_at hl 3 rfl) ?_
    refine mp_get (C := R_M) (T := F_M) (N := 31) (v := .int (nI s9)) hx hb hg i_M hown hK.va hI h_o rfl 14 (by decide) (hg _ q_818) (fun _ h9 => h9) rfl d_M_rank_6 ?_
    refine lv_icmp_ge (tgt := 173) hx hb d_M_rank_9 (by decide) (fun h9 => absurd h9 (by rw [nI_leI (by omega) (by omega)]; omega)) (fun _ => ?_)
    refine lv_iconst (v := (-1)) hx hb d_M_rank_12 (by decide) ?_
    refine lv_istore (lv' := [(4, .int (-1)), (3, .int (nI i)), (2, .int (nI r9)), (1, .int (nI mny)), (0, .ref o)]) hx hb d_M_rank_13 hl (by decide) rfl (fun ls hl => ?_)
    refine lv_iload_n hx hb d_M_rank_15 rfl (lv_at hl 3 rfl) ?_
    refine lv_iconst (v := nI 1) hx hb d_M_rank_16 (by decide) ?_
    refine lv_isub hx hb d_M_rank_17 ?_
    refine lv_topi (fun v1 ev1 => ?_)
    obtain rfl : v1 = (nI mny + -1) := ev1.trans (nI_sub1 mny)
    refine lv_topi (fun v2 ev2 => ?_)
    obtain rfl : v2 = (nI (r9 + (mny - r9)) + -1) := ev2.trans (by rw [show r9 + (mny - r9) = mny by omega])
    refine lv_istore (lv' := [(5, .int (nI (r9 + (mny - r9)) + -1)), (4, .int (-1)), (3, .int (nI i)), (2, .int (nI r9)), (1, .int (nI mny)), (0, .ref o)]) hx hb d_M_rank_18 hl (by decide) rfl (fun ls hl => ?_)
    refine lp_M_rk1 (B := B) (o := o) (ro := ro) (s9 := s9) (mny := mny) (mv0 := mv0) (mv1 := mv1) (mv2 := mv2) (mv3 := mv3) (mv4 := mv4) (mv5 := mv5) (mv6 := mv6) (mv7 := mv7) (mv8 := mv8) (mv9 := mv9) (mv10 := mv10) (mv11 := mv11) (mv12 := mv12) (mv13 := mv13) (mv15 := mv15) (mv16 := mv16) (mv17 := mv17) (mv18 := mv18) (mv19 := mv19) (mv20 := mv20) (mv21 := mv21) (mv22 := mv22) (mv23 := mv23) (mv24 := mv24) (mv25 := mv25) (mv26 := mv26) (mv28 := mv28) (mv29 := mv29) (mv30 := mv30) (c9 := i) (r9 := r9) (RW := RW) hx hb hml hg hown hK (Nat.le_trans (Nat.le_of_ble_eq_true rfl) hRf) (Nat.le_trans (Nat.le_of_ble_eq_true rfl) hRl) (by omega) (by omega) hs hm9 (by omega) hrm (mny - r9) (-1) S H _ ls (by omega) (Or.inl ⟨rfl, fun a h8 h9 => absurd h9 (by omega)⟩) h_o h_ro hfr hI (lv_sub hl [0, 1, 2, 3, 4, 5] rfl) (fun v4 S3 H4 locs ls hfn h_o h_ro hfr hI hl => ?_)
    rcases hfn with ⟨rfl, hno⟩ | ⟨f9, hf1, hf2, rfl, hz9⟩
    · refine lv_iload hx hb d_M_rank_51 (lv_at hl 1 rfl) ?_
      refine lv_iconst (v := (-1)) hx hb d_M_rank_53 (by decide) ?_
      refine lv_icmp_eq (tgt := 167) hx hb d_M_rank_54 (by decide) (fun _ => ?_) (fun h9 => absurd (rfl) h9)
      refine lv_iinc (v := nI (i + 1)) (lv' := [(3, .int (nI (i + 1))), (5, .int (nI (r9 + 0) + -1)), (4, .int (-1)), (2, .int (nI r9)), (1, .int (nI mny)), (0, .ref o)]) hx hb d_M_rank_167 hl (k := 2) rfl (nI_1 _) (by decide) rfl (fun ls hl => ?_)
      refine lv_goto (tgt := 4) hx hb d_M_rank_170 (by decide) ?_
      exact ih (i + 1) r9 RW pq S3 H4 locs ls (by omega) (rk_no hrk (fun a h8 h9 => hno a (by omega) h9)) h_o h_ro hfr hI (lv_sub hl [0, 3, 4, 5] rfl) kx
    · refine lv_iload hx hb d_M_rank_51 (lv_at hl 1 rfl) ?_
      refine lv_iconst (v := (-1)) hx hb d_M_rank_53 (by decide) ?_
      refine lv_icmp_eq (tgt := 167) hx hb d_M_rank_54 (by decide) (fun h9 => absurd h9 (nI_nm3 (by omega))) (fun _ => ?_)
      refine lv_iconst (v := nI 0) hx hb d_M_rank_57 (by decide) ?_
      refine lv_istore (lv' := [(5, .int (nI 0)), (4, .int (nI f9)), (3, .int (nI i)), (2, .int (nI r9)), (1, .int (nI mny)), (0, .ref o)]) hx hb d_M_rank_58 hl (by decide) rfl (fun ls hl => ?_)
      refine lp_M_rk2 (B := B) (o := o) (ro := ro) (s9 := s9) (mny := mny) (mv0 := mv0) (mv1 := mv1) (mv2 := mv2) (mv3 := mv3) (mv4 := mv4) (mv5 := mv5) (mv6 := mv6) (mv7 := mv7) (mv8 := mv8) (mv9 := mv9) (mv10 := mv10) (mv11 := mv11) (mv12 := mv12) (mv13 := mv13) (mv15 := mv15) (mv16 := mv16) (mv17 := mv17) (mv18 := mv18) (mv19 := mv19) (mv20 := mv20) (mv21 := mv21) (mv22 := mv22) (mv23 := mv23) (mv24 := mv24) (mv25 := mv25) (mv26 := mv26) (mv28 := mv28) (mv29 := mv29) (mv30 := mv30) (c9 := i) (r9 := r9) (f9 := f9) (RW := RW) hx hb hml hg hown hK (Nat.le_trans (Nat.le_of_ble_eq_true rfl) hRf) (Nat.le_trans (Nat.le_of_ble_eq_true rfl) hRl) (by omega) (by omega) hs hm9 (by omega) hf2 s9 0 RW S3 H4 _ ls (by omega) (fun a b _ => by rw [if_neg (Nat.not_lt_zero b)]) h_o h_ro hfr hI (lv_sub hl [0, 1, 2, 3, 4, 5] rfl) (fun RV S5 H6 locs ls hsw h_o h_ro hfr hI hl => ?_)
      refine lv_iload_n hx hb d_M_rank_129 rfl (lv_at hl 3 rfl) ?_
      refine lv_iconst (v := nI 1) hx hb d_M_rank_130 (by decide) ?_
      refine lv_iadd hx hb d_M_rank_131 ?_
      refine lv_topi (fun v7 ev7 => ?_)
      obtain rfl : v7 = nI (r9 + 1) := ev7.trans (nI_add _ _)
      refine lv_istore (lv' := [(5, .int (nI (r9 + 1))), (4, .int (nI f9)), (3, .int (nI i)), (2, .int (nI r9)), (1, .int (nI mny)), (0, .ref o)]) hx hb d_M_rank_132 hl (by decide) rfl (fun ls hl => ?_)
      refine lp_M_rk3 (B := B) (o := o) (ro := ro) (s9 := s9) (mny := mny) (mv0 := mv0) (mv1 := mv1) (mv2 := mv2) (mv3 := mv3) (mv4 := mv4) (mv5 := mv5) (mv6 := mv6) (mv7 := mv7) (mv8 := mv8) (mv9 := mv9) (mv10 := mv10) (mv11 := mv11) (mv12 := mv12) (mv13 := mv13) (mv15 := mv15) (mv16 := mv16) (mv17 := mv17) (mv18 := mv18) (mv19 := mv19) (mv20 := mv20) (mv21 := mv21) (mv22 := mv22) (mv23 := mv23) (mv24 := mv24) (mv25 := mv25) (mv26 := mv26) (mv28 := mv28) (mv29 := mv29) (mv30 := mv30) (c9 := i) (r9 := r9) (f9 := f9) (RW := RV) hx hb hml hg hown hK (Nat.le_trans (Nat.le_of_ble_eq_true rfl) hRf) (Nat.le_trans (Nat.le_of_ble_eq_true rfl) hRl) (by omega) (by omega) hs hm9 (by omega) (mny - (r9 + 1)) (r9 + 1) RV S5 H6 _ ls (by omega) (Nat.lt_succ_self _) (fun a b _ => by rw [if_neg (by omega)]) h_o h_ro hfr hI (lv_sub hl [0, 1, 2, 3, 4, 5] rfl) (fun R3 S8 H9 locs ls hri hel h_o h_ro hfr hI hl => ?_)
      refine lv_iinc (v := nI (r9 + 1)) (lv' := [(2, .int (nI (r9 + 1))), (5, .int (nI mny)), (4, .int (nI f9)), (3, .int (nI i)), (1, .int (nI mny)), (0, .ref o)]) hx hb d_M_rank_164 hl (k := 3) rfl (nI_1 _) (by decide) rfl (fun ls hl => ?_)
      refine lv_iinc (v := nI (i + 1)) (lv' := [(3, .int (nI (i + 1))), (2, .int (nI (r9 + 1))), (5, .int (nI mny)), (4, .int (nI f9)), (1, .int (nI mny)), (0, .ref o)]) hx hb d_M_rank_167 hl (k := 3) rfl (nI_1 _) (by decide) rfl (fun ls hl => ?_)
      refine lv_goto (tgt := 4) hx hb d_M_rank_170 (by decide) ?_
      exact ih (i + 1) (r9 + 1) R3 (fun a => if a = r9 then i else pq a) S8 H9 locs ls (by omega) (rk_go hrk hs (by omega) (by omega) hf2 hz9 hsw hel) h_o h_ro hfr hI (lv_sub hl [0, 1, 4, 5] rfl) kx
set_option maxHeartbeats 4000000 in
set_option maxRecDepth 100000 in
/-- the rank, in the reference -/
theorem c_M_rank (l : Launch) (D : mp_G) (g : Nat → ClassId) (S : mp_M) (sz : Nat) (o ro s9 mny : Nat) (mv0 mv1 mv2 mv3 mv4 mv5 mv6 mv7 mv8 mv9 mv10 mv11 mv12 mv13 mv15 mv16 mv17 mv18 mv19 mv20 mv21 mv22 mv23 mv24 mv25 mv26 mv28 mv29 mv30 : Value) (RW : Nat → fF) (h_o : S o = some (2000, .inr (10, [mv0, mv1, mv2, mv3, mv4, mv5, mv6, mv7, mv8, mv9, mv10, mv11, mv12, mv13, .int (nI s9), mv15, mv16, mv17, mv18, mv19, mv20, mv21, mv22, mv23, mv24, mv25, mv26, .ref ro, mv28, mv29, mv30]))) (h_ro : S ro = some (2019, .inl ((g 0), 1700, .inl (fun j => nI (RW j).val)))) (hs : s9 ≤ 16) (hm9 : mny ≤ 48) : Met l y_M_rank w_M_rank ({ frames := 3, cells := 0, slots := 0, locals := 71 }) (va_Pc [.ref o, .int (nI mny)] (mp_B0 D classes (tys g) S sz)) (va_Qi (fun (r : Int32) (S1 : mp_M) => ∃ (r9 : Nat) (RW1 : Nat → fF) (pq : Nat → Nat), r = nI r9 ∧ S1 ro = some (2019, .inl ((g 0), 1700, .inl (fun j => nI (RW1 j).val))) ∧ rkI s9 mny s9 r9 (fun a b => RW1 (16 * a + b)) pq (fun a b => RW (16 * a + b)) ∧ (∀ b t e9, S b = some (t, e9) → (t ≠ 2019) → S1 b = some (t, e9))) (mp_B1 D classes S sz) (mp_A S sz)) 0 0 (mp_A S sz) := by
  refine Met.ofW (cc := b_M_rank) (maxL := 7) (ret := (some .int)) (by decide) rfl ?_
  intro p e s m args below meth c s₁ B hml hv
  obtain ⟨rfl, hsz, hH, hK⟩ := hv
  have hx := B.exec
  have hb := B.bytes
  have hr := B.returns
  have hts := atoms_spec (ws := w_M_rank) B.pre
  have hg : ∀ w ∈ gw, w.before _ s = true := fun w h => hts w (List.mem_cons_of_mem _ h)
  have hown : s.vm.findClass R_M = some m.cls := findClass_of_methodNamed B.named
  have hlocks := B.notSynchronized
  subst hsz
  have hI := mp_I.start hH
  have hl := lv_entry ([.ref o, .int (nI mny)]) (n := 7) (Nat.le_of_ble_eq_true rfl)
  rw [lg_entry_eq]
  generalize (lg_sl ([.ref o, .int (nI mny)]) ++ List.replicate (7 - (lg_sl ([.ref o, .int (nI mny)])).length) Slot.unset).toArray = ls at hl ⊢
  have hl : lv_has ls 7 [(0, .ref o), (1, .int (nI mny))] := hl
  have hfr : ∀ b t e9, S b = some (t, e9) → (t ≠ 2019) → S b = some (t, e9) := fun _ _ _ h9 _ => h9
  refine lv_iconst (v := nI 0) hx hb d_M_rank_0 (by decide) ?_
  refine lv_istore_n (lv' := [(2, .int (nI 0)), (0, .ref o), (1, .int (nI mny))]) hx hb d_M_rank_1 rfl hl (by decide) rfl (fun ls hl => ?_)
  refine lv_iconst (v := nI 0) hx hb d_M_rank_2 (by decide) ?_
  refine lv_istore_n (lv' := [(3, .int (nI 0)), (2, .int (nI 0)), (0, .ref o), (1, .int (nI mny))]) hx hb d_M_rank_3 rfl hl (by decide) rfl (fun ls hl => ?_)
  refine lp_M_rk4 (B := S) (o := o) (ro := ro) (s9 := s9) (mny := mny) (mv0 := mv0) (mv1 := mv1) (mv2 := mv2) (mv3 := mv3) (mv4 := mv4) (mv5 := mv5) (mv6 := mv6) (mv7 := mv7) (mv8 := mv8) (mv9 := mv9) (mv10 := mv10) (mv11 := mv11) (mv12 := mv12) (mv13 := mv13) (mv15 := mv15) (mv16 := mv16) (mv17 := mv17) (mv18 := mv18) (mv19 := mv19) (mv20 := mv20) (mv21 := mv21) (mv22 := mv22) (mv23 := mv23) (mv24 := mv24) (mv25 := mv25) (mv26 := mv26) (mv28 := mv28) (mv29 := mv29) (mv30 := mv30) (Rq := (fun a b => RW (16 * a + b))) hx hb hml hg hown hK (Nat.le_of_ble_eq_true rfl) (Nat.le_of_ble_eq_true rfl) (Nat.le_of_ble_eq_true rfl) (Nat.le_of_ble_eq_true rfl) hs hm9 s9 0 0 RW (fun _ => 0) S s.heap _ ls (by omega) (rkI_0 _ _ _ _) h_o h_ro hfr hI (lv_sub hl [0, 1, 3, 2] rfl) (fun r9 RW1 pq S1 H2 locs ls hrk j_o j_ro hfr hI hl => ?_)
  refine lv_iload_n hx hb d_M_rank_173 rfl (lv_at hl 1 rfl) ?_
  refine mp_iret hx hb hr hlocks hI (Nat.le_of_ble_eq_true rfl) (Nat.le_of_ble_eq_true rfl) ?_ d_M_rank_174
  exact ⟨r9, RW1, pq, rfl, j_ro, hrk, hfr⟩
set_option maxHeartbeats 4000000 in
set_option maxRecDepth 100000 in
theorem lp_M_cz1 {p : Program} {l : Launch} {e : Env} {R : Room} {s : State} {m : MethodId} {args : Array Value} {below : List Frame} {meth : Method} {c : Code} {Q : State → Prop} {D : mp_G} {g : Nat → ClassId} {A : Nat → Prop} {cells slots : Nat} (hx : p.tables.exec = Jvm.exec) (hb : c.code = b_M_countZeros) (hml : c.maxLocals = 3) (hg : ∀ w ∈ gw, w.before args s = true) (hown : s.vm.findClass R_M = some m.cls) (hK : mp_K D classes (tys g) s) (hRf : 4 ≤ R.frames) (hRl : 97 ≤ R.locals) (hRc : cells ≤ R.cells) (hRs : slots ≤ R.slots) {B : mp_M} {o ta sq rs ro ze oq s9 nl zc : Nat} {mv1 mv2 mv3 mv4 mv5 mv6 mv7 mv8 mv9 mv10 mv11 mv12 mv13 mv15 mv17 mv18 mv19 mv20 mv24 mv25 mv26 mv28 : Value} {TB ZM : Nat → fF} {k9 : Nat} {OF : Nat → Nat} (hs : s9 ≤ 16) (hnl : nl ≤ 3) (hzc : zc ≤ 16) (hk9 : k9 < zc) : ∀ (k : Nat) (i : Nat) (SQ : Nat → fF) (RS : Nat → fF) (RW : Nat → fF) (S : mp_M) (H : Heap) (locs : List Loc) (ls : Array Slot), i + k = nl → (∀ l a b, l < i → a < s9 → b < s9 → RW (16 * (s9 * l + a) + b) = sqm s9 (mzt (tbM TB l) (ZM (3 * k9 + l))) 4 a b) → S o = some (2000, .inr (10, [.int (nI nl), mv1, mv2, mv3, mv4, mv5, mv6, mv7, mv8, mv9, mv10, mv11, mv12, mv13, .int (nI s9), mv15, .ref ta, mv17, mv18, mv19, mv20, .int (nI zc), .ref ze, .ref oq, mv24, mv25, mv26, .ref ro, mv28, .ref sq, .ref rs])) → S ta = some (2009, .inl ((g 0), 768, .inl (fun j => nI (TB j).val))) → S sq = some (2021, .inl ((g 0), 256, .inl (fun j => nI (SQ j).val))) → S rs = some (2022, .inl ((g 0), 256, .inl (fun j => nI (RS j).val))) → S ro = some (2019, .inl ((g 0), 1700, .inl (fun j => nI (RW j).val))) → S ze = some (2014, .inl ((g 0), 51, .inl (fun j => nI (ZM j).val))) → S oq = some (2015, .inl ((g 0), 17, .inl (fun j => nI (OF j)))) → (∀ b t e9, B b = some (t, e9) → (t ≠ 2021) → (t ≠ 2022) → (t ≠ 2019) → (t ≠ 2015) → S b = some (t, e9)) → mp_I D classes A s.heap S H locs → lv_has ls 3 [(2, .int (nI i)), (1, .int (nI k9)), (0, .ref o)] → (∀ (SQ : Nat → fF) (RS : Nat → fF) (RW : Nat → fF) (S : mp_M) (H : Heap) (locs : List Loc) (ls : Array Slot), (∀ l a b, l < nl → a < s9 → b < s9 → RW (16 * (s9 * l + a) + b) = sqm s9 (mzt (tbM TB l) (ZM (3 * k9 + l))) 4 a b) → S o = some (2000, .inr (10, [.int (nI nl), mv1, mv2, mv3, mv4, mv5, mv6, mv7, mv8, mv9, mv10, mv11, mv12, mv13, .int (nI s9), mv15, .ref ta, mv17, mv18, mv19, mv20, .int (nI zc), .ref ze, .ref oq, mv24, mv25, mv26, .ref ro, mv28, .ref sq, .ref rs])) → S ta = some (2009, .inl ((g 0), 768, .inl (fun j => nI (TB j).val))) → S sq = some (2021, .inl ((g 0), 256, .inl (fun j => nI (SQ j).val))) → S rs = some (2022, .inl ((g 0), 256, .inl (fun j => nI (RS j).val))) → S ro = some (2019, .inl ((g 0), 1700, .inl (fun j => nI (RW j).val))) → S ze = some (2014, .inl ((g 0), 51, .inl (fun j => nI (ZM j).val))) → S oq = some (2015, .inl ((g 0), 17, .inl (fun j => nI (OF j)))) → (∀ b t e9, B b = some (t, e9) → (t ≠ 2021) → (t ≠ 2022) → (t ≠ 2019) → (t ≠ 2015) → S b = some (t, e9)) → mp_I D classes A s.heap S H locs → lv_has ls 3 [(2, .int (nI nl)), (1, .int (nI k9)), (0, .ref o)] → W p l e R s m args below meth c H locs cells slots Q (F0 m 47 ls [])) → W p l e R s m args below meth c H locs cells slots Q (F0 m 12 ls []) := by
  intro k
  induction k with
  | zero =>
    intro i SQ RS RW S H locs ls hi hbl h_o h_ta h_sq h_rs h_ro h_ze h_oq hfr hI hl kx
    refine lv_iload_n hx hb d_M_countZeros_12 rfl (lv_at hl 0 rfl) ?_
    refine lv_aload_n hx hb d_M_countZeros_13 rfl (lv_at hl 2 rfl) ?_
    refine mp_get (C := R_M) (T := F_M) (N := 31) (v := .int (nI nl)) hx hb hg i_M hown hK.va hI h_o rfl 0 (by decide) (hg _ q_804) (fun _ h9 => h9) rfl d_M_countZeros_14 ?_
    refine lv_icmp_ge (tgt := 47) hx hb d_M_countZeros_17 (by decide) (fun _ => ?_) (fun h9 => absurd ((nI_leI (by omega) (by omega)).mpr (by omega)) h9)
    obtain rfl : i = nl := by omega
    exact kx SQ RS RW S H locs ls hbl h_o h_ta h_sq h_rs h_ro h_ze h_oq hfr hI (lv_sub hl [0, 1, 2] rfl)
  | succ k ih =>
    intro i SQ RS RW S H locs ls hi hbl h_o h_ta h_sq h_rs h_ro h_ze h_oq hfr hI hl kx
    have hm8 := mul_w (w := s9) (show i < nl by omega)
    have hm7 := mul_48 hs hnl
    refine lv_iload_n hx hb d_M_countZeros_12 rfl (lv_at hl 0 rfl) ?_
    refine lv_aload_n hx hb d_M_countZeros_13 rfl (lv_at hl 2 rfl) ?_
    refine mp_get (C := R_M) (T := F_M) (N := 31) (v := .int (nI nl)) hx hb hg i_M hown hK.va hI h_o rfl 0 (by decide) (hg _ q_804) (fun _ h9 => h9) rfl d_M_countZeros_14 ?_
    refine lv_icmp_ge (tgt := 47) hx hb d_M_countZeros_17 (by decide) (fun h9 => absurd h9 (by rw [nI_leI (by omega) (by omega)]; omega)) (fun _ => ?_)
    refine lv_aload_n hx hb d_M_countZeros_20 rfl (lv_at hl 2 rfl) ?_
    refine lv_iload_n hx hb d_M_countZeros_21 rfl (lv_at hl 0 rfl) ?_
    refine lv_aload_n hx hb d_M_countZeros_22 rfl (lv_at hl 2 rfl) ?_
    refine mp_get (C := R_M) (T := F_M) (N := 31) (v := .ref ze) hx hb hg i_M hown hK.va hI h_o rfl 22 (by decide) (hg _ q_826) (fun _ h9 => h9) rfl d_M_countZeros_23 ?_
    refine lv_iconst (v := nI 3) hx hb d_M_countZeros_26 (by decide) ?_
    refine lv_iload_n hx hb d_M_countZeros_27 rfl (lv_at hl 1 rfl) ?_
    refine lv_imul hx hb d_M_countZeros_28 ?_
    refine lv_topi (fun v1 ev1 => ?_)
    obtain rfl : v1 = nI (3 * k9) := ev1.trans (pk_mul _ _)
    refine lv_iload_n hx hb d_M_countZeros_29 rfl (lv_at hl 0 rfl) ?_
    refine lv_iadd hx hb d_M_countZeros_30 ?_
    refine lv_topi (fun v2 ev2 => ?_)
    obtain rfl : v2 = nI ((3 * k9) + i) := ev2.trans (nI_add _ _)
    refine mp_iald hx hb hK.va hI 0 h_ze rfl (vp_in_nI (show (3 * k9) + i < 51 by omega) (by omega)) d_M_countZeros_31 ?_
    refine lv_topi (fun v3 ev3 => ?_)
    obtain rfl : v3 = nI (ZM ((3 * k9) + i)).val := ev3.trans (by rw [nI_clamp (by omega)])
    refine lv_aload_n hx hb d_M_countZeros_32 rfl (lv_at hl 2 rfl) ?_
    refine mp_get (C := R_M) (T := F_M) (N := 31) (v := .int (nI s9)) hx hb hg i_M hown hK.va hI h_o rfl 14 (by decide) (hg _ q_818) (fun _ h9 => h9) rfl d_M_countZeros_33 ?_
    refine lv_iload_n hx hb d_M_countZeros_36 rfl (lv_at hl 0 rfl) ?_
    refine lv_imul hx hb d_M_countZeros_37 ?_
    refine lv_topi (fun v4 ev4 => ?_)
    obtain rfl : v4 = nI (s9 * i) := ev4.trans (pk_mul _ _)
    refine mp_callv hI (va_runV (As := [.int (nI i), .int (nI (ZM ((3 * k9) + i)).val), .int (nI (s9 * i))]) (rest := []) ⟨hx, hb, hml, hown, hg⟩ (c_M_sixteen l D g S _ o ta sq rs ro s9 i (s9 * i) (.int (nI nl)) mv1 mv2 mv3 mv4 mv5 mv6 mv7 mv8 mv9 mv10 mv11 mv12 mv13 mv15 mv17 mv18 mv19 mv20 (.int (nI zc)) (.ref ze) (.ref oq) mv24 mv25 mv26 mv28 TB (ZM (3 * k9 + i)) SQ RS RW h_o h_ta h_sq h_rs h_ro hs (by omega) (by omega)) ⟨(callB_of 3 hg (wd_goodG q_1059) rfl rfl rfl (hg _ q_5) (hg _ q_1056) (by decide +kernel) ⟨Nat.le_trans (Nat.le_of_ble_eq_true rfl) hRf, Nat.le_trans (Nat.le_of_ble_eq_true rfl) hRl⟩), hg _ q_1058, hg _ qs_46⟩ (mp_preV (C := R_M) (T := F_M) hI hK h_o rfl [.int (nI i), .int (nI (ZM ((3 * k9) + i)).val), .int (nI (s9 * i))]) rfl rfl hl.1 rfl (lv_room (Nat.le_of_ble_eq_true rfl)) d_M_countZeros_38 ⟨by omega, by omega⟩) (fun S5 H6 locs p_7 hI => ?_)
    obtain ⟨SQ1, RS1, RW1, q_sq, q_rs, q_ro, hb1, hb2, fq⟩ := p_7
    have h_o : S5 o = some (2000, .inr (10, [.int (nI nl), mv1, mv2, mv3, mv4, mv5, mv6, mv7, mv8, mv9, mv10, mv11, mv12, mv13, .int (nI s9), mv15, .ref ta, mv17, mv18, mv19, mv20, .int (nI zc), .ref ze, .ref oq, mv24, mv25, mv26, .ref ro, mv28, .ref sq, .ref rs])) := fq o _ _ h_o (by omega) (by omega) (by omega)
    have h_ta : S5 ta = some (2009, .inl ((g 0), 768, .inl (fun j => nI (TB j).val))) := fq ta _ _ h_ta (by omega) (by omega) (by omega)
    have h_ze : S5 ze = some (2014, .inl ((g 0), 51, .inl (fun j => nI (ZM j).val))) := fq ze _ _ h_ze (by omega) (by omega) (by omega)
    have h_oq : S5 oq = some (2015, .inl ((g 0), 17, .inl (fun j => nI (OF j)))) := fq oq _ _ h_oq (by omega) (by omega) (by omega)
    have hfr : ∀ b t e9, B b = some (t, e9) → (t ≠ 2021) → (t ≠ 2022) → (t ≠ 2019) → (t ≠ 2015) → S5 b = some (t, e9) := fun b t e9 h9 k0 k1 k2 k3 => by have h8 := hfr b t e9 h9 k0 k1 k2 k3; exact fq b _ _ h8 (by omega) (by omega) (by omega)
    have h_sq := q_sq
    have h_rs := q_rs
    have h_ro := q_ro
    refine lv_iinc (v := nI (i + 1)) (lv' := [(2, .int (nI (i + 1))), (1, .int (nI k9)), (0, .ref o)]) hx hb d_M_countZeros_41 hl (k := 0) rfl (nI_1 _) (by decide) rfl (fun ls hl => ?_)
    refine lv_goto (tgt := 12) hx hb d_M_countZeros_44 (by decide) ?_
    exact ih (i + 1) SQ1 RS1 RW1 S5 H6 locs ls (by omega) (fun l8 a b hl8 ha hb8 => by by_cases e9 : l8 = i; exact (by rw [e9]; exact hb1 a b ha hb8); exact (by have h8 := mul_w (w := s9) (show l8 < i by omega); rw [hb2 _ (by omega)]; exact hbl l8 a b (by omega) ha hb8)) h_o h_ta h_sq h_rs h_ro h_ze h_oq hfr hI (lv_sub hl [0, 1, 2] rfl) kx
set_option maxHeartbeats 4000000 in
set_option maxRecDepth 100000 in
theorem lp_M_cz2 {p : Program} {l : Launch} {e : Env} {R : Room} {s : State} {m : MethodId} {args : Array Value} {below : List Frame} {meth : Method} {c : Code} {Q : State → Prop} {D : mp_G} {g : Nat → ClassId} {A : Nat → Prop} {cells slots : Nat} (hx : p.tables.exec = Jvm.exec) (hb : c.code = b_M_countZeros) (hml : c.maxLocals = 3) (hg : ∀ w ∈ gw, w.before args s = true) (hown : s.vm.findClass R_M = some m.cls) (hK : mp_K D classes (tys g) s) (hRf : 4 ≤ R.frames) (hRl : 97 ≤ R.locals) (hRc : cells ≤ R.cells) (hRs : slots ≤ R.slots) {B : mp_M} {o ta sq rs ro ze oq s9 nl zc : Nat} {mv1 mv2 mv3 mv4 mv5 mv6 mv7 mv8 mv9 mv10 mv11 mv12 mv13 mv15 mv17 mv18 mv19 mv20 mv24 mv25 mv26 mv28 : Value} {TB ZM : Nat → fF} (hs : s9 ≤ 16) (hnl : nl ≤ 3) (hzc : zc ≤ 16) : ∀ (k : Nat) (i : Nat) (SQ : Nat → fF) (RS : Nat → fF) (RW : Nat → fF) (OF : Nat → Nat) (S : mp_M) (H : Heap) (locs : List Loc) (ls : Array Slot), i + k = zc → (∀ k8, k8 < i → ofP s9 nl TB ZM k8 (OF k8)) → S o = some (2000, .inr (10, [.int (nI nl), mv1, mv2, mv3, mv4, mv5, mv6, mv7, mv8, mv9, mv10, mv11, mv12, mv13, .int (nI s9), mv15, .ref ta, mv17, mv18, mv19, mv20, .int (nI zc), .ref ze, .ref oq, mv24, mv25, mv26, .ref ro, mv28, .ref sq, .ref rs])) → S ta = some (2009, .inl ((g 0), 768, .inl (fun j => nI (TB j).val))) → S sq = some (2021, .inl ((g 0), 256, .inl (fun j => nI (SQ j).val))) → S rs = some (2022, .inl ((g 0), 256, .inl (fun j => nI (RS j).val))) → S ro = some (2019, .inl ((g 0), 1700, .inl (fun j => nI (RW j).val))) → S ze = some (2014, .inl ((g 0), 51, .inl (fun j => nI (ZM j).val))) → S oq = some (2015, .inl ((g 0), 17, .inl (fun j => nI (OF j)))) → (∀ b t e9, B b = some (t, e9) → (t ≠ 2021) → (t ≠ 2022) → (t ≠ 2019) → (t ≠ 2015) → S b = some (t, e9)) → mp_I D classes A s.heap S H locs → lv_has ls 3 [(1, .int (nI i)), (0, .ref o)] → (∀ (SQ : Nat → fF) (RS : Nat → fF) (RW : Nat → fF) (OF : Nat → Nat) (S : mp_M) (H : Heap) (locs : List Loc) (ls : Array Slot), (∀ k8, k8 < zc → ofP s9 nl TB ZM k8 (OF k8)) → S o = some (2000, .inr (10, [.int (nI nl), mv1, mv2, mv3, mv4, mv5, mv6, mv7, mv8, mv9, mv10, mv11, mv12, mv13, .int (nI s9), mv15, .ref ta, mv17, mv18, mv19, mv20, .int (nI zc), .ref ze, .ref oq, mv24, mv25, mv26, .ref ro, mv28, .ref sq, .ref rs])) → S ta = some (2009, .inl ((g 0), 768, .inl (fun j => nI (TB j).val))) → S sq = some (2021, .inl ((g 0), 256, .inl (fun j => nI (SQ j).val))) → S rs = some (2022, .inl ((g 0), 256, .inl (fun j => nI (RS j).val))) → S ro = some (2019, .inl ((g 0), 1700, .inl (fun j => nI (RW j).val))) → S ze = some (2014, .inl ((g 0), 51, .inl (fun j => nI (ZM j).val))) → S oq = some (2015, .inl ((g 0), 17, .inl (fun j => nI (OF j)))) → (∀ b t e9, B b = some (t, e9) → (t ≠ 2021) → (t ≠ 2022) → (t ≠ 2019) → (t ≠ 2015) → S b = some (t, e9)) → mp_I D classes A s.heap S H locs → lv_has ls 3 [(1, .int (nI zc)), (0, .ref o)] → W p l e R s m args below meth c H locs cells slots Q (F0 m 77 ls [])) → W p l e R s m args below meth c H locs cells slots Q (F0 m 2 ls []) := by
  intro k
  induction k with
  | zero =>
    intro i SQ RS RW OF S H locs ls hi hof h_o h_ta h_sq h_rs h_ro h_ze h_oq hfr hI hl kx
    refine lv_iload_n hx hb d_M_countZeros_2 rfl (lv_at hl 0 rfl) ?_
    refine lv_aload_n hx hb d_M_countZeros_3 rfl (lv_at hl 1 rfl) ?_
    refine mp_get (C := R_M) (T := F_M) (N := 31) (v := .int (nI zc)) hx hb hg i_M hown hK.va hI h_o rfl 21 (by decide) (hg _ q_825) (fun _ h9 => h9) rfl d_M_countZeros_4 ?_
    refine lv_icmp_ge (tgt := 77) hx hb d_M_countZeros_7 (by decide) (fun _ => ?_) (fun h9 => absurd ((nI_leI (by omega) (by omega)).mpr (by omega)) h9)
    obtain rfl : i = zc := by omega
    exact kx SQ RS RW OF S H locs ls hof h_o h_ta h_sq h_rs h_ro h_ze h_oq hfr hI (lv_sub hl [0, 1] rfl)
  | succ k ih =>
    intro i SQ RS RW OF S H locs ls hi hof h_o h_ta h_sq h_rs h_ro h_ze h_oq hfr hI hl kx
    have hm7 := mul_48 hs hnl
    refine lv_iload_n hx hb d_M_countZeros_2 rfl (lv_at hl 0 rfl) ?_
    refine lv_aload_n hx hb d_M_countZeros_3 rfl (lv_at hl 1 rfl) ?_
    refine mp_get (C := R_M) (T := F_M) (N := 31) (v := .int (nI zc)) hx hb hg i_M hown hK.va hI h_o rfl 21 (by decide) (hg _ q_825) (fun _ h9 => h9) rfl d_M_countZeros_4 ?_
    refine lv_icmp_ge (tgt := 77) hx hb d_M_countZeros_7 (by decide) (fun h9 => absurd h9 (by rw [nI_leI (by omega) (by omega)]; omega)) (fun _ => ?_)
    refine lv_iconst (v := nI 0) hx hb d_M_countZeros_10 (by decide) ?_
    refine lv_istore_n (lv' := [(2, .int (nI 0)), (1, .int (nI i)), (0, .ref o)]) hx hb d_M_countZeros_11 rfl hl (by decide) rfl (fun ls hl => ?_)
    refine lp_M_cz1 (B := B) (o := o) (ta := ta) (sq := sq) (rs := rs) (ro := ro) (ze := ze) (oq := oq) (s9 := s9) (nl := nl) (zc := zc) (mv1 := mv1) (mv2 := mv2) (mv3 := mv3) (mv4 := mv4) (mv5 := mv5) (mv6 := mv6) (mv7 := mv7) (mv8 := mv8) (mv9 := mv9) (mv10 := mv10) (mv11 := mv11) (mv12 := mv12) (mv13 := mv13) (mv15 := mv15) (mv17 := mv17) (mv18 := mv18) (mv19 := mv19) (mv20 := mv20) (mv24 := mv24) (mv25 := mv25) (mv26 := mv26) (mv28 := mv28) (TB := TB) (ZM := ZM) (k9 := i) (OF := OF) hx hb hml hg hown hK (Nat.le_trans (Nat.le_of_ble_eq_true rfl) hRf) (Nat.le_trans (Nat.le_of_ble_eq_true rfl) hRl) (by omega) (by omega) hs hnl hzc (by omega) nl 0 SQ RS RW S H _ ls (by omega) (fun l8 a b hl8 => absurd hl8 (Nat.not_lt_zero l8)) h_o h_ta h_sq h_rs h_ro h_ze h_oq hfr hI (lv_sub hl [0, 1, 2] rfl) (fun SQ2 RS2 RW2 S1 H2 locs ls hbl h_o h_ta h_sq h_rs h_ro h_ze h_oq hfr hI hl => ?_)
    refine lv_aload_n hx hb d_M_countZeros_47 rfl (lv_at hl 2 rfl) ?_
    refine mp_get (C := R_M) (T := F_M) (N := 31) (v := .ref oq) hx hb hg i_M hown hK.va hI h_o rfl 23 (by decide) (hg _ q_827) (fun _ h9 => h9) rfl d_M_countZeros_48 ?_
    refine lv_iload_n hx hb d_M_countZeros_51 rfl (lv_at hl 1 rfl) ?_
    refine lv_aload_n hx hb d_M_countZeros_52 rfl (lv_at hl 2 rfl) ?_
    refine mp_get (C := R_M) (T := F_M) (N := 31) (v := .int (nI s9)) hx hb hg i_M hown hK.va hI h_o rfl 14 (by decide) (hg _ q_818) (fun _ h9 => h9) rfl d_M_countZeros_53 ?_
    refine lv_aload_n hx hb d_M_countZeros_56 rfl (lv_at hl 2 rfl) ?_
    refine lv_aload_n hx hb d_M_countZeros_57 rfl (lv_at hl 2 rfl) ?_
    refine mp_get (C := R_M) (T := F_M) (N := 31) (v := .int (nI s9)) hx hb hg i_M hown hK.va hI h_o rfl 14 (by decide) (hg _ q_818) (fun _ h9 => h9) rfl d_M_countZeros_58 ?_
    refine lv_aload_n hx hb d_M_countZeros_61 rfl (lv_at hl 2 rfl) ?_
    refine mp_get (C := R_M) (T := F_M) (N := 31) (v := .int (nI nl)) hx hb hg i_M hown hK.va hI h_o rfl 0 (by decide) (hg _ q_804) (fun _ h9 => h9) rfl d_M_countZeros_62 ?_
    refine lv_imul hx hb d_M_countZeros_65 ?_
    refine lv_topi (fun v3 ev3 => ?_)
    obtain rfl : v3 = nI (s9 * nl) := ev3.trans (pk_mul _ _)
    refine mp_calli hI (va_runV (As := [.int (nI (s9 * nl))]) (rest := [.int (nI s9), .int (nI i), .ref oq]) ⟨hx, hb, hml, hown, hg⟩ (c_M_rank l D g S1 _ o ro s9 (s9 * nl) (.int (nI nl)) mv1 mv2 mv3 mv4 mv5 mv6 mv7 mv8 mv9 mv10 mv11 mv12 mv13 mv15 (.ref ta) mv17 mv18 mv19 mv20 (.int (nI zc)) (.ref ze) (.ref oq) mv24 mv25 mv26 mv28 (.ref sq) (.ref rs) RW2 h_o h_ro hs hm7) ⟨(callB_of 1 hg (wd_goodG q_1063) rfl rfl rfl (hg _ q_5) (hg _ q_1060) (by decide +kernel) ⟨Nat.le_trans (Nat.le_of_ble_eq_true rfl) hRf, Nat.le_trans (Nat.le_of_ble_eq_true rfl) hRl⟩), hg _ q_1062, hg _ qs_47⟩ (mp_preV (C := R_M) (T := F_M) hI hK h_o rfl [.int (nI (s9 * nl))]) rfl rfl hl.1 rfl (lv_room (Nat.le_of_ble_eq_true rfl)) d_M_countZeros_66 ⟨by omega, by omega⟩) (fun r7 S4 H5 locs p_6 hI => ?_)
    obtain ⟨r9, RW1, pq, rfl, q_ro, hrk, fq⟩ := p_6
    have h_o : S4 o = some (2000, .inr (10, [.int (nI nl), mv1, mv2, mv3, mv4, mv5, mv6, mv7, mv8, mv9, mv10, mv11, mv12, mv13, .int (nI s9), mv15, .ref ta, mv17, mv18, mv19, mv20, .int (nI zc), .ref ze, .ref oq, mv24, mv25, mv26, .ref ro, mv28, .ref sq, .ref rs])) := fq o _ _ h_o (by omega)
    have h_ta : S4 ta = some (2009, .inl ((g 0), 768, .inl (fun j => nI (TB j).val))) := fq ta _ _ h_ta (by omega)
    have h_sq : S4 sq = some (2021, .inl ((g 0), 256, .inl (fun j => nI (SQ2 j).val))) := fq sq _ _ h_sq (by omega)
    have h_rs : S4 rs = some (2022, .inl ((g 0), 256, .inl (fun j => nI (RS2 j).val))) := fq rs _ _ h_rs (by omega)
    have h_ze : S4 ze = some (2014, .inl ((g 0), 51, .inl (fun j => nI (ZM j).val))) := fq ze _ _ h_ze (by omega)
    have h_oq : S4 oq = some (2015, .inl ((g 0), 17, .inl (fun j => nI (OF j)))) := fq oq _ _ h_oq (by omega)
    have hfr : ∀ b t e9, B b = some (t, e9) → (t ≠ 2021) → (t ≠ 2022) → (t ≠ 2019) → (t ≠ 2015) → S4 b = some (t, e9) := fun b t e9 h9 k0 k1 k2 k3 => by have h8 := hfr b t e9 h9 k0 k1 k2 k3; exact fq b _ _ h8 (by omega)
    have h_ro := q_ro
    have hrs := hrk.1
    refine lv_isub hx hb d_M_countZeros_69 ?_
    refine lv_topi (fun v8 ev8 => ?_)
    obtain rfl : v8 = nI (s9 - r9) := ev8.trans (pk_sub (by omega))
    refine mp_iast hx hb hK.va hI 0 h_oq rfl (vp_in_nI (show i < 17 by omega) (by omega)) d_M_countZeros_70 (fun S9 H10 locs e_11 hI => ?_)
    have h_oq_o := h_oq
    have e_11 : S9 = va_up S4 oq (some (2015, .inl ((g 0), 17, .inl (upd (fun j => nI (OF j)) (nI i).toNatClampNeg (nI (s9 - r9)))))) := e_11
    have h_o : S9 o = some (2000, .inr (10, [.int (nI nl), mv1, mv2, mv3, mv4, mv5, mv6, mv7, mv8, mv9, mv10, mv11, mv12, mv13, .int (nI s9), mv15, .ref ta, mv17, mv18, mv19, mv20, .int (nI zc), .ref ze, .ref oq, mv24, mv25, mv26, .ref ro, mv28, .ref sq, .ref rs])) := by rw [e_11]; exact mp_keep h_o h_oq (by decide)
    have h_ta : S9 ta = some (2009, .inl ((g 0), 768, .inl (fun j => nI (TB j).val))) := by rw [e_11]; exact mp_keep h_ta h_oq (by decide)
    have h_sq : S9 sq = some (2021, .inl ((g 0), 256, .inl (fun j => nI (SQ2 j).val))) := by rw [e_11]; exact mp_keep h_sq h_oq (by decide)
    have h_rs : S9 rs = some (2022, .inl ((g 0), 256, .inl (fun j => nI (RS2 j).val))) := by rw [e_11]; exact mp_keep h_rs h_oq (by decide)
    have h_ro : S9 ro = some (2019, .inl ((g 0), 1700, .inl (fun j => nI (RW1 j).val))) := by rw [e_11]; exact mp_keep h_ro h_oq (by decide)
    have h_ze : S9 ze = some (2014, .inl ((g 0), 51, .inl (fun j => nI (ZM j).val))) := by rw [e_11]; exact mp_keep h_ze h_oq (by decide)
    have h_oq : S9 oq = some (2015, .inl ((g 0), 17, .inl (upd (fun j => nI (OF j)) (nI i).toNatClampNeg (nI (s9 - r9))))) := by rw [e_11]; exact mp_us _ _ _
    have hfr : ∀ b t e9, B b = some (t, e9) → (t ≠ 2021) → (t ≠ 2022) → (t ≠ 2019) → (t ≠ 2015) → S9 b = some (t, e9) := fun b t e9 h9 k0 k1 k2 k3 => by rw [e_11]; exact mp_keep (hfr b t e9 h9 k0 k1 k2 k3) h_oq_o (by omega)
    rw [nI_clamp (by omega), nIf_up] at h_oq
    refine lv_iinc (v := nI (i + 1)) (lv' := [(1, .int (nI (i + 1))), (2, .int (nI nl)), (0, .ref o)]) hx hb d_M_countZeros_71 hl (k := 1) rfl (nI_1 _) (by decide) rfl (fun ls hl => ?_)
    refine lv_goto (tgt := 2) hx hb d_M_countZeros_74 (by decide) ?_
    exact ih (i + 1) SQ2 RS2 RW1 (va_up OF i (s9 - r9)) S9 H10 locs ls (by omega) (fun k8 hk8 => by by_cases e9 : k8 = i; exact (by rw [e9, mp_us]; exact ⟨r9, _, pq, _, hrk, hbl, rfl⟩); exact (by rw [mp_un e9]; exact hof k8 (by omega))) h_o h_ta h_sq h_rs h_ro h_ze h_oq hfr hI (lv_sub hl [0, 2] rfl) kx
set_option maxHeartbeats 4000000 in
set_option maxRecDepth 100000 in
/-- how often each counts, in the reference -/
theorem c_M_countZeros (l : Launch) (D : mp_G) (g : Nat → ClassId) (S : mp_M) (sz : Nat) (o ta sq rs ro ze oq s9 nl zc : Nat) (mv1 mv2 mv3 mv4 mv5 mv6 mv7 mv8 mv9 mv10 mv11 mv12 mv13 mv15 mv17 mv18 mv19 mv20 mv24 mv25 mv26 mv28 : Value) (TB ZM : Nat → fF) (SQ RS RW : Nat → fF) (OF : Nat → Nat) (h_o : S o = some (2000, .inr (10, [.int (nI nl), mv1, mv2, mv3, mv4, mv5, mv6, mv7, mv8, mv9, mv10, mv11, mv12, mv13, .int (nI s9), mv15, .ref ta, mv17, mv18, mv19, mv20, .int (nI zc), .ref ze, .ref oq, mv24, mv25, mv26, .ref ro, mv28, .ref sq, .ref rs]))) (h_ta : S ta = some (2009, .inl ((g 0), 768, .inl (fun j => nI (TB j).val)))) (h_sq : S sq = some (2021, .inl ((g 0), 256, .inl (fun j => nI (SQ j).val)))) (h_rs : S rs = some (2022, .inl ((g 0), 256, .inl (fun j => nI (RS j).val)))) (h_ro : S ro = some (2019, .inl ((g 0), 1700, .inl (fun j => nI (RW j).val)))) (h_ze : S ze = some (2014, .inl ((g 0), 51, .inl (fun j => nI (ZM j).val)))) (h_oq : S oq = some (2015, .inl ((g 0), 17, .inl (fun j => nI (OF j))))) (hs : s9 ≤ 16) (hnl : nl ≤ 3) (hzc : zc ≤ 16) : Met l y_M_countZeros w_M_countZeros ({ frames := 4, cells := 0, slots := 0, locals := 97 }) (va_Pc [.ref o] (mp_B0 D classes (tys g) S sz)) (va_Qv (fun (S1 : mp_M) => ∃ (SQ1 RS1 RW1 : Nat → fF) (OF1 : Nat → Nat), S1 sq = some (2021, .inl ((g 0), 256, .inl (fun j => nI (SQ1 j).val))) ∧ S1 rs = some (2022, .inl ((g 0), 256, .inl (fun j => nI (RS1 j).val))) ∧ S1 ro = some (2019, .inl ((g 0), 1700, .inl (fun j => nI (RW1 j).val))) ∧ S1 oq = some (2015, .inl ((g 0), 17, .inl (fun j => nI (OF1 j)))) ∧ (∀ k8, k8 < zc → ofP s9 nl TB ZM k8 (OF1 k8)) ∧ (∀ b t e9, S b = some (t, e9) → (t ≠ 2021) → (t ≠ 2022) → (t ≠ 2019) → (t ≠ 2015) → S1 b = some (t, e9))) (mp_B1 D classes S sz) (mp_A S sz)) 0 0 (mp_A S sz) := by
  refine Met.ofW (cc := b_M_countZeros) (maxL := 3) (ret := none) (by decide) rfl ?_
  intro p e s m args below meth c s₁ B hml hv
  obtain ⟨rfl, hsz, hH, hK⟩ := hv
  have hx := B.exec
  have hb := B.bytes
  have hr := B.returns
  have hts := atoms_spec (ws := w_M_countZeros) B.pre
  have hg : ∀ w ∈ gw, w.before _ s = true := fun w h => hts w (List.mem_cons_of_mem _ h)
  have hown : s.vm.findClass R_M = some m.cls := findClass_of_methodNamed B.named
  have hlocks := B.notSynchronized
  subst hsz
  have hI := mp_I.start hH
  have hl := lv_entry ([.ref o]) (n := 3) (Nat.le_of_ble_eq_true rfl)
  rw [lg_entry_eq]
  generalize (lg_sl ([.ref o]) ++ List.replicate (3 - (lg_sl ([.ref o])).length) Slot.unset).toArray = ls at hl ⊢
  have hl : lv_has ls 3 [(0, .ref o)] := hl
  have hfr : ∀ b t e9, S b = some (t, e9) → (t ≠ 2021) → (t ≠ 2022) → (t ≠ 2019) → (t ≠ 2015) → S b = some (t, e9) := fun _ _ _ h9 _ _ _ _ => h9
  refine lv_iconst (v := nI 0) hx hb d_M_countZeros_0 (by decide) ?_
  refine lv_istore_n (lv' := [(1, .int (nI 0)), (0, .ref o)]) hx hb d_M_countZeros_1 rfl hl (by decide) rfl (fun ls hl => ?_)
  refine lp_M_cz2 (B := S) (o := o) (ta := ta) (sq := sq) (rs := rs) (ro := ro) (ze := ze) (oq := oq) (s9 := s9) (nl := nl) (zc := zc) (mv1 := mv1) (mv2 := mv2) (mv3 := mv3) (mv4 := mv4) (mv5 := mv5) (mv6 := mv6) (mv7 := mv7) (mv8 := mv8) (mv9 := mv9) (mv10 := mv10) (mv11 := mv11) (mv12 := mv12) (mv13 := mv13) (mv15 := mv15) (mv17 := mv17) (mv18 := mv18) (mv19 := mv19) (mv20 := mv20) (mv24 := mv24) (mv25 := mv25) (mv26 := mv26) (mv28 := mv28) (TB := TB) (ZM := ZM) hx hb hml hg hown hK (Nat.le_of_ble_eq_true rfl) (Nat.le_of_ble_eq_true rfl) (Nat.le_of_ble_eq_true rfl) (Nat.le_of_ble_eq_true rfl) hs hnl hzc zc 0 SQ RS RW OF S s.heap _ ls (by omega) (fun k8 hk8 => absurd hk8 (Nat.not_lt_zero k8)) h_o h_ta h_sq h_rs h_ro h_ze h_oq hfr hI (lv_sub hl [0, 1] rfl) (fun SQ1 RS1 RW1 OF1 S1 H2 locs ls hof j_o j_ta j_sq j_rs j_ro j_ze j_oq hfr hI hl => ?_)
  refine mp_vret hx hb hr hlocks hI (Nat.le_of_ble_eq_true rfl) (Nat.le_of_ble_eq_true rfl) ?_ d_M_countZeros_77
  exact ⟨SQ1, RS1, RW1, OF1, j_sq, j_rs, j_ro, j_oq, hof, hfr⟩
