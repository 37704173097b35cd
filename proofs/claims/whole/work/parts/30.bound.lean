/-- no more things than places -/
theorem pig : ∀ (m n : Nat) (f : Nat → Nat), (∀ i, i < n → f i < m) → (∀ i j, i < n → j < n → f i = f j → i = j) → n ≤ m
  | 0, n, f, h1, _ => by
    cases n with
    | zero => exact Nat.le_refl _
    | succ n => exact absurd (h1 0 (by omega)) (Nat.not_lt_zero _)
  | m + 1, n, f, h1, h2 => by
    by_cases h : ∃ i, i < n ∧ f i = m
    · obtain ⟨i0, hi0, e0⟩ := h
      have := pig m (n - 1) (fun j => if j < i0 then f j else f (j + 1)) (fun j hj => by
        show (if j < i0 then f j else f (j + 1)) < m
        by_cases e : j < i0
        · rw [if_pos e]
          have g := h1 j (by omega)
          have : f j ≠ m := fun q => by have := h2 j i0 (by omega) hi0 (q.trans e0.symm); omega
          omega
        · rw [if_neg e]
          have g := h1 (j + 1) (by omega)
          have : f (j + 1) ≠ m := fun q => by have := h2 (j + 1) i0 (by omega) hi0 (q.trans e0.symm); omega
          omega) (fun j k hj hk q => by
        have q : (if j < i0 then f j else f (j + 1)) = (if k < i0 then f k else f (k + 1)) := q
        by_cases e1 : j < i0
        · by_cases e2 : k < i0
          · rw [if_pos e1, if_pos e2] at q; exact h2 j k (by omega) (by omega) q
          · rw [if_pos e1, if_neg e2] at q; have := h2 j (k + 1) (by omega) (by omega) q; omega
        · by_cases e2 : k < i0
          · rw [if_neg e1, if_pos e2] at q; have := h2 (j + 1) k (by omega) (by omega) q; omega
          · rw [if_neg e1, if_neg e2] at q; have := h2 (j + 1) (k + 1) (by omega) (by omega) q; omega)
      omega
    · have := pig m n f (fun i hi => by
        have g := h1 i hi
        have : f i ≠ m := fun q => h ⟨i, hi, q⟩
        omega) h2
      omega
/-- a key that the document's powers have -/
def vK (k : Nat) : Prop := ∃ a b d, a ≤ 9 ∧ b ≤ 9 ∧ d ≤ 9 ∧ k = kN a b d
/-- the reference's place of a key -/
def pl1 (k : Nat) : Nat := k / 32 % 32 + 10 * (k % 32) + 100 * (k / 1024 - k / 32 % 32 - k % 32)
theorem kN_parts {a b d : Nat} (ha : a ≤ 9) (hb : b ≤ 9) (hd : d ≤ 9) : kN a b d % 32 = b ∧ kN a b d / 32 % 32 = a ∧ kN a b d / 1024 = a + b + d := by
  have e : kN a b d / 32 = (a + b + d) * 32 + a := by unfold kN; omega
  refine ⟨by unfold kN; omega, by rw [e]; omega, by unfold kN; omega⟩
theorem pl1_kN {a b d : Nat} (ha : a ≤ 9) (hb : b ≤ 9) (hd : d ≤ 9) : pl1 (kN a b d) = a + 10 * b + 100 * d := by
  obtain ⟨h1, h2, h3⟩ := kN_parts ha hb hd
  unfold pl1
  rw [h1, h2, h3]
  omega
theorem pl1_lt {k : Nat} (h : vK k) : pl1 k < 1000 := by
  obtain ⟨a, b, d, ha, hb, hd, rfl⟩ := h
  rw [pl1_kN ha hb hd]; omega
theorem pl1_inj {k j : Nat} (h : vK k) (g : vK j) (e : pl1 k = pl1 j) : k = j := by
  obtain ⟨a, b, d, ha, hb, hd, rfl⟩ := h
  obtain ⟨a', b', d', ha', hb', hd', rfl⟩ := g
  rw [pl1_kN ha hb hd, pl1_kN ha' hb' hd'] at e
  obtain ⟨rfl, rfl, rfl⟩ : a = a' ∧ b = b' ∧ d = d' := by omega
  rfl
theorem pY_le {z : Nat} {kf nf : Nat → Int32} {c : Nat → Nat} (h : pY z kf nf c) (hv : ∀ k, c k ≠ 0 → vK k) : z ≤ 1000 := by
  obtain ⟨K, X, h1, h2, h3⟩ := h
  have hk : ∀ i, i < z → vK (K i) := fun i hi => hv _ (by obtain ⟨-, -, -, g4, -, g6⟩ := h1 i hi; omega)
  refine pig 1000 z (fun i => pl1 (K i)) (fun i hi => pl1_lt (hk i hi)) (fun i j hi hj e => ?_)
  have e := pl1_inj (hk i hi) (hk j hj) e
  rcases Nat.lt_trichotomy i j with q | q | q
  · have := h2 i j q hj; omega
  · exact q
  · have := h2 j i q hi; omega
/-- the polynomials: numbers at keys, by cf -/
def pG (n : Nat) (cap pz : Nat → Nat) (kf nf : Nat → Nat → Int32) (cf : Nat → Nat → Nat) : Prop := ∀ i, i < n → pY (pz i) (kf i) (nf i) (cf i) ∧ (∀ k, cf i k ≠ 0 → vK k) ∧ pz i ≤ cap i ∧ 4 ≤ cap i ∧ cap i ≤ 2048
theorem pG_put {n : Nat} {cap pz : Nat → Nat} {kf nf : Nat → Nat → Int32} {cf : Nat → Nat → Nat} (h : pG n cap pz kf nf cf) {i key x c1 z1 : Nat} {kf1 nf1 : Nat → Int32} (hp : pY z1 kf1 nf1 (va_up (cf i) key x)) (hk : vK key) (h1 : z1 ≤ c1) (h2 : 4 ≤ c1) (h3 : c1 ≤ 2048) :
    pG n (va_up cap i c1) (va_up pz i z1) (va_up kf i kf1) (va_up nf i nf1) (va_up cf i (va_up (cf i) key x)) := by
  intro j hj
  obtain ⟨g1, g2, g3, g4, g5⟩ := h j hj
  by_cases e : j = i
  · subst e
    rw [mp_us, mp_us, mp_us, mp_us, mp_us]
    refine ⟨hp, fun k hk9 => ?_, h1, h2, h3⟩
    by_cases e : k = key
    · rw [e]; exact hk
    · rw [up_n e] at hk9; exact g2 k hk9
  · rw [mp_un e, mp_un e, mp_un e, mp_un e, mp_un e]
    exact ⟨g1, g2, g3, g4, g5⟩
