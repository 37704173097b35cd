/-! The numbers of the field, as Fin 32003; sums; Fermat. -/
abbrev fF := Fin 32003
def fc (n : Nat) : fF := Fin.ofNat 32003 n
theorem fc_v (n : Nat) : (fc n).val = n % 32003 := rfl
theorem fc_add (a b : Nat) : fc (a + b) = fc a + fc b := by
  apply Fin.ext; rw [Fin.val_add, fc_v, fc_v, fc_v]; omega
theorem fc_mul (a b : Nat) : fc (a * b) = fc a * fc b := by
  apply Fin.ext; rw [Fin.val_mul, fc_v, fc_v, fc_v, ← Nat.mul_mod]
theorem fc_mod (a : Nat) : fc (a % 32003) = fc a := by
  apply Fin.ext; rw [fc_v, fc_v]; omega
theorem fc_inj {a b : Nat} (ha : a < 32003) (hb : b < 32003) (h : fc a = fc b) : a = b := by
  have := congrArg Fin.val h
  rw [fc_v, fc_v] at this; omega
theorem fc_of (x : fF) : fc x.val = x := by apply Fin.ext; rw [fc_v]; exact Nat.mod_eq_of_lt x.isLt
theorem fc_0 : fc 0 = 0 := rfl
theorem fc_1 : fc 1 = 1 := rfl
theorem fc_z {a : Nat} (ha : a < 32003) : fc a = 0 ↔ a = 0 := ⟨fun h => fc_inj ha (by decide) h, fun h => by rw [h]; rfl⟩
theorem fc_p : fc 32003 = 0 := by decide +kernel
theorem fc_neg {a : Nat} (ha : a ≤ 32003) : fc (32003 - a) = - fc a := by
  have h : fc (32003 - a) + fc a = 0 := by rw [← fc_add, show 32003 - a + a = 32003 by omega, fc_p]
  grind
theorem fc_pow (a : Nat) : ∀ n : Nat, fc (a ^ n) = fc a ^ n
  | 0 => by rw [Nat.pow_zero, fc_1]; grind
  | n + 1 => by rw [Nat.pow_succ, fc_mul, fc_pow a n]; grind
/-- 32003 is a prime -/
theorem p_dec : ∀ d : Nat, d < 179 → 1 < d → 32003 % d ≠ 0 := by decide +kernel
theorem p_div {d : Nat} (h : d ∣ 32003) : d = 1 ∨ d = 32003 := by
  obtain ⟨e, he⟩ := h
  by_cases hd : d < 179
  · by_cases h1 : 1 < d
    · exact absurd (by rw [he]; exact Nat.mul_mod_right d e) (p_dec d hd h1)
    · have : d = 0 ∨ d = 1 := by omega
      rcases this with h | h
      · rw [h, Nat.zero_mul] at he; omega
      · exact .inl h
  · by_cases h1 : 1 < e
    · by_cases h2 : e < 179
      · exact absurd (by rw [he]; exact Nat.mul_mod_left d e) (p_dec e h2 h1)
      · have := Nat.mul_le_mul (show 179 ≤ d by omega) (show 179 ≤ e by omega)
        omega
    · have : e = 0 ∨ e = 1 := by omega
      rcases this with h | h
      · rw [h, Nat.mul_zero] at he; omega
      · rw [h, Nat.mul_one] at he; exact .inr he.symm
theorem p_cop {a : Nat} (h0 : 0 < a) (h : a < 32003) : Nat.Coprime 32003 a := by
  rcases p_div (Nat.gcd_dvd_left 32003 a) with e | e
  · exact e
  · have := Nat.le_of_dvd h0 (Nat.gcd_dvd_right 32003 a)
    rw [e] at this; omega
theorem fF_nz {a b : fF} (h : a * b = 0) : a = 0 ∨ b = 0 := by
  by_cases ha : a = 0
  · exact .inl ha
  · right
    have h0 : 0 < a.val := Nat.pos_of_ne_zero (fun e => ha (Fin.ext e))
    have h1 := congrArg Fin.val h
    rw [Fin.val_mul] at h1
    have h2 : 32003 ∣ a.val * b.val := Nat.dvd_of_mod_eq_zero h1
    have h3 := (p_cop h0 a.isLt).dvd_of_dvd_mul_left h2
    apply Fin.ext
    show b.val = 0
    rcases Nat.eq_zero_or_pos b.val with e | e
    · exact e
    · have := Nat.le_of_dvd e h3
      have := b.isLt; omega
theorem fF_can {a b c : fF} (h0 : a ≠ 0) (h : a * b = a * c) : b = c := by
  have : a * (b - c) = 0 := by grind
  rcases fF_nz this with e | e
  · exact absurd e h0
  · grind
/-- sums -/
def sm : Nat → (Nat → fF) → fF
  | 0, _ => 0
  | n + 1, f => sm n f + f n
theorem sm_0 (f : Nat → fF) : sm 0 f = 0 := rfl
theorem sm_s (n : Nat) (f : Nat → fF) : sm (n + 1) f = sm n f + f n := rfl
theorem sm_cg {f g : Nat → fF} : ∀ {n : Nat}, (∀ i, i < n → f i = g i) → sm n f = sm n g
  | 0, _ => rfl
  | n + 1, h => by rw [sm_s, sm_s, sm_cg (fun i hi => h i (Nat.lt_succ_of_lt hi)), h n (Nat.lt_succ_self n)]
theorem sm_z {f : Nat → fF} {n : Nat} (h : ∀ i, i < n → f i = 0) : sm n f = 0 := by
  rw [sm_cg (g := fun _ => 0) h]
  induction n with
  | zero => rfl
  | succ n ih => rw [sm_s, ih (fun i hi => h i (Nat.lt_succ_of_lt hi))]; grind
theorem sm_add (f g : Nat → fF) : ∀ n : Nat, sm n (fun i => f i + g i) = sm n f + sm n g
  | 0 => by simp only [sm_0]; grind
  | n + 1 => by rw [sm_s, sm_s, sm_s, sm_add f g n]; grind
theorem sm_sub (f g : Nat → fF) : ∀ n : Nat, sm n (fun i => f i - g i) = sm n f - sm n g
  | 0 => by simp only [sm_0]; grind
  | n + 1 => by rw [sm_s, sm_s, sm_s, sm_sub f g n]; grind
theorem sm_mul (c : fF) (f : Nat → fF) : ∀ n : Nat, sm n (fun i => c * f i) = c * sm n f
  | 0 => by simp only [sm_0]; grind
  | n + 1 => by rw [sm_s, sm_s, sm_mul c f n]; grind
theorem sm_rmul (c : fF) (f : Nat → fF) : ∀ n : Nat, sm n (fun i => f i * c) = sm n f * c
  | 0 => by simp only [sm_0]; grind
  | n + 1 => by rw [sm_s, sm_s, sm_rmul c f n]; grind
theorem sm_swap (f : Nat → Nat → fF) (m : Nat) : ∀ n : Nat, sm n (fun i => sm m (fun j => f i j)) = sm m (fun j => sm n (fun i => f i j))
  | 0 => by rw [sm_0, sm_z]; intro i _; rfl
  | n + 1 => by
    rw [sm_s, sm_swap f m n]
    show _ = sm m (fun j => sm n (fun i => f i j) + f n j)
    rw [sm_add]
/-- one summand alone -/
theorem sm_one {f : Nat → fF} {n k : Nat} (hk : k < n) (h : ∀ i, i < n → i ≠ k → f i = 0) : sm n f = f k := by
  induction n with
  | zero => exact absurd hk (Nat.not_lt_zero k)
  | succ n ih =>
    rw [sm_s]
    by_cases e : k = n
    · rw [sm_z (fun i hi => h i (Nat.lt_succ_of_lt hi) (by omega)), e]; grind
    · rw [ih (by omega) (fun i hi => h i (Nat.lt_succ_of_lt hi)), h n (Nat.lt_succ_self n) (fun x => e x.symm)]; grind
theorem sm_shift (f : Nat → fF) : ∀ n : Nat, sm (n + 1) f = f 0 + sm n (fun i => f (i + 1))
  | 0 => by rw [sm_s, sm_0, sm_0]; grind
  | n + 1 => by rw [sm_s, sm_shift f n, sm_s]; grind
theorem sm_le {f : Nat → fF} {n m : Nat} (hnm : n ≤ m) (h : ∀ i, n ≤ i → i < m → f i = 0) : sm m f = sm n f := by
  induction m with
  | zero => rw [Nat.le_zero.mp hnm]
  | succ m ih =>
    by_cases e : n = m + 1
    · rw [e]
    · rw [sm_s, ih (by omega) (fun i a b => h i a (by omega)), h m (by omega) (by omega)]; grind
theorem sm_app (f : Nat → fF) (n : Nat) : ∀ m : Nat, sm (n + m) f = sm n f + sm m (fun i => f (n + i))
  | 0 => by rw [sm_0, Nat.add_zero]; grind
  | m + 1 => by rw [← Nat.add_assoc, sm_s, sm_app f n m, sm_s]; grind
/-- binomials -/
def bch : Nat → Nat → Nat
  | _, 0 => 1
  | 0, _ + 1 => 0
  | n + 1, k + 1 => bch n k + bch n (k + 1)
theorem bch_0 (n : Nat) : bch n 0 = 1 := by cases n <;> rfl
theorem bch_s (n k : Nat) : bch (n + 1) (k + 1) = bch n k + bch n (k + 1) := rfl
theorem bch_hi : ∀ (n k : Nat), n < k → bch n k = 0
  | 0, k + 1, _ => rfl
  | n + 1, k + 1, h => by rw [bch_s, bch_hi n k (by omega), bch_hi n (k + 1) (by omega)]
theorem bch_n : ∀ n : Nat, bch n n = 1
  | 0 => rfl
  | n + 1 => by rw [bch_s, bch_n n, bch_hi n (n + 1) (by omega)]
theorem bch_k : ∀ (n k : Nat), (k + 1) * bch (n + 1) (k + 1) = (n + 1) * bch n k
  | 0, 0 => rfl
  | 0, k + 1 => by rw [bch_hi 1 (k + 2) (by omega), bch_hi 0 (k + 1) (by omega), Nat.mul_zero, Nat.mul_zero]
  | n + 1, 0 => by
    have := bch_k n 0
    simp only [bch_s, bch_0, Nat.zero_add] at *; omega
  | n + 1, k + 1 => by
    have h1 := bch_k n k
    have h2 := bch_k n (k + 1)
    rw [bch_s (n + 1) (k + 1), bch_s n k, bch_s n (k + 1)]
    rw [bch_s n k] at h1
    rw [bch_s n (k + 1)] at h2
    grind
theorem bin (x : fF) : ∀ n : Nat, (x + 1) ^ n = sm (n + 1) (fun k => fc (bch n k) * x ^ k)
  | 0 => by rw [sm_s, sm_0, bch_0, fc_1]; grind
  | n + 1 => by
    rw [sm_shift, show (x + 1) ^ (n + 1) = (x + 1) ^ n * x + (x + 1) ^ n by grind]
    have h1 : sm (n + 1) (fun i => fc (bch (n + 1) (i + 1)) * x ^ (i + 1)) = (x + 1) ^ n * x + sm (n + 1) (fun i => fc (bch n (i + 1)) * x ^ (i + 1)) := by
      rw [bin x n, ← sm_rmul, ← sm_add]
      apply sm_cg; intro i _
      show _ = fc (bch n i) * x ^ i * x + fc (bch n (i + 1)) * x ^ (i + 1)
      rw [bch_s, fc_add]; grind
    have h2 : (x + 1) ^ n = fc (bch (n + 1) 0) * x ^ 0 + sm (n + 1) (fun i => fc (bch n (i + 1)) * x ^ (i + 1)) := by
      rw [bin x n, sm_shift (fun k => fc (bch n k) * x ^ k) n, sm_s _ (fun i => fc (bch n (i + 1)) * x ^ (i + 1)), bch_hi n (n + 1) (by omega), bch_0, bch_0, fc_0]; grind
    rw [h1]; grind
theorem pw_s (x : fF) (n : Nat) : x ^ (n + 1) = x ^ n * x := by grind
theorem fr_dream (x : fF) : (x + 1) ^ 32003 = x ^ 32003 + 1 := by
  rw [bin, sm_s, sm_shift (fun k => fc (bch 32003 k) * x ^ k) 32002, sm_z, bch_0, bch_n, fc_1]
  · grind
  · intro i hi
    have h1 := bch_k 32002 i
    have h2 : 32003 ∣ (i + 1) * bch 32003 (i + 1) := ⟨_, h1⟩
    have h3 := (p_cop (show 0 < i + 1 by omega) (by omega)).dvd_of_dvd_mul_left h2
    obtain ⟨e, he⟩ := h3
    show fc (bch 32003 (i + 1)) * x ^ (i + 1) = 0
    rw [he, fc_mul, fc_p]; grind
theorem fermat (x : fF) : x ^ 32003 = x := by
  have : ∀ n : Nat, (fc n) ^ 32003 = fc n := by
    intro n
    induction n with
    | zero => rw [fc_0, show (0 : fF) ^ 32003 = 0 ^ 32002 * 0 from pw_s 0 32002]; grind
    | succ n ih => rw [fc_add, fc_1, fr_dream, ih]
  rw [← fc_of x]; exact this _
theorem ferm1 {x : fF} (h : x ≠ 0) : x ^ 32002 = 1 := by
  apply fF_can h
  have := fermat x
  rw [show x ^ 32003 = x * x ^ 32002 by grind] at this
  rw [this]; grind
theorem iv_ex (x : fF) : ∃ y : fF, y = x ^ 32001 := ⟨_, rfl⟩
/-- 1 through x -/
noncomputable def iv (x : fF) : fF := Classical.choose (iv_ex x)
theorem iv_eq (x : fF) : iv x = x ^ 32001 := Classical.choose_spec (iv_ex x)
theorem iv_mul {x : fF} (h : x ≠ 0) : x * iv x = 1 := by
  have h1 := ferm1 h
  rw [iv_eq]; grind
theorem iv_nz {x : fF} (h : x ≠ 0) : iv x ≠ 0 := by
  intro e; have := iv_mul h; rw [e] at this; grind
theorem fc_iv (n : Nat) : fc (n ^ 32001 % 32003) = iv (fc n) := by rw [fc_mod, iv_eq, fc_pow]

/-- the places but for one -/
def skp (k j : Nat) : Nat := if j < k then j else j + 1
theorem sm_skp (f : Nat → fF) (k : Nat) : ∀ n : Nat, k ≤ n → sm (n + 1) f = f k + sm n (fun j => f (skp k j))
  | 0, h => by rw [Nat.le_zero.mp h, sm_s, sm_0, sm_0]; grind
  | n + 1, h => by
    by_cases e : k = n + 1
    · rw [sm_s, e, sm_cg (f := fun j => f (skp (n + 1) j)) (g := f)]
      · grind
      · intro i hi; show f (skp (n + 1) i) = f i; rw [skp, if_pos hi]
    · rw [sm_s, sm_skp f k n (by omega), sm_s, show skp k n = n + 1 by rw [skp, if_neg (by omega)]]; grind
/-- fewer rows than unknowns: a solution that is not all 0 -/
theorem lin_sol : ∀ (m : Nat) (A : Nat → Nat → fF), ∃ c : Nat → fF, (∃ j, j ≤ m ∧ c j ≠ 0) ∧ ∀ i, i < m → sm (m + 1) (fun j => A i j * c j) = 0
  | 0, A => ⟨fun _ => 1, ⟨0, Nat.le_refl 0, by decide⟩, fun i h => absurd h (Nat.not_lt_zero i)⟩
  | m + 1, A => by
    by_cases hz : ∀ j, j ≤ m + 1 → A m j = 0
    · obtain ⟨c, ⟨j, hj, hc⟩, h⟩ := lin_sol m A
      refine ⟨fun j => if j ≤ m then c j else 0, ⟨j, by omega, by simp only [if_pos hj]; exact hc⟩, fun i hi => ?_⟩
      by_cases e : i = m
      · apply sm_z; intro j hj; rw [e, hz j (by omega)]; grind
      · rw [sm_s]
        have h1 := h i (by omega)
        rw [sm_cg (g := fun j => A i j * c j) (fun j hj => by simp only [if_pos (show j ≤ m by omega)]), h1]
        simp only [if_neg (show ¬ m + 1 ≤ m by omega)]; grind
    · have ⟨k, hk, hkz⟩ : ∃ k, k ≤ m + 1 ∧ A m k ≠ 0 := by
        apply Classical.byContradiction; intro hn; apply hz; intro j hj
        apply Classical.byContradiction; intro h0; exact hn ⟨j, hj, h0⟩
      obtain ⟨c, ⟨j, hj, hc⟩, h⟩ := lin_sol m (fun i j => A i (skp k j) - A i k * (iv (A m k) * A m (skp k j)))
      obtain ⟨t, ht⟩ : ∃ t : fF, t = sm (m + 1) (fun j => A m (skp k j) * c j) := ⟨_, rfl⟩
      obtain ⟨w, hw⟩ : ∃ w : fF, w = iv (A m k) := ⟨_, rfl⟩
      have hv := iv_mul hkz
      rw [← hw] at hv
      simp only [← hw] at h
      let b : Nat → fF := fun j => if j < k then c j else if j = k then - (w * t) else c (j - 1)
      have hb1 : b k = - (w * t) := by show (if k < k then _ else _) = _; rw [if_neg (Nat.lt_irrefl k), if_pos rfl]
      have hb2 : ∀ j, b (skp k j) = c j := by
        intro j; show (if skp k j < k then c (skp k j) else if skp k j = k then _ else c (skp k j - 1)) = c j
        by_cases e : j < k
        · rw [skp, if_pos e, if_pos e]
        · rw [skp, if_neg e, if_neg (by omega), if_neg (by omega), Nat.add_sub_cancel]
      have hs : ∀ i, sm (m + 1 + 1) (fun j => A i j * b j) = A i k * b k + sm (m + 1) (fun j => A i (skp k j) * c j) := by
        intro i
        rw [sm_skp (fun j => A i j * b j) k (m + 1) hk]
        congr 1
        apply sm_cg; intro j _; show A i (skp k j) * b (skp k j) = _; rw [hb2]
      refine ⟨b, ⟨skp k j, by unfold skp; split <;> omega, by rw [hb2]; exact hc⟩, fun i hi => ?_⟩
      rw [hs, hb1]
      by_cases e : i = m
      · rw [e, ← ht]; grind
      · have h1 := h i (by omega)
        have h2 : sm (m + 1) (fun j => (A i (skp k j) - A i k * (w * A m (skp k j))) * c j) = sm (m + 1) (fun j => A i (skp k j) * c j) - (A i k * w) * t := by
          rw [ht, ← sm_mul, ← sm_sub]; apply sm_cg; intro j _; grind
        rw [h2] at h1
        grind
/-- the same, with any more unknowns -/
theorem lin_sol2 {m n : Nat} (hmn : m < n) (A : Nat → Nat → fF) : ∃ c : Nat → fF, (∃ j, j < n ∧ c j ≠ 0) ∧ ∀ i, i < m → sm n (fun j => A i j * c j) = 0 := by
  obtain ⟨c, ⟨j, hj, hc⟩, h⟩ := lin_sol m A
  refine ⟨fun j => if j ≤ m then c j else 0, ⟨j, by omega, by simp only [if_pos hj]; exact hc⟩, fun i hi => ?_⟩
  rw [sm_le (n := m + 1) (by omega) (fun j h1 h2 => by simp only [if_neg (show ¬ j ≤ m by omega)]; grind), ← h i hi]
  exact sm_cg (fun j hj => by simp only [if_pos (show j ≤ m by omega)])

/-! Powers as triples, their order, what divides. -/
abbrev m3 := Nat × Nat × Nat
def ad3 (u v : m3) : m3 := (u.1 + v.1, u.2.1 + v.2.1, u.2.2 + v.2.2)
def sb3 (u v : m3) : m3 := (u.1 - v.1, u.2.1 - v.2.1, u.2.2 - v.2.2)
def lc3 (u v : m3) : m3 := (max u.1 v.1, max u.2.1 v.2.1, max u.2.2 v.2.2)
def dv3 (u v : m3) : Prop := u.1 ≤ v.1 ∧ u.2.1 ≤ v.2.1 ∧ u.2.2 ≤ v.2.2
def sh3 (u v : m3) : Prop := (0 < u.1 ∧ 0 < v.1) ∨ (0 < u.2.1 ∧ 0 < v.2.1) ∨ (0 < u.2.2 ∧ 0 < v.2.2)
theorem m3_ext {u v : m3} (h1 : u.1 = v.1) (h2 : u.2.1 = v.2.1) (h3 : u.2.2 = v.2.2) : u = v := Prod.ext h1 (Prod.ext h2 h3)
theorem ad3_as (u v w : m3) : ad3 (ad3 u v) w = ad3 u (ad3 v w) := m3_ext (Nat.add_assoc _ _ _) (Nat.add_assoc _ _ _) (Nat.add_assoc _ _ _)
theorem ad3_cm (u v : m3) : ad3 u v = ad3 v u := m3_ext (Nat.add_comm _ _) (Nat.add_comm _ _) (Nat.add_comm _ _)
theorem ad3_lc (u v w : m3) : ad3 u (ad3 v w) = ad3 v (ad3 u w) := by rw [← ad3_as, ad3_cm u v, ad3_as]
theorem ad3_0 (u : m3) : ad3 (0, 0, 0) u = u := m3_ext (Nat.zero_add _) (Nat.zero_add _) (Nat.zero_add _)
theorem ad3_sb {u v : m3} (h : dv3 u v) : ad3 (sb3 v u) u = v := m3_ext (Nat.sub_add_cancel h.1) (Nat.sub_add_cancel h.2.1) (Nat.sub_add_cancel h.2.2)
theorem sb3_ad (u v : m3) : sb3 (ad3 u v) v = u := m3_ext (Nat.add_sub_cancel _ _) (Nat.add_sub_cancel _ _) (Nat.add_sub_cancel _ _)
theorem dv3_ad (u v : m3) : dv3 v (ad3 u v) := ⟨Nat.le_add_left _ _, Nat.le_add_left _ _, Nat.le_add_left _ _⟩
theorem dv3_lc {u v w : m3} (h : dv3 u w) (g : dv3 v w) : dv3 (lc3 u v) w := ⟨Nat.max_le.mpr ⟨h.1, g.1⟩, Nat.max_le.mpr ⟨h.2.1, g.2.1⟩, Nat.max_le.mpr ⟨h.2.2, g.2.2⟩⟩
theorem dv3_l1 (u v : m3) : dv3 u (lc3 u v) := ⟨Nat.le_max_left _ _, Nat.le_max_left _ _, Nat.le_max_left _ _⟩
theorem dv3_l2 (u v : m3) : dv3 v (lc3 u v) := ⟨Nat.le_max_right _ _, Nat.le_max_right _ _, Nat.le_max_right _ _⟩
theorem lc3_cop {u v : m3} (h : ¬ sh3 u v) : lc3 u v = ad3 u v := by
  unfold sh3 at h
  refine m3_ext ?_ ?_ ?_ <;> simp only [lc3, ad3] <;> omega
theorem pl_stp {n a : Nat} : ∀ k : Nat, a + 1 + k ≤ n → a * (n + 1) + a + tr2 (a + 1 + k) + (n + 1 - a) ≤ (a + 1 + k) * (n + 1) + (a + 1 + k) + tr2 a
  | 0, h => by
    have h1 := tr2_succ a
    have h2 : (a + 1) * (n + 1) = a * (n + 1) + (n + 1) := Nat.succ_mul _ _
    rw [show a + 1 + 0 = a + 1 from rfl] at *; omega
  | k + 1, h => by
    have ih := pl_stp (n := n) (a := a) k (by omega)
    have h1 := tr2_succ (a + 1 + k)
    have h2 : (a + 1 + k + 1) * (n + 1) = (a + 1 + k) * (n + 1) + (n + 1) := Nat.succ_mul _ _
    rw [show a + 1 + (k + 1) = a + 1 + k + 1 by omega]; omega
theorem pl_lo {u v : m3} (h : u.1 + u.2.1 + u.2.2 < v.1 + v.2.1 + v.2.2 ∨ (u.1 + u.2.1 + u.2.2 = v.1 + v.2.1 + v.2.2 ∧ (u.1 < v.1 ∨ (u.1 = v.1 ∧ u.2.1 < v.2.1)))) : pl3 u < pl3 v := by
  obtain ⟨a, b, d⟩ := u
  obtain ⟨x, y, z⟩ := v
  show plN a b d < plN x y z
  simp only at h
  have e1 := plN_eq a b d
  have e2 := plN_eq x y z
  rcases h with h | ⟨h, g | ⟨g, g2⟩⟩
  · have h1 := (pl_deg a b d).2
    have h2 := (pl_deg x y z).1
    have h3 := tr3_mono (show a + b + d + 1 ≤ x + y + z by omega)
    omega
  · have h1 := pl_stp (n := a + b + d) (a := a) (x - a - 1) (by omega)
    rw [show a + 1 + (x - a - 1) = x by omega] at h1
    rw [← h] at e2
    omega
  · subst g; rw [← h] at e2; omega
theorem pl3_inj {u v : m3} (h : pl3 u = pl3 v) : u = v := by
  have h1 := Ep_pl _ u rfl
  rw [h, Ep_pl _ v rfl] at h1; exact h1.symm
theorem pl_hi {u v : m3} (h : pl3 u < pl3 v) : u.1 + u.2.1 + u.2.2 < v.1 + v.2.1 + v.2.2 ∨ (u.1 + u.2.1 + u.2.2 = v.1 + v.2.1 + v.2.2 ∧ (u.1 < v.1 ∨ (u.1 = v.1 ∧ u.2.1 < v.2.1))) := by
  apply Classical.byContradiction; intro hn
  by_cases e : u = v
  · rw [e] at h; exact absurd h (Nat.lt_irrefl _)
  · have : pl3 v < pl3 u := by
      apply pl_lo
      have h3 : ¬ (u.1 = v.1 ∧ u.2.1 = v.2.1 ∧ u.2.2 = v.2.2) := fun q => e (m3_ext q.1 q.2.1 q.2.2)
      omega
    omega
theorem pl_ad {u v : m3} (s : m3) (h : pl3 u < pl3 v) : pl3 (ad3 s u) < pl3 (ad3 s v) := by
  apply pl_lo
  have := pl_hi h
  simp only [ad3]; omega
theorem pl_ad2 {u v : m3} {s : m3} (h : pl3 (ad3 s u) < pl3 (ad3 s v)) : pl3 u < pl3 v := by
  apply pl_lo
  have := pl_hi h
  simp only [ad3] at this; omega
theorem pl_ge (s u : m3) : pl3 u ≤ pl3 (ad3 s u) := by
  by_cases e : s = (0, 0, 0)
  · rw [e, ad3_0]; exact Nat.le_refl _
  · apply Nat.le_of_lt; apply pl_lo
    have h3 : ¬ (s.1 = 0 ∧ s.2.1 = 0 ∧ s.2.2 = 0) := fun q => e (m3_ext q.1 q.2.1 q.2.2)
    simp only [ad3]; omega
theorem pl_Ep3 (q : Nat) : pl3 (Ep q) = q := pl_Ep q
theorem Ep_pl3 (u : m3) : Ep (pl3 u) = u := Ep_pl _ u rfl
/-- the first of n heads that divides a power; n if there is none -/
def fi (h : Nat → m3) (u : m3) : Nat → Nat
  | 0 => 0
  | n + 1 => if fi h u n < n then fi h u n else if (h n).1 ≤ u.1 ∧ (h n).2.1 ≤ u.2.1 ∧ (h n).2.2 ≤ u.2.2 then n else n + 1
theorem fi_le (h : Nat → m3) (u : m3) : ∀ n, fi h u n ≤ n
  | 0 => Nat.le_refl 0
  | n + 1 => by have := fi_le h u n; unfold fi; split <;> (try split) <;> omega
theorem fi_sp (h : Nat → m3) (u : m3) : ∀ n, (fi h u n < n → dv3 (h (fi h u n)) u) ∧ (∀ j, j < fi h u n → ¬ dv3 (h j) u)
  | 0 => ⟨fun q => absurd q (Nat.not_lt_zero _), fun j q => absurd q (Nat.not_lt_zero _)⟩
  | n + 1 => by
    have ih := fi_sp h u n
    have hl := fi_le h u n
    unfold fi
    by_cases e : fi h u n < n
    · rw [if_pos e]; exact ⟨fun _ => ih.1 e, ih.2⟩
    · have e1 : fi h u n = n := by omega
      rw [if_neg e]
      rw [e1] at ih
      by_cases e2 : (h n).1 ≤ u.1 ∧ (h n).2.1 ≤ u.2.1 ∧ (h n).2.2 ≤ u.2.2
      · rw [if_pos e2]; exact ⟨fun _ => e2, ih.2⟩
      · rw [if_neg e2]
        refine ⟨fun q => absurd q (Nat.lt_irrefl _), fun j q => ?_⟩
        by_cases e3 : j = n
        · rw [e3]; exact e2
        · exact ih.2 j (by omega)
theorem fi_ex {h : Nat → m3} {u : m3} {n i : Nat} (hd : dv3 (h i) u) : fi h u n ≤ i := by
  rcases Nat.lt_or_ge i (fi h u n) with q | q
  · exact absurd hd ((fi_sp h u n).2 i q)
  · exact q
theorem fi_un {h : Nat → m3} {u : m3} {n i : Nat} (hi : i < n) (hd : dv3 (h i) u) (hf : ∀ j, j < i → ¬ dv3 (h j) u) : fi h u n = i := by
  have h1 := fi_ex (n := n) hd
  rcases Nat.lt_or_ge (fi h u n) i with q | q
  · exact absurd ((fi_sp h u n).1 (by omega)) (hf _ q)
  · omega

/-! A list of polynomials (each monic, its head first), rows by place, reduction; Buchberger. -/
def mL (n : Nat) (h : Nat → m3) (z : Nat → Nat) (mo : Nat → Nat → m3) (co : Nat → Nat → fF) : Prop :=
  ∀ i, i < n → 0 < z i ∧ mo i 0 = h i ∧ co i 0 = 1 ∧ ∀ k, 0 < k → k < z i → pl3 (mo i k) < pl3 (h i)
/-- a power times the i-th, its powers valued by g -/
def Ws (z : Nat → Nat) (mo : Nat → Nat → m3) (co : Nat → Nat → fF) (g : m3 → fF) (t : m3) (i : Nat) : fF := sm (z i) (fun k => co i k * g (ad3 t (mo i k)))
/-- a row, c times t times the i-th added -/
def aR (z : Nat → Nat) (mo : Nat → Nat → m3) (co : Nat → Nat → fF) (t : m3) (i : Nat) (c : fF) (R : Nat → fF) : Nat → fF :=
  fun q => R q + c * sm (z i) (fun k => if q = pl3 (ad3 t (mo i k)) then co i k else 0)
theorem aR_0 (z : Nat → Nat) (mo : Nat → Nat → m3) (co : Nat → Nat → fF) (t : m3) (i : Nat) (R : Nat → fF) : aR z mo co t i 0 R = R := by
  funext q; unfold aR; grind
theorem sm_at {T q : Nat} (hq : q < T) (x : fF) (g : Nat → fF) : sm T (fun j => (if j = q then x else 0) * g j) = x * g q := by
  rw [sm_one hq (fun i _ h => by simp only [if_neg h]; grind)]; simp only [if_true]
theorem ph_aR {z : Nat → Nat} {mo : Nat → Nat → m3} {co : Nat → Nat → fF} {t : m3} {i : Nat} {c : fF} {R : Nat → fF} {T : Nat} {g : m3 → fF} (hT : ∀ k, k < z i → pl3 (ad3 t (mo i k)) < T) :
    sm T (fun q => aR z mo co t i c R q * g (Ep q)) = sm T (fun q => R q * g (Ep q)) + c * Ws z mo co g t i := by
  have h1 : sm T (fun q => sm (z i) (fun k => (if q = pl3 (ad3 t (mo i k)) then co i k else 0) * g (Ep q))) = Ws z mo co g t i := by
    rw [sm_swap]
    apply sm_cg; intro k hk
    rw [sm_at (hT k hk) (co i k) (fun q => g (Ep q)), Ep_pl3]
  rw [← h1, ← sm_mul, ← sm_add]
  apply sm_cg; intro q _
  rw [sm_rmul]; unfold aR; grind
theorem Ws_sh {z : Nat → Nat} {mo : Nat → Nat → m3} {co : Nat → Nat → fF} (g : m3 → fF) (s t : m3) (i : Nat) : Ws z mo co (fun u => g (ad3 s u)) t i = Ws z mo co g (ad3 s t) i := by
  unfold Ws; apply sm_cg; intro k _; rw [ad3_as]
theorem mL_le {n : Nat} {h : Nat → m3} {z : Nat → Nat} {mo : Nat → Nat → m3} {co : Nat → Nat → fF} (hL : mL n h z mo co) {i : Nat} (hi : i < n) (t : m3) {k : Nat} (hk : k < z i) : pl3 (ad3 t (mo i k)) ≤ pl3 (ad3 t (h i)) := by
  obtain ⟨_, h0, _, h1⟩ := hL i hi
  by_cases e : k = 0
  · rw [e, h0]; exact Nat.le_refl _
  · exact Nat.le_of_lt (pl_ad t (h1 k (by omega) hk))
/-- reduction: the places below T, from above -/
def rd (n : Nat) (h : Nat → m3) (z : Nat → Nat) (mo : Nat → Nat → m3) (co : Nat → Nat → fF) : Nat → (Nat → fF) → Nat → fF
  | 0, R => R
  | q + 1, R => rd n h z mo co q (if fi h (Ep q) n < n then aR z mo co (sb3 (Ep q) (h (fi h (Ep q) n))) (fi h (Ep q) n) (- R q) R else R)
theorem rd_ph {n : Nat} {h : Nat → m3} {z : Nat → Nat} {mo : Nat → Nat → m3} {co : Nat → Nat → fF} (hL : mL n h z mo co) {g : m3 → fF} {T : Nat} :
    ∀ (q : Nat) (R : Nat → fF), q ≤ T → (∀ j, j < q → fi h (Ep j) n < n → Ws z mo co g (sb3 (Ep j) (h (fi h (Ep j) n))) (fi h (Ep j) n) = 0) →
    sm T (fun j => rd n h z mo co q R j * g (Ep j)) = sm T (fun j => R j * g (Ep j))
  | 0, _, _, _ => rfl
  | q + 1, R, hq, hg => by
    unfold rd
    rw [rd_ph hL q _ (by omega) (fun j hj => hg j (by omega))]
    by_cases e : fi h (Ep q) n < n
    · rw [if_pos e, ph_aR, hg q (by omega) e]
      · grind
      · intro k hk
        have h1 := mL_le hL e (sb3 (Ep q) (h (fi h (Ep q) n))) hk
        rw [ad3_sb ((fi_sp h (Ep q) n).1 e), pl_Ep3] at h1; omega
    · rw [if_neg e]
theorem aR_hi {n : Nat} {h : Nat → m3} {z : Nat → Nat} {mo : Nat → Nat → m3} {co : Nat → Nat → fF} (hL : mL n h z mo co) {i : Nat} (hi : i < n) {t : m3} {c : fF} {R : Nat → fF} {j : Nat} (hj : pl3 (ad3 t (h i)) < j) : aR z mo co t i c R j = R j := by
  unfold aR
  rw [sm_z (fun k hk => by rw [if_neg]; have := mL_le hL hi t hk; omega)]; grind
theorem aR_hd {n : Nat} {h : Nat → m3} {z : Nat → Nat} {mo : Nat → Nat → m3} {co : Nat → Nat → fF} (hL : mL n h z mo co) {i : Nat} (hi : i < n) {t : m3} {c : fF} {R : Nat → fF} : aR z mo co t i c R (pl3 (ad3 t (h i))) = R (pl3 (ad3 t (h i))) + c := by
  obtain ⟨hz, h0, hc, h1⟩ := hL i hi
  unfold aR
  rw [sm_one (k := 0) hz (fun k hk hk0 => by rw [if_neg]; have := pl_ad t (h1 k (by omega) hk); omega), h0, if_pos rfl, hc]; grind
theorem rd_hi {n : Nat} {h : Nat → m3} {z : Nat → Nat} {mo : Nat → Nat → m3} {co : Nat → Nat → fF} (hL : mL n h z mo co) :
    ∀ (q : Nat) (R : Nat → fF) (j : Nat), q ≤ j → rd n h z mo co q R j = R j
  | 0, _, _, _ => rfl
  | q + 1, R, j, hj => by
    unfold rd
    rw [rd_hi hL q _ j (by omega)]
    by_cases e : fi h (Ep q) n < n
    · rw [if_pos e, aR_hi hL e]
      rw [ad3_sb ((fi_sp h (Ep q) n).1 e), pl_Ep3]; omega
    · rw [if_neg e]
theorem rd_z {n : Nat} {h : Nat → m3} {z : Nat → Nat} {mo : Nat → Nat → m3} {co : Nat → Nat → fF} (hL : mL n h z mo co) :
    ∀ (q : Nat) (R : Nat → fF) (j : Nat), j < q → fi h (Ep j) n < n → rd n h z mo co q R j = 0
  | 0, _, j, hj, _ => absurd hj (Nat.not_lt_zero j)
  | q + 1, R, j, hj, hf => by
    unfold rd
    by_cases e : j = q
    · subst e
      rw [rd_hi hL j _ j (Nat.le_refl j), if_pos hf]
      have h1 := aR_hd hL hf (t := sb3 (Ep j) (h (fi h (Ep j) n))) (c := - R j) (R := R)
      rw [ad3_sb ((fi_sp h (Ep j) n).1 hf), pl_Ep3] at h1
      rw [h1]; grind
    · exact rd_z hL q _ j (by omega) hf
/-- Buchberger: if what comes of each two heads with a common letter is reduced to nothing, then every power times every polynomial is worth nothing to a g that is worth nothing at the first that divides -/
theorem buch {n : Nat} {h : Nat → m3} {z : Nat → Nat} {mo : Nat → Nat → m3} {co : Nat → Nat → fF} (hL : mL n h z mo co) {g : m3 → fF}
    (hg : ∀ u, fi h u n < n → Ws z mo co g (sb3 u (h (fi h u n))) (fi h u n) = 0)
    (hS : ∀ i j, i < n → j < n → i ≠ j → sh3 (h i) (h j) → ∀ q, q < pl3 (lc3 (h i) (h j)) + 1 →
      rd n h z mo co (pl3 (lc3 (h i) (h j)) + 1) (aR z mo co (sb3 (lc3 (h i) (h j)) (h j)) j (-1) (aR z mo co (sb3 (lc3 (h i) (h j)) (h i)) i 1 (fun _ => 0))) q = 0) :
    ∀ (m : Nat) (i : Nat) (t : m3), i < n → pl3 (ad3 t (h i)) = m → Ws z mo co g t i = 0 := by
  intro m
  induction m using Nat.strongRecOn with
  | _ m ih =>
  intro i t hi hm
  have hd : dv3 (h i) (ad3 t (h i)) := dv3_ad t (h i)
  have hj0 := fi_ex (n := n) hd
  have hj := (fi_sp h (ad3 t (h i)) n).1 (by omega)
  have hgj := hg (ad3 t (h i)) (by omega)
  generalize ej : fi h (ad3 t (h i)) n = j at *
  by_cases eij : j = i
  · rw [eij, sb3_ad] at hgj; exact hgj
  have hjn : j < n := by omega
  have hLd := dv3_lc hd hj
  obtain ⟨s, hs⟩ : ∃ s, s = sb3 (ad3 t (h i)) (lc3 (h i) (h j)) := ⟨_, rfl⟩
  have hsL : ad3 s (lc3 (h i) (h j)) = ad3 t (h i) := by rw [hs]; exact ad3_sb hLd
  have ht : ad3 s (sb3 (lc3 (h i) (h j)) (h i)) = t := by
    have h1 := ad3_sb (dv3_l1 (h i) (h j))
    rw [← h1, ← ad3_as] at hsL
    have h2 := congrArg (fun u => sb3 u (h i)) hsL
    simp only [sb3_ad] at h2
    exact h2
  have ht' : ad3 s (sb3 (lc3 (h i) (h j)) (h j)) = sb3 (ad3 t (h i)) (h j) := by
    have h1 := ad3_sb (dv3_l2 (h i) (h j))
    rw [← h1, ← ad3_as] at hsL
    have h2 := congrArg (fun u => sb3 u (h j)) hsL
    simp only [sb3_ad] at h2
    exact h2
  by_cases hsh : sh3 (h i) (h j)
  · have hr := hS i j hi hjn (fun q => eij q.symm) hsh
    generalize eL : lc3 (h i) (h j) = L at *
    have hLi : pl3 (ad3 (sb3 L (h i)) (h i)) = pl3 L := by rw [← eL, ad3_sb (dv3_l1 _ _)]
    have hLj : pl3 (ad3 (sb3 L (h j)) (h j)) = pl3 L := by rw [← eL, ad3_sb (dv3_l2 _ _)]
    have k1 : sm (pl3 L + 1) (fun q => aR z mo co (sb3 L (h j)) j (-1) (aR z mo co (sb3 L (h i)) i 1 (fun _ => 0)) q * g (ad3 s (Ep q))) = Ws z mo co g t i - Ws z mo co g (sb3 (ad3 t (h i)) (h j)) j := by
      rw [ph_aR (g := fun u => g (ad3 s u)), ph_aR (g := fun u => g (ad3 s u)), sm_z, Ws_sh, Ws_sh, ht, ht']
      · grind
      · intro q _; grind
      · intro k hk; have := mL_le hL hi (sb3 L (h i)) hk; omega
      · intro k hk; have := mL_le hL hjn (sb3 L (h j)) hk; omega
    have k0 : aR z mo co (sb3 L (h j)) j (-1) (aR z mo co (sb3 L (h i)) i 1 (fun _ => 0)) (pl3 L) = 0 := by
      have h1 := aR_hd hL hi (t := sb3 L (h i)) (c := 1) (R := fun _ => 0)
      have h2 := aR_hd hL hjn (t := sb3 L (h j)) (c := -1) (R := aR z mo co (sb3 L (h i)) i 1 (fun _ => 0))
      rw [hLj] at h2; rw [hLi] at h1
      rw [h2, h1]; grind
    generalize eR : aR z mo co (sb3 L (h j)) j (-1) (aR z mo co (sb3 L (h i)) i 1 (fun _ => 0)) = R0 at *
    have k2 : rd n h z mo co (pl3 L + 1) R0 = rd n h z mo co (pl3 L) R0 := by
      show rd n h z mo co (pl3 L) (if _ then aR z mo co _ _ (- R0 (pl3 L)) R0 else R0) = _
      rw [k0, show - (0 : fF) = 0 by grind, aR_0]
      split <;> rfl
    have k3 := rd_ph hL (g := fun u => g (ad3 s u)) (T := pl3 L + 1) (pl3 L) R0 (Nat.le_succ _) (fun q hq hf => by
      rw [Ws_sh]
      refine ih (pl3 (ad3 (ad3 s (sb3 (Ep q) (h (fi h (Ep q) n)))) (h (fi h (Ep q) n)))) ?_ _ _ hf rfl
      rw [ad3_as, ad3_sb ((fi_sp h (Ep q) n).1 hf), ← hm, ← hsL]
      exact pl_ad s (by rw [pl_Ep3]; exact hq))
    rw [← k2] at k3
    rw [sm_z (fun q hq => by simp only [hr q hq]; grind), k1, hgj] at k3
    grind
  · have eL := lc3_cop hsh
    have ht2 : t = ad3 s (h j) := by rw [← ht, eL, ad3_cm (h i) (h j), sb3_ad]
    have ht3 : sb3 (ad3 t (h i)) (h j) = ad3 s (h i) := by rw [← ht', eL, sb3_ad]
    rw [ht3] at hgj
    have k1 : sm (z i) (fun k => co i k * Ws z mo co g (ad3 s (mo i k)) j) = 0 := by
      apply sm_z; intro k hk
      by_cases e : k = 0
      · rw [e, (hL i hi).2.1, hgj]; grind
      · rw [ih (pl3 (ad3 (ad3 s (mo i k)) (h j))) _ j _ hjn rfl]
        · grind
        · rw [← hm, ht2, ad3_as, ad3_as]
          apply pl_ad s; rw [ad3_cm (mo i k)]
          exact pl_ad (h j) ((hL i hi).2.2.2 k (by omega) hk)
    have k2 : sm (z j) (fun k => co j k * Ws z mo co g (ad3 s (mo j k)) i) = Ws z mo co g t i := by
      rw [sm_one (k := 0) (hL j hjn).1, (hL j hjn).2.1, (hL j hjn).2.2.1, ← ht2]
      · grind
      · intro k hk hk0
        rw [ih (pl3 (ad3 (ad3 s (mo j k)) (h i))) _ i _ hi rfl]
        · grind
        · rw [← hm, ht2, ad3_as, ad3_as]
          apply pl_ad s; rw [ad3_cm (mo j k), ad3_cm (h j)]
          exact pl_ad (h i) ((hL j hjn).2.2.2 k (by omega) hk)
    rw [← k2, ← k1]
    have k3 : ∀ a b : Nat, sm (z a) (fun k => co a k * Ws z mo co g (ad3 s (mo a k)) b) = sm (z a) (fun k => sm (z b) (fun k' => co a k * (co b k' * g (ad3 (ad3 s (mo a k)) (mo b k'))))) := by
      intro a b; apply sm_cg; intro k _; rw [sm_mul]; rfl
    rw [k3, k3, sm_swap]
    apply sm_cg; intro k _; apply sm_cg; intro k' _
    rw [ad3_as, ad3_cm (mo j _), ← ad3_as]; grind

/-! What a power is reduced to, number by number. -/
def nuF (n : Nat) (h : Nat → m3) (z : Nat → Nat) (mo : Nat → Nat → m3) (co : Nat → Nat → fF) (j : Nat) : Nat → m3 → fF
  | 0, _ => 0
  | s + 1, u => if fi h u n < n then - sm (z (fi h u n) - 1) (fun k => co (fi h u n) (k + 1) * nuF n h z mo co j s (ad3 (sb3 u (h (fi h u n))) (mo (fi h u n) (k + 1)))) else if pl3 u = j then 1 else 0
theorem nuF_st {n : Nat} {h : Nat → m3} {z : Nat → Nat} {mo : Nat → Nat → m3} {co : Nat → Nat → fF} (hL : mL n h z mo co) (j : Nat) :
    ∀ (s s' : Nat) (u : m3), pl3 u < s → pl3 u < s' → nuF n h z mo co j s u = nuF n h z mo co j s' u
  | 0, _, u, h1, _ => absurd h1 (Nat.not_lt_zero _)
  | s + 1, 0, u, _, h2 => absurd h2 (Nat.not_lt_zero _)
  | s + 1, s' + 1, u, h1, h2 => by
    unfold nuF
    by_cases e : fi h u n < n
    · rw [if_pos e, if_pos e]
      congr 1
      apply sm_cg; intro k hk
      rw [nuF_st hL j s s']
      · have := pl_ad (sb3 u (h (fi h u n))) ((hL _ e).2.2.2 (k + 1) (by omega) (by omega))
        rw [ad3_sb ((fi_sp h u n).1 e)] at this; omega
      · have := pl_ad (sb3 u (h (fi h u n))) ((hL _ e).2.2.2 (k + 1) (by omega) (by omega))
        rw [ad3_sb ((fi_sp h u n).1 e)] at this; omega
    · rw [if_neg e, if_neg e]
def nu (n : Nat) (h : Nat → m3) (z : Nat → Nat) (mo : Nat → Nat → m3) (co : Nat → Nat → fF) (j : Nat) (u : m3) : fF := nuF n h z mo co j (pl3 u + 1) u
theorem nu_nd {n : Nat} {h : Nat → m3} {z : Nat → Nat} {mo : Nat → Nat → m3} {co : Nat → Nat → fF} {j : Nat} {u : m3} (hu : ¬ fi h u n < n) : nu n h z mo co j u = if pl3 u = j then 1 else 0 := by
  unfold nu nuF; rw [if_neg hu]
theorem nu_dv {n : Nat} {h : Nat → m3} {z : Nat → Nat} {mo : Nat → Nat → m3} {co : Nat → Nat → fF} (hL : mL n h z mo co) {j : Nat} {u : m3} (hu : fi h u n < n) :
    Ws z mo co (nu n h z mo co j) (sb3 u (h (fi h u n))) (fi h u n) = 0 := by
  obtain ⟨hz, h0, hc, h1⟩ := hL _ hu
  unfold Ws
  rw [show z (fi h u n) = z (fi h u n) - 1 + 1 by omega, sm_shift, h0, hc, ad3_sb ((fi_sp h u n).1 hu)]
  rw [show nu n h z mo co j u = - sm (z (fi h u n) - 1) (fun k => co (fi h u n) (k + 1) * nuF n h z mo co j (pl3 u) (ad3 (sb3 u (h (fi h u n))) (mo (fi h u n) (k + 1)))) by
    show nuF n h z mo co j (pl3 u + 1) u = _
    rw [nuF, if_pos hu]]
  rw [sm_cg (f := fun i => co (fi h u n) (i + 1) * nu n h z mo co j (ad3 (sb3 u (h (fi h u n))) (mo (fi h u n) (i + 1)))) (g := fun k => co (fi h u n) (k + 1) * nuF n h z mo co j (pl3 u) (ad3 (sb3 u (h (fi h u n))) (mo (fi h u n) (k + 1))))]
  · grind
  · intro k hk
    have h2 := pl_ad (sb3 u (h (fi h u n))) (h1 (k + 1) (by omega) (by omega))
    rw [ad3_sb ((fi_sp h u n).1 hu)] at h2
    rw [show nu n h z mo co j (ad3 (sb3 u (h (fi h u n))) (mo (fi h u n) (k + 1))) = nuF n h z mo co j (pl3 u) (ad3 (sb3 u (h (fi h u n))) (mo (fi h u n) (k + 1))) from nuF_st hL j _ _ _ (Nat.lt_succ_self _) h2]
/-- the powers that are left: sz of them, lf k; In: which powers are spoken of -/
def lfS (n : Nat) (h : Nat → m3) (z : Nat → Nat) (mo : Nat → Nat → m3) (In : m3 → Prop) (sz : Nat) (lf : Nat → m3) : Prop :=
  (∀ u, In u → fi h u n < n → ∀ k, k < z (fi h u n) → In (ad3 (sb3 u (h (fi h u n))) (mo (fi h u n) k))) ∧
  (∀ u, In u → ¬ fi h u n < n → ∃ k, k < sz ∧ lf k = u) ∧
  (∀ k, k < sz → In (lf k) ∧ ¬ fi h (lf k) n < n) ∧ (∀ k k', k < sz → k' < sz → lf k = lf k' → k = k')
/-- what is worth nothing at the first that divides, hangs on the powers that are left -/
theorem nu_un {n : Nat} {h : Nat → m3} {z : Nat → Nat} {mo : Nat → Nat → m3} {co : Nat → Nat → fF} (hL : mL n h z mo co) {In : m3 → Prop} {sz : Nat} {lf : Nat → m3} (hF : lfS n h z mo In sz lf) {g : m3 → fF}
    (hg : ∀ u, In u → fi h u n < n → Ws z mo co g (sb3 u (h (fi h u n))) (fi h u n) = 0) :
    ∀ (m : Nat) (u : m3), pl3 u = m → In u → g u = sm sz (fun k => nu n h z mo co (pl3 (lf k)) u * g (lf k)) := by
  intro m
  induction m using Nat.strongRecOn with
  | _ m ih =>
  intro u hm hu
  obtain ⟨hF1, hF2, hF3, hF4⟩ := hF
  by_cases e : fi h u n < n
  · obtain ⟨hz, h0, hc, h1⟩ := hL _ e
    have k0 := hF1 u hu e
    have k1 := hg u hu e
    have k2 : ∀ k, nu n h z mo co (pl3 (lf k)) u * g (lf k) = - sm (z (fi h u n) - 1) (fun i => co (fi h u n) (i + 1) * (nu n h z mo co (pl3 (lf k)) (ad3 (sb3 u (h (fi h u n))) (mo (fi h u n) (i + 1))) * g (lf k))) := by
      intro k
      have h2 := nu_dv hL (j := pl3 (lf k)) e
      unfold Ws at h2
      rw [show z (fi h u n) = z (fi h u n) - 1 + 1 by omega, sm_shift, h0, hc, ad3_sb ((fi_sp h u n).1 e)] at h2
      rw [sm_cg (g := fun i => co (fi h u n) (i + 1) * nu n h z mo co (pl3 (lf k)) (ad3 (sb3 u (h (fi h u n))) (mo (fi h u n) (i + 1))) * g (lf k)) (fun i _ => by grind), sm_rmul]
      grind
    rw [sm_cg (fun k _ => k2 k)]
    have k3 : sm sz (fun k => - sm (z (fi h u n) - 1) (fun i => co (fi h u n) (i + 1) * (nu n h z mo co (pl3 (lf k)) (ad3 (sb3 u (h (fi h u n))) (mo (fi h u n) (i + 1))) * g (lf k)))) = - sm (z (fi h u n) - 1) (fun i => co (fi h u n) (i + 1) * g (ad3 (sb3 u (h (fi h u n))) (mo (fi h u n) (i + 1)))) := by
      rw [sm_cg (g := fun k => (-1) * sm (z (fi h u n) - 1) (fun i => co (fi h u n) (i + 1) * (nu n h z mo co (pl3 (lf k)) (ad3 (sb3 u (h (fi h u n))) (mo (fi h u n) (i + 1))) * g (lf k)))) (fun k _ => by grind), sm_mul, sm_swap]
      rw [sm_cg (g := fun i => co (fi h u n) (i + 1) * g (ad3 (sb3 u (h (fi h u n))) (mo (fi h u n) (i + 1))))]
      · grind
      · intro i hi
        have h2 := pl_ad (sb3 u (h (fi h u n))) (h1 (i + 1) (by omega) (by omega))
        rw [ad3_sb ((fi_sp h u n).1 e)] at h2
        rw [sm_mul, ← ih _ (by omega) _ rfl (k0 (i + 1) (by omega))]
    rw [k3]
    unfold Ws at k1
    rw [show z (fi h u n) = z (fi h u n) - 1 + 1 by omega, sm_shift, h0, hc, ad3_sb ((fi_sp h u n).1 e)] at k1
    grind
  · obtain ⟨k, hk, rfl⟩ := hF2 u hu e
    rw [sm_one hk, nu_nd e, if_pos rfl]
    · grind
    · intro i hi hik
      rw [nu_nd e, if_neg]
      · grind
      · intro q; exact hik (hF4 i k hi hk (pl3_inj q.symm))
/-- what is left of a row -/
theorem rd_val {n : Nat} {h : Nat → m3} {z : Nat → Nat} {mo : Nat → Nat → m3} {co : Nat → Nat → fF} (hL : mL n h z mo co) {T : Nat} {R : Nat → fF} {j : Nat} (hj : j < T) (hf : ¬ fi h (Ep j) n < n) :
    rd n h z mo co T R j = sm T (fun q => R q * nu n h z mo co j (Ep q)) := by
  rw [← rd_ph hL (g := nu n h z mo co j) T R (Nat.le_refl T) (fun q _ hq => nu_dv hL hq), sm_one hj]
  · rw [nu_nd hf, pl_Ep3, if_pos rfl]; grind
  · intro q hq hqj
    by_cases e : fi h (Ep q) n < n
    · rw [rd_z hL T R q hq e]; grind
    · rw [nu_nd e, pl_Ep3, if_neg hqj]; grind
theorem rd_unit {n : Nat} {h : Nat → m3} {z : Nat → Nat} {mo : Nat → Nat → m3} {co : Nat → Nat → fF} (hL : mL n h z mo co) {u : m3} {j : Nat} (hj : j ≤ pl3 u) (hf : ¬ fi h (Ep j) n < n) :
    rd n h z mo co (pl3 u + 1) (fun q => if q = pl3 u then 1 else 0) j = nu n h z mo co j u := by
  rw [rd_val hL (Nat.lt_succ_of_le hj) hf, sm_at (Nat.lt_succ_self _) 1 (fun q => nu n h z mo co j (Ep q)), Ep_pl3]; grind
/-- the tables' entries: a letter, or any power x, times the k-th power left, at the i-th -/
def tb (n : Nat) (h : Nat → m3) (z : Nat → Nat) (mo : Nat → Nat → m3) (co : Nat → Nat → fF) (lf : Nat → m3) (x : m3) (i k : Nat) : fF := nu n h z mo co (pl3 (lf i)) (ad3 x (lf k))
/-- powers multiply as their tables do -/
theorem nu_mul {n : Nat} {h : Nat → m3} {z : Nat → Nat} {mo : Nat → Nat → m3} {co : Nat → Nat → fF} (hL : mL n h z mo co) {In : m3 → Prop} {sz : Nat} {lf : Nat → m3} (hF : lfS n h z mo In sz lf)
    (hB : ∀ j i t, i < n → Ws z mo co (nu n h z mo co j) t i = 0) (x u : m3) (hu : In u) (j : Nat) :
    nu n h z mo co j (ad3 x u) = sm sz (fun k => nu n h z mo co (pl3 (lf k)) u * nu n h z mo co j (ad3 x (lf k))) :=
  nu_un hL hF (g := fun v => nu n h z mo co j (ad3 x v)) (fun v _ hf => by rw [Ws_sh]; exact hB _ _ _ hf) _ u rfl hu
theorem tb_comm {n : Nat} {h : Nat → m3} {z : Nat → Nat} {mo : Nat → Nat → m3} {co : Nat → Nat → fF} (hL : mL n h z mo co) {In : m3 → Prop} {sz : Nat} {lf : Nat → m3} (hF : lfS n h z mo In sz lf)
    (hB : ∀ j i t, i < n → Ws z mo co (nu n h z mo co j) t i = 0) (x y : m3) (hx : ∀ u, In u → In (ad3 x u)) (hy : ∀ u, In u → In (ad3 y u)) (i k : Nat) (hk : k < sz) :
    sm sz (fun j => tb n h z mo co lf x i j * tb n h z mo co lf y j k) = sm sz (fun j => tb n h z mo co lf y i j * tb n h z mo co lf x j k) := by
  have k1 := nu_mul hL hF hB x (ad3 y (lf k)) (hy _ (hF.2.2.1 k hk).1) (pl3 (lf i))
  have k2 := nu_mul hL hF hB y (ad3 x (lf k)) (hx _ (hF.2.2.1 k hk).1) (pl3 (lf i))
  rw [ad3_lc, k2] at k1
  unfold tb
  rw [sm_cg (fun j _ => by rw [Lean.Grind.CommRing.mul_comm]), ← k1]
  exact sm_cg (fun j _ => by rw [Lean.Grind.CommRing.mul_comm])

/-! Common zeros: no more than powers are left. -/
def ev (x y w : fF) (u : m3) : fF := x ^ u.1 * y ^ u.2.1 * w ^ u.2.2
theorem pw_add (x : fF) (a : Nat) : ∀ b : Nat, x ^ (a + b) = x ^ a * x ^ b
  | 0 => by rw [Nat.add_zero]; grind
  | b + 1 => by rw [← Nat.add_assoc, pw_s, pw_add x a b, pw_s]; grind
theorem ev_ad (x y w : fF) (t u : m3) : ev x y w (ad3 t u) = ev x y w t * ev x y w u := by
  unfold ev ad3; simp only [pw_add]; grind
theorem zer_le {n : Nat} {h : Nat → m3} {z : Nat → Nat} {mo : Nat → Nat → m3} {co : Nat → Nat → fF} (hL : mL n h z mo co) {In : m3 → Prop} {sz : Nat} {lf : Nat → m3} (hF : lfS n h z mo In sz lf)
    (h0 : In (0, 0, 0)) {N : Nat} {X Y Z : Nat → fF} (hz : ∀ j, j < N → ∀ i, i < n → sm (z i) (fun k => co i k * ev (X j) (Y j) (Z j) (mo i k)) = 0)
    (hd : ∀ j j', j < N → j' < N → j ≠ j' → (X j ≠ X j' ∧ ∀ u, In u → In (ad3 (1, 0, 0) u)) ∨ (Y j ≠ Y j' ∧ ∀ u, In u → In (ad3 (0, 1, 0) u)) ∨ (Z j ≠ Z j' ∧ ∀ u, In u → In (ad3 (0, 0, 1) u))) : N ≤ sz := by
  apply Classical.byContradiction; intro hN
  obtain ⟨c, ⟨j0, hj0, hc⟩, hs⟩ := lin_sol2 (show sz < N by omega) (fun i j => ev (X j) (Y j) (Z j) (lf i))
  have k1 : ∀ u, In u → sm N (fun j => c j * ev (X j) (Y j) (Z j) u) = 0 := by
    intro u hu
    have k2 : ∀ j, j < N → c j * ev (X j) (Y j) (Z j) u = sm sz (fun k => nu n h z mo co (pl3 (lf k)) u * (ev (X j) (Y j) (Z j) (lf k) * c j)) := by
      intro j hj
      rw [nu_un hL hF (g := ev (X j) (Y j) (Z j)) (fun v _ hf => by
        have h1 : Ws z mo co (ev (X j) (Y j) (Z j)) (sb3 v (h (fi h v n))) (fi h v n) = ev (X j) (Y j) (Z j) (sb3 v (h (fi h v n))) * sm (z (fi h v n)) (fun k => co (fi h v n) k * ev (X j) (Y j) (Z j) (mo (fi h v n) k)) := by
          rw [← sm_mul]; unfold Ws; apply sm_cg; intro k _; rw [ev_ad]; grind
        rw [h1, hz j hj _ hf]; grind) _ u rfl hu, ← sm_mul]
      apply sm_cg; intro k _; grind
    rw [sm_cg k2, sm_swap]
    apply sm_z; intro k hk
    rw [sm_mul, hs k hk]; grind
  have k3 : ∀ m, m ≤ N → ∃ P : Nat → fF, (∀ j, j < m → j ≠ j0 → P j = 0) ∧ P j0 ≠ 0 ∧ ∀ u, In u → sm N (fun j => c j * (P j * ev (X j) (Y j) (Z j) u)) = 0 := by
    intro m
    induction m with
    | zero =>
      intro _
      refine ⟨fun _ => 1, fun j hj => absurd hj (Nat.not_lt_zero j), show (1 : fF) ≠ 0 by decide, fun u hu => ?_⟩
      rw [← k1 u hu]; apply sm_cg; intro j _; grind
    | succ m ih =>
      intro hm
      obtain ⟨P, hP1, hP2, hP3⟩ := ih (by omega)
      by_cases e : m = j0
      · exact ⟨P, fun j hj hne => hP1 j (by omega) hne, hP2, hP3⟩
      · have key : ∀ (C : Nat → fF) (l : m3), (∀ j, C j = ev (X j) (Y j) (Z j) l) → C j0 ≠ C m → (∀ u, In u → In (ad3 l u)) → ∃ P : Nat → fF, (∀ j, j < m + 1 → j ≠ j0 → P j = 0) ∧ P j0 ≠ 0 ∧ ∀ u, In u → sm N (fun j => c j * (P j * ev (X j) (Y j) (Z j) u)) = 0 := by
          intro C l hC hne hcl
          refine ⟨fun j => P j * (C j - C m), fun j hj hne => ?_, fun q => ?_, fun u hu => ?_⟩
          · by_cases e2 : j = m
            · show P j * (C j - C m) = 0; rw [e2]; grind
            · show P j * (C j - C m) = 0; rw [hP1 j (by omega) hne]; grind
          · rcases fF_nz q with q | q
            · exact hP2 q
            · exact hne (by grind)
          · have h1 := hP3 _ (hcl u hu)
            have h2 := hP3 u hu
            have h3 : sm N (fun j => c j * (P j * (C j - C m) * ev (X j) (Y j) (Z j) u)) = sm N (fun j => c j * (P j * ev (X j) (Y j) (Z j) (ad3 l u))) - C m * sm N (fun j => c j * (P j * ev (X j) (Y j) (Z j) u)) := by
              rw [← sm_mul, ← sm_sub]; apply sm_cg; intro j _; rw [ev_ad, ← hC]; grind
            rw [h3, h1, h2]; grind
        rcases hd j0 m hj0 (by omega) (fun q => e q.symm) with ⟨q, qc⟩ | ⟨q, qc⟩ | ⟨q, qc⟩
        · exact key X _ (fun j => by unfold ev; grind) q qc
        · exact key Y _ (fun j => by unfold ev; grind) q qc
        · exact key Z _ (fun j => by unfold ev; grind) q qc
  obtain ⟨P, hP1, hP2, hP3⟩ := k3 N (Nat.le_refl N)
  have h1 := hP3 _ h0
  rw [sm_one hj0 (fun j hj hne => by rw [hP1 j hj hne]; grind)] at h1
  rcases fF_nz h1 with q | q
  · exact hc q
  · rcases fF_nz q with q | q
    · exact hP2 q
    · rw [show ev (X j0) (Y j0) (Z j0) (0, 0, 0) = 1 by unfold ev; grind] at q; exact absurd q (by decide)
