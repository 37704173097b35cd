theorem pw_add9 (x : fF) (a : Nat) : ∀ b : Nat, x ^ (a + b) = x ^ a * x ^ b
  | 0 => by rw [Nat.add_zero]; grind
  | b + 1 => by rw [← Nat.add_assoc, pw_s, pw_add9 x a b, pw_s]; grind
/-! Polynomials in one letter, as what they are worth: PL n of a degree below n, PM n monic of degree n. -/
def pe (n : Nat) (c : Nat → fF) (a : fF) : fF := sm n (fun k => c k * a ^ k)
def PL (n : Nat) (f : fF → fF) : Prop := ∃ c : Nat → fF, ∀ a, f a = pe n c a
def PM (n : Nat) (f : fF → fF) : Prop := ∃ c : Nat → fF, ∀ a, f a = pe n c a + a ^ n
theorem pe_s (n : Nat) (c : Nat → fF) (a : fF) : pe (n + 1) c a = pe n c a + c n * a ^ n := rfl
theorem pe_0 (n : Nat) (c : Nat → fF) (a : fF) : pe (n + 1) c a = c 0 + a * pe n (fun k => c (k + 1)) a := by
  unfold pe; rw [sm_shift, ← sm_mul]
  congr 1
  · grind
  · apply sm_cg; intro k _; grind
theorem PL_cg {n : Nat} {f g : fF → fF} (h : ∀ a, f a = g a) (hf : PL n f) : PL n g := by
  obtain ⟨c, hc⟩ := hf; exact ⟨c, fun a => by (try dsimp only); rw [← h, hc]⟩
theorem PM_cg {n : Nat} {f g : fF → fF} (h : ∀ a, f a = g a) (hf : PM n f) : PM n g := by
  obtain ⟨c, hc⟩ := hf; exact ⟨c, fun a => by (try dsimp only); rw [← h, hc]⟩
theorem PL_z (n : Nat) : PL n (fun _ => 0) := ⟨fun _ => 0, fun a => by unfold pe; rw [sm_z]; intro i _; grind⟩
theorem PL_le {n m : Nat} (h : n ≤ m) {f : fF → fF} (hf : PL n f) : PL m f := by
  obtain ⟨c, hc⟩ := hf
  refine ⟨fun k => if k < n then c k else 0, fun a => ?_⟩
  (try dsimp only); rw [hc]; unfold pe
  rw [sm_le h (fun i h1 _ => by simp only [if_neg (show ¬ i < n by omega)]; grind)]
  exact sm_cg (fun i hi => by simp only [if_pos hi])
theorem PL_add {n : Nat} {f g : fF → fF} (hf : PL n f) (hg : PL n g) : PL n (fun a => f a + g a) := by
  obtain ⟨c, hc⟩ := hf; obtain ⟨b, hb⟩ := hg
  exact ⟨fun k => c k + b k, fun a => by (try dsimp only); rw [hc, hb]; unfold pe; rw [← sm_add]; apply sm_cg; intro k _; grind⟩
theorem PL_c {n : Nat} (x : fF) {f : fF → fF} (hf : PL n f) : PL n (fun a => x * f a) := by
  obtain ⟨c, hc⟩ := hf
  exact ⟨fun k => x * c k, fun a => by (try dsimp only); rw [hc]; unfold pe; rw [← sm_mul]; apply sm_cg; intro k _; grind⟩
theorem PL_k {n : Nat} (h : 0 < n) (x : fF) : PL n (fun _ => x) := by
  refine PL_le h (f := fun _ => x) ⟨fun _ => x, fun a => ?_⟩
  unfold pe; rw [sm_s, sm_0]; grind
theorem PL_sh {n : Nat} {f : fF → fF} (hf : PL n f) : PL (n + 1) (fun a => a * f a) := by
  obtain ⟨c, hc⟩ := hf
  refine ⟨fun k => if k = 0 then 0 else c (k - 1), fun a => ?_⟩
  (try dsimp only); rw [pe_0, hc]; simp only [if_true, Nat.add_sub_cancel, if_neg (Nat.succ_ne_zero _)]; grind
theorem PM_sh {n : Nat} {f : fF → fF} (hf : PM n f) : PM (n + 1) (fun a => a * f a) := by
  obtain ⟨c, hc⟩ := hf
  obtain ⟨b, hb⟩ := PL_sh (n := n) ⟨c, fun a => rfl⟩
  exact ⟨b, fun a => by (try dsimp only); rw [hc, ← hb a]; grind⟩
theorem PM_PL {n : Nat} {f : fF → fF} (hf : PM n f) : PL (n + 1) f := by
  obtain ⟨c, hc⟩ := hf
  refine ⟨fun k => if k = n then 1 else c k, fun a => ?_⟩
  (try dsimp only); rw [hc, pe_s]; unfold pe
  rw [if_pos rfl, sm_cg (f := fun k => (if k = n then 1 else c k) * a ^ k) (g := fun k => c k * a ^ k) (fun i hi => by rw [if_neg (by omega)])]; grind
theorem PM_add {n : Nat} {f g : fF → fF} (hf : PM n f) (hg : PL n g) : PM n (fun a => f a + g a) := by
  obtain ⟨c, hc⟩ := hf
  obtain ⟨b, hb⟩ := PL_add (n := n) ⟨c, fun a => rfl⟩ hg
  exact ⟨b, fun a => by (try dsimp only); rw [hc, ← hb a]; grind⟩
theorem PM_1 : PM 0 (fun _ => 1) := ⟨fun _ => 0, fun a => by unfold pe; rw [sm_0]; grind⟩
theorem PL_mul {m : Nat} {g : fF → fF} (hg : PM m g) : ∀ {n : Nat} {f : fF → fF}, PL n f → PL (n + m) (fun a => f a * g a)
  | 0, f, hf => by
    obtain ⟨c, hc⟩ := hf
    refine PL_cg (fun a => ?_) (PL_z _)
    (try dsimp only); rw [hc]; unfold pe; rw [sm_0]; grind
  | n + 1, f, hf => by
    obtain ⟨c, hc⟩ := hf
    have ih := PL_sh (PL_mul hg (n := n) ⟨fun k => c (k + 1), fun a => rfl⟩)
    have h1 := PL_le (show m + 1 ≤ n + m + 1 by omega) (PL_c (c 0) (PM_PL hg))
    rw [show n + 1 + m = n + m + 1 by omega]
    refine PL_cg (fun a => ?_) (PL_add h1 ih)
    (try dsimp only); rw [hc, pe_0]; grind
theorem PM_pw {m : Nat} {g : fF → fF} (hg : PM m g) : ∀ n : Nat, PM (n + m) (fun a => a ^ n * g a)
  | 0 => by rw [Nat.zero_add]; exact PM_cg (fun a => by grind) hg
  | n + 1 => by
    rw [show n + 1 + m = n + m + 1 by omega]
    exact PM_cg (fun a => by grind) (PM_sh (PM_pw hg n))
theorem PM_mul {n m : Nat} {f g : fF → fF} (hf : PM n f) (hg : PM m g) : PM (n + m) (fun a => f a * g a) := by
  obtain ⟨c, hc⟩ := hf
  have h1 := PL_mul hg (n := n) ⟨c, fun a => rfl⟩
  exact PM_cg (fun a => by (try dsimp only); rw [hc]; grind) (PM_add (PM_pw hg n) h1)
/-- a root parts off -/
theorem pe_root (r : fF) : ∀ (n : Nat) (c : Nat → fF), ∃ g : fF → fF, PL (n - 1) g ∧ ∀ a, pe n c a = (a - r) * g a + pe n c r
  | 0, c => ⟨fun _ => 0, PL_z _, fun a => by unfold pe; simp only [sm_0]; grind⟩
  | 1, c => ⟨fun _ => 0, PL_z _, fun a => by unfold pe; simp only [sm_0, sm_s]; grind⟩
  | n + 2, c => by
    obtain ⟨g, hg, h⟩ := pe_root r (n + 1) (fun k => c (k + 1))
    refine ⟨fun a => pe (n + 1) (fun k => c (k + 1)) r + a * g a, PL_add (PL_k (by omega) _) (PL_sh hg), fun a => ?_⟩
    rw [pe_0 (n + 1) c a, pe_0 (n + 1) c r, h a]; grind
theorem PM_pt (r : fF) : ∀ n : Nat, ∃ g : fF → fF, PM n g ∧ ∀ a, a ^ (n + 1) = (a - r) * g a + r ^ (n + 1)
  | 0 => ⟨fun _ => 1, PM_1, fun a => by grind⟩
  | n + 1 => by
    obtain ⟨g, hg, h⟩ := PM_pt r n
    refine ⟨fun a => a * g a + r ^ (n + 1), PM_add (PM_sh hg) (PL_k (by omega) _), fun a => ?_⟩
    have := h a
    rw [pw_s a (n + 1), pw_s r (n + 1), this]; grind
theorem PM_root {n : Nat} {f : fF → fF} (hf : PM (n + 1) f) {r : fF} (hr : f r = 0) : ∃ g, PM n g ∧ ∀ a, f a = (a - r) * g a := by
  obtain ⟨c, hc⟩ := hf
  obtain ⟨g, hg, h⟩ := pe_root r (n + 1) c
  obtain ⟨k, hk, h2⟩ := PM_pt r n
  refine ⟨fun a => k a + g a, PM_add hk hg, fun a => ?_⟩
  have h3 := hc r
  rw [hr] at h3
  rw [hc, h, h2]; grind
/-- no more roots than the degree -/
theorem PM_le : ∀ {n : Nat} {f : fF → fF}, PM n f → ∀ {N : Nat} {ρ : Nat → fF}, (∀ i, i < N → f (ρ i) = 0) → (∀ i j, i < N → j < N → ρ i = ρ j → i = j) → N ≤ n
  | 0, f, hf, N, ρ, h1, h2 => by
    rcases Nat.eq_zero_or_pos N with e | e
    · omega
    · obtain ⟨c, hc⟩ := hf
      have h3 := hc (ρ 0)
      rw [h1 0 e] at h3
      unfold pe at h3; rw [sm_0] at h3
      have : (0 : fF) = 1 := by grind
      exact absurd this (by decide)
  | n + 1, f, hf, N, ρ, h1, h2 => by
    cases N with
    | zero => omega
    | succ N =>
      obtain ⟨g, hg, h⟩ := PM_root hf (h1 N (Nat.lt_succ_self N))
      have := PM_le hg (N := N) (ρ := ρ) (fun i hi => by
        have h3 := h1 i (by omega)
        rw [h] at h3
        rcases fF_nz h3 with q | q
        · have := h2 i N (by omega) (by omega) (by grind); omega
        · exact q) (fun i j hi hj e => h2 i j (by omega) (by omega) e)
      omega
/-- those of d numbers that P holds of, and the others -/
theorem prt (P : fF → Prop) (ρ : Nat → fF) : ∀ d : Nat, (∀ i j, i < d → j < d → ρ i = ρ j → i = j) → ∃ (n m : Nat) (σ τ : Nat → fF), n + m = d ∧
    (∀ i, i < n → P (σ i) ∧ ∃ k, k < d ∧ ρ k = σ i) ∧ (∀ i, i < m → ¬ P (τ i) ∧ ∃ k, k < d ∧ ρ k = τ i) ∧
    (∀ i j, i < n → j < n → σ i = σ j → i = j) ∧ (∀ i j, i < m → j < m → τ i = τ j → i = j)
  | 0, _ => ⟨0, 0, ρ, ρ, rfl, fun i h => absurd h (Nat.not_lt_zero i), fun i h => absurd h (Nat.not_lt_zero i), fun i _ h => absurd h (Nat.not_lt_zero i), fun i _ h => absurd h (Nat.not_lt_zero i)⟩
  | d + 1, hd => by
    obtain ⟨n, m, σ, τ, h1, h2, h3, h4, h5⟩ := prt P ρ d (fun i j hi hj => hd i j (by omega) (by omega))
    have up : ∀ (n : Nat) (σ : Nat → fF) (Q : fF → Prop), Q (ρ d) → (∀ i, i < n → Q (σ i) ∧ ∃ k, k < d ∧ ρ k = σ i) → (∀ i j, i < n → j < n → σ i = σ j → i = j) →
        (∀ i, i < n + 1 → Q (if i = n then ρ d else σ i) ∧ ∃ k, k < d + 1 ∧ ρ k = (if i = n then ρ d else σ i)) ∧ (∀ i j, i < n + 1 → j < n + 1 → (if i = n then ρ d else σ i) = (if j = n then ρ d else σ j) → i = j) := by
      intro n σ Q hQ h2 h4
      refine ⟨fun i hi => ?_, fun i j hi hj e => ?_⟩
      · by_cases e : i = n
        · rw [if_pos e]; exact ⟨hQ, d, by omega, rfl⟩
        · rw [if_neg e]; obtain ⟨q, k, hk, hk2⟩ := h2 i (by omega); exact ⟨q, k, by omega, hk2⟩
      · by_cases e1 : i = n
        · by_cases e2 : j = n
          · omega
          · rw [if_pos e1, if_neg e2] at e
            obtain ⟨_, k, hk, hk2⟩ := h2 j (by omega)
            have := hd d k (by omega) (by omega) (by rw [hk2, e]); omega
        · by_cases e2 : j = n
          · rw [if_neg e1, if_pos e2] at e
            obtain ⟨_, k, hk, hk2⟩ := h2 i (by omega)
            have := hd d k (by omega) (by omega) (by rw [hk2, ← e]); omega
          · rw [if_neg e1, if_neg e2] at e; exact h4 i j (by omega) (by omega) e
    have wk : ∀ (m : Nat) (τ : Nat → fF) (Q : fF → Prop), (∀ i, i < m → Q (τ i) ∧ ∃ k, k < d ∧ ρ k = τ i) → (∀ i, i < m → Q (τ i) ∧ ∃ k, k < d + 1 ∧ ρ k = τ i) := by
      intro m τ Q h i hi
      obtain ⟨q, k, hk, hk2⟩ := h i hi; exact ⟨q, k, by omega, hk2⟩
    by_cases e : P (ρ d)
    · obtain ⟨u1, u2⟩ := up n σ P e h2 h4
      exact ⟨n + 1, m, _, τ, by omega, u1, wk m τ (fun x => ¬ P x) h3, u2, h5⟩
    · obtain ⟨u1, u2⟩ := up m τ (fun x => ¬ P x) e h3 h5
      exact ⟨n, m + 1, σ, _, by omega, wk n σ P h2, u1, h4, u2⟩
/-- split: as many roots as the degree -/
def SPl (d : Nat) (f : fF → fF) : Prop := PM d f ∧ ∃ ρ : Nat → fF, (∀ i, i < d → f (ρ i) = 0) ∧ (∀ i j, i < d → j < d → ρ i = ρ j → i = j)
/-- what divides what is split is split, and so is what is left -/
theorem SPl_dv {d e : Nat} {f g A : fF → fF} (hf : SPl d f) (hg : PM e g) (hA : PM (d - e) A) (he : e ≤ d) (h : ∀ a, f a = A a * g a) : SPl e g ∧ SPl (d - e) A ∧ ∀ a, ¬ (A a = 0 ∧ g a = 0 ∧ False) := by
  obtain ⟨_, ρ, r1, r2⟩ := hf
  obtain ⟨n, m, σ, τ, h1, h2, h3, h4, h5⟩ := prt (fun a => g a = 0) ρ d r2
  have k1 := PM_le hg (fun i hi => (h2 i hi).1) h4
  have hz : ∀ i, i < m → A (τ i) = 0 := by
    intro i hi
    obtain ⟨q, k, hk, hk2⟩ := h3 i hi
    have := r1 k hk
    rw [hk2, h] at this
    rcases fF_nz this with q2 | q2
    · exact q2
    · exact absurd q2 q
  have k2 := PM_le hA hz h5
  have e1 : n = e := by omega
  have e2 : m = d - e := by omega
  subst e1; subst e2
  exact ⟨⟨hg, σ, fun i hi => (h2 i hi).1, h4⟩, ⟨hA, τ, hz, h5⟩, fun a q => q.2.2⟩
/-- at a root of what is split just one factor is 0 -/
theorem SPl_x {d e : Nat} {f g A : fF → fF} (hf : SPl d f) (hg : PM e g) (hA : PM (d - e) A) (he : e ≤ d) (h : ∀ a, f a = A a * g a) (a : fF) : A a = 0 → g a ≠ 0 := by
  intro h1 h2
  obtain ⟨hM, ρ, r1, r2⟩ := hf
  obtain ⟨⟨_, σ, s1, s2⟩, ⟨_, τ, t1, t2⟩, _⟩ := SPl_dv ⟨hM, ρ, r1, r2⟩ hg hA he h
  -- a is a root twice: then f over (a's factor) has still all its roots but too small a degree
  cases e with
  | zero => exact absurd (PM_le hg (N := 1) (ρ := fun _ => a) (fun _ _ => h2) (fun i j hi hj _ => by omega)) (by omega)
  | succ e =>
    obtain ⟨g2, hg2, h3⟩ := PM_root hg h2
    have k1 := PM_mul hA hg2
    have k2 := PM_le k1 (N := d) (ρ := ρ) (fun i hi => by
      have q := r1 i hi
      rw [h] at q
      show A (ρ i) * g2 (ρ i) = 0
      rcases fF_nz q with q | q
      · rw [q]; grind
      · rw [h3] at q
        rcases fF_nz q with q | q
        · rw [show ρ i = a by grind, h1]; grind
        · rw [q]; grind) r2
    omega
/-- x^p - x is split -/
theorem SPl_p : SPl 32003 (fun a => a ^ 32003 - a) := by
  refine ⟨?_, fc, fun i _ => by show fc i ^ 32003 - fc i = 0; rw [fermat]; grind, fun i j hi hj e => fc_inj hi hj e⟩
  have h1 : PL 32003 (fun a => -a) := PL_le (show 2 ≤ 32003 by decide) ⟨fun k => if k = 1 then -1 else 0, fun a => by unfold pe; rw [sm_s, sm_s, sm_0]; simp; grind⟩
  obtain ⟨c, hc⟩ := h1
  exact ⟨c, fun a => by (try dsimp only); rw [← hc a]; grind⟩
/-- squares -/
theorem sq_pm {x : fF} (h : x ≠ 0) : x ^ 16001 = 1 ∨ x ^ 16001 = -1 := by
  have h1 := ferm1 h
  have h3 : x ^ 32002 = x ^ 16001 * x ^ 16001 := pw_add9 x 16001 16001
  rw [h1] at h3
  generalize x ^ 16001 = y at h3
  have h2 : (y - 1) * (y + 1) = 0 := by grobner
  rcases fF_nz h2 with q | q
  · left; grobner
  · right; grobner
theorem ng_pw (x : fF) : ∀ k : Nat, (-x) ^ (2 * k + 1) = - x ^ (2 * k + 1)
  | 0 => by grind
  | k + 1 => by
    have h := ng_pw x k
    rw [show 2 * (k + 1) + 1 = 2 * k + 1 + 1 + 1 by omega, pw_s, pw_s, pw_s x, pw_s x, h]; grind
theorem zr_pw (n : Nat) : (0 : fF) ^ (n + 1) = 0 := by rw [pw_s]; grind
theorem ng_pw2 (x : fF) {n k : Nat} (h : n = 2 * k + 1) : (-x) ^ n = - (x ^ n) := by subst h; exact ng_pw x k
theorem fz1 (a : fF) : a + -a = 0 := by grind
theorem fz2 (a b : fF) : b + -a = b - a := by grind
theorem fz3 (a b : fF) : a + -b = -(b - a) := by grind
/-- any two numbers are told apart by a shift -/
theorem sq_sep {a b : fF} (h : a ≠ b) : ∃ s : Nat, s < 32003 ∧ ¬ ((a + fc s) ^ 16001 = 1 ↔ (b + fc s) ^ 16001 = 1) := by
  have h0 : ¬ (0 : fF) ^ 16001 = 1 := by rw [show (0 : fF) ^ 16001 = 0 from zr_pw 16000]; decide
  have hc : b - a ≠ 0 := fun q => h (by grind)
  rcases sq_pm hc with q | q
  · refine ⟨(-a).val, (-a).isLt, fun e => h0 ?_⟩
    rw [fc_of, fz1, fz2 a b] at e
    exact e.mpr q
  · refine ⟨(-b).val, (-b).isLt, fun e => h0 ?_⟩
    rw [fc_of, fz1, fz3 a b, ng_pw2 (b - a) (show 16001 = 2 * 8000 + 1 from rfl), q] at e
    exact e.mp (by decide)

/-! Operators on rows of s numbers; powers of one of them; what they leave, and what they reach. -/
def Lin (f : (Nat → fF) → Nat → fF) : Prop := ∀ (a b : fF) (u v : Nat → fF), f (fun i => a * u i + b * v i) = fun i => a * f u i + b * f v i
def trn (s : Nat) (v : Nat → fF) : Prop := ∀ i, s ≤ i → v i = 0
def Kp (s : Nat) (f : (Nat → fF) → Nat → fF) : Prop := ∀ v, trn s v → trn s (f v)
def Cm (s : Nat) (f g : (Nat → fF) → Nat → fF) : Prop := ∀ v, trn s v → f (g v) = g (f v)
def itr (f : (Nat → fF) → Nat → fF) : Nat → (Nat → fF) → Nat → fF
  | 0, v => v
  | n + 1, v => f (itr f n v)
theorem Lin_z {f : (Nat → fF) → Nat → fF} (h : Lin f) : f (fun _ => 0) = fun _ => 0 := by
  have := h 0 0 (fun _ => 0) (fun _ => 0)
  rw [show (fun _ : Nat => (0 : fF) * 0 + 0 * 0) = (fun _ => 0) by funext i; grind] at this
  rw [this]; funext i; grind
theorem Lin_c {f : (Nat → fF) → Nat → fF} (h : Lin f) (a : fF) (u : Nat → fF) : f (fun i => a * u i) = fun i => a * f u i := by
  have := h a 0 u (fun _ => 0)
  rw [show (fun i => a * u i + 0 * 0) = (fun i => a * u i) by funext i; grind] at this
  rw [this]; funext i; grind
theorem Lin_sub {f : (Nat → fF) → Nat → fF} (h : Lin f) (u v : Nat → fF) : f (fun i => u i - v i) = fun i => f u i - f v i := by
  have := h 1 (-1) u v
  rw [show (fun i => 1 * u i + -1 * v i) = (fun i => u i - v i) by funext i; grind] at this
  rw [this]; funext i; grind
theorem Lin_sm {f : (Nat → fF) → Nat → fF} (h : Lin f) (a : Nat → fF) (V : Nat → Nat → fF) : ∀ n, f (fun i => sm n (fun k => a k * V k i)) = fun i => sm n (fun k => a k * f (V k) i)
  | 0 => Lin_z h
  | n + 1 => by
    have h1 := h 1 (a n) (fun i => sm n (fun k => a k * V k i)) (V n)
    rw [Lin_sm h a V n] at h1
    rw [show (fun i => sm (n + 1) (fun k => a k * V k i)) = (fun i => 1 * sm n (fun k => a k * V k i) + a n * V n i) by funext i; rw [sm_s]; grind, h1]
    funext i; rw [sm_s]; grind
theorem itr_Lin {f : (Nat → fF) → Nat → fF} (h : Lin f) : ∀ n, Lin (itr f n)
  | 0 => fun _ _ _ _ => rfl
  | n + 1 => fun a b u v => by show f (itr f n _) = _; rw [itr_Lin h n a b u v, h]; rfl
theorem itr_Kp {s : Nat} {f : (Nat → fF) → Nat → fF} (h : Kp s f) : ∀ n, Kp s (itr f n)
  | 0 => fun _ hv => hv
  | n + 1 => fun v hv => h _ (itr_Kp h n v hv)
theorem itr_add (f : (Nat → fF) → Nat → fF) (a : Nat) : ∀ (b : Nat) (v : Nat → fF), itr f (b + a) v = itr f b (itr f a v)
  | 0, v => by rw [Nat.zero_add]; rfl
  | b + 1, v => by rw [Nat.succ_add]; show f (itr f (b + a) v) = f _; rw [itr_add f a b v]
theorem Cm_itr {s : Nat} {f g : (Nat → fF) → Nat → fF} (hg : Kp s g) (h : Cm s f g) : ∀ n, Cm s f (itr g n)
  | 0 => fun _ _ => rfl
  | n + 1 => fun v hv => by
    show f (g (itr g n v)) = g (itr g n (f v))
    rw [h _ (itr_Kp hg n v hv), Cm_itr hg h n v hv]
theorem Cm_sy {s : Nat} {f g : (Nat → fF) → Nat → fF} (h : Cm s f g) : Cm s g f := fun v hv => (h v hv).symm
theorem itr_1 (f : (Nat → fF) → Nat → fF) (n : Nat) (v : Nat → fF) : itr f (n + 1) v = itr f n (f v) := itr_add f 1 n v
theorem fst_nz {c : Nat → fF} {s : Nat} (hc : ∃ k, k ≤ s ∧ c k ≠ 0) : ∃ j, j ≤ s ∧ c j ≠ 0 ∧ ∀ k, k < j → c k = 0 := by
  obtain ⟨k, hk, hn⟩ := hc
  induction k using Nat.strongRecOn with
  | _ k ih =>
    by_cases e : ∃ k', k' < k ∧ c k' ≠ 0
    · obtain ⟨k', h1, h2⟩ := e; exact ih k' h1 (by omega) h2
    · exact ⟨k, hk, hn, fun k' h1 => Classical.byContradiction fun h2 => e ⟨k', h1, h2⟩⟩
theorem fitw {s : Nat} {P : (Nat → fF) → Nat → fF} (hl : Lin P) (hk : Kp s P) {c : Nat → fF} (hc : ∃ k, k ≤ s ∧ c k ≠ 0) (hr : ∀ v, trn s v → ∀ i, sm (s + 1) (fun k => c k * itr P k v i) = 0) :
    ∃ w : (Nat → fF) → Nat → fF, Lin w ∧ Kp s w ∧ (∀ R, Lin R → Kp s R → Cm s R P → Cm s R w) ∧ ∀ v, trn s v → itr P s v = itr P (s + 1) (w v) := by
  obtain ⟨j, hj, hcj, h0⟩ := fst_nz hc
  have hv := iv_mul hcj
  generalize iv (c j) = y at hv
  refine ⟨fun v i => sm (s - j) (fun k => (- y * c (j + 1 + k)) * itr P k v i), ?_, ?_, ?_, ?_⟩
  · intro a b u v
    funext i
    rw [← sm_mul, ← sm_mul, ← sm_add]; apply sm_cg; intro k _; rw [itr_Lin hl k a b u v]; grobner
  · intro v hv i hi
    apply sm_z; intro k _; rw [itr_Kp hk k v hv i hi]; grobner
  · intro R hR hRk hRP v hv
    rw [Lin_sm hR]
    funext i; apply sm_cg; intro k _; rw [Cm_itr hk hRP k v hv]
  · intro v hv2
    have k1 : itr P j v = itr P (j + 1) (fun i => sm (s - j) (fun k => (- y * c (j + 1 + k)) * itr P k v i)) := by
      rw [Lin_sm (itr_Lin hl (j + 1))]
      funext i
      have h1 := hr v hv2 i
      rw [show s + 1 = j + 1 + (s - j) by omega, sm_app, sm_s, sm_z (fun k hk => by rw [h0 k hk]; grobner)] at h1
      rw [sm_cg (g := fun k => (-y) * (c (j + 1 + k) * itr P (j + 1 + k) v i)) (fun k _ => by rw [show itr P (j + 1 + k) v i = itr P (j + 1) (itr P k v) i by rw [itr_add]]; grobner), sm_mul]
      grobner
    have k2 := itr_add P j (s - j) v
    rw [show s - j + j = s by omega] at k2
    rw [k2, k1, ← itr_add, show s - j + (j + 1) = s + 1 by omega]
theorem fitp {s : Nat} {P w : (Nat → fF) → Nat → fF} (hk : Kp s P) (hw : Kp s w) (hc : Cm s w P) (h : ∀ v, trn s v → itr P s v = itr P (s + 1) (w v)) {m : Nat} (hm : s ≤ m) : ∀ (i : Nat) (v : Nat → fF), trn s v → itr P m v = itr P (m + i) (itr w i v)
  | 0, v, _ => rfl
  | i + 1, v, hv => by
    rw [fitp hk hw hc h hm i v hv]
    have h1 := itr_Kp hw i v hv
    have h2 := h _ (itr_Kp hk (m + i - s) _ h1)
    rw [← itr_add, show s + (m + i - s) = m + i by omega] at h2
    rw [h2, Cm_itr hk hc _ _ h1, ← itr_add, show s + 1 + (m + i - s) = m + (i + 1) by omega]
    rfl
/-- the part of one operator that its power reaches: e; its rest is what the power leaves -/
theorem fite {s : Nat} (hs : s ≤ 16) {P : (Nat → fF) → Nat → fF} (hl : Lin P) (hk : Kp s P) {c : Nat → fF} (hc : ∃ k, k ≤ s ∧ c k ≠ 0) (hr : ∀ v, trn s v → ∀ i, sm (s + 1) (fun k => c k * itr P k v i) = 0) :
    ∃ e y : (Nat → fF) → Nat → fF, Lin e ∧ Kp s e ∧ Kp s y ∧ (∀ R, Lin R → Kp s R → Cm s R P → Cm s R e) ∧ (∀ v, trn s v → e v = itr P s (y v)) ∧
      (∀ v, trn s v → itr P s (e v) = itr P s v) ∧ (∀ v, trn s v → itr P 16 (e v) = itr P 16 v) ∧ (∀ v, trn s v → itr P 16 v = (fun _ => 0) → e v = fun _ => 0) := by
  obtain ⟨w, w1, w2, w3, w4⟩ := fitw hl hk hc hr
  have wP : Cm s w P := Cm_sy (w3 P hl hk (fun _ _ => rfl))
  have hcm : ∀ v, trn s v → itr P 16 (itr w 16 v) = itr w 16 (itr P 16 v) := fun v hv => by
    have h1 : Cm s (itr P 16) w := Cm_sy (Cm_itr hk wP 16)
    exact Cm_itr w2 h1 16 v hv
  refine ⟨fun v => itr P 16 (itr w 16 v), fun v => itr P (16 - s) (itr w 16 v), ?_, ?_, ?_, ?_, ?_, ?_, ?_, ?_⟩
  · intro a b u v; show itr P 16 (itr w 16 _) = _; rw [itr_Lin w1 16, itr_Lin hl 16]
  · intro v hv; exact itr_Kp hk 16 _ (itr_Kp w2 16 v hv)
  · intro v hv; exact itr_Kp hk _ _ (itr_Kp w2 16 v hv)
  · intro R hR hRk hRP v hv
    show R (itr P 16 (itr w 16 v)) = itr P 16 (itr w 16 (R v))
    rw [Cm_itr hk hRP 16 _ (itr_Kp w2 16 v hv), Cm_itr w2 (w3 R hR hRk hRP) 16 v hv]
  · intro v hv
    show itr P 16 (itr w 16 v) = _
    rw [← itr_add]; congr 1; omega
  · intro v hv
    show itr P s (itr P 16 (itr w 16 v)) = _
    rw [← itr_add, ← fitp hk w2 wP w4 (Nat.le_refl s) 16 v hv]
  · intro v hv
    show itr P 16 (itr P 16 (itr w 16 v)) = _
    rw [← itr_add, ← fitp hk w2 wP w4 hs 16 v hv]
  · intro v hv h0
    show itr P 16 (itr w 16 v) = _
    rw [hcm v hv, h0, Lin_z (itr_Lin w1 16)]
/-- the same of L operators that commute -/
theorem fitE {s L : Nat} (hs : s ≤ 16) {P : Nat → (Nat → fF) → Nat → fF} (hl : ∀ l, l < L → Lin (P l)) (hk : ∀ l, l < L → Kp s (P l)) (hcm : ∀ l l', l < L → l' < L → Cm s (P l) (P l'))
    (hr : ∀ l, l < L → ∃ c : Nat → fF, (∃ k, k ≤ s ∧ c k ≠ 0) ∧ ∀ v, trn s v → ∀ i, sm (s + 1) (fun k => c k * itr (P l) k v i) = 0) :
    ∃ E : (Nat → fF) → Nat → fF, Lin E ∧ Kp s E ∧ (∀ R, Lin R → Kp s R → (∀ l, l < L → Cm s R (P l)) → Cm s R E) ∧
      (∀ v, trn s v → ∀ l, l < L → itr (P l) 16 (E v) = fun _ => 0) ∧
      (∀ v, trn s v → ∀ l, l < L → E (itr (P l) s v) = fun _ => 0) ∧
      (∀ u, trn s u → (∀ l, l < L → itr (P l) 16 u = fun _ => 0) → E u = u) ∧
      (∀ b : Nat → fF, (∀ l, l < L → ∀ v, trn s v → sm s (fun i => b i * itr (P l) s v i) = 0) → ∀ v, trn s v → sm s (fun i => b i * v i) = sm s (fun i => b i * E v i)) := by
  induction L with
  | zero =>
    exact ⟨fun v => v, fun _ _ _ _ => rfl, fun _ h => h, fun _ _ _ _ _ _ => rfl, fun _ _ l h => absurd h (Nat.not_lt_zero l), fun _ _ l h => absurd h (Nat.not_lt_zero l), fun _ _ _ => rfl, fun _ _ _ _ => rfl⟩
  | succ L ih =>
    obtain ⟨E, E1, E2, E3, E4, E5, E6, E7⟩ := ih (fun l h => hl l (by omega)) (fun l h => hk l (by omega)) (fun l l' h h' => hcm l l' (by omega) (by omega)) (fun l h => hr l (by omega))
    obtain ⟨c, hc, hrl⟩ := hr L (Nat.lt_succ_self L)
    have pl := hl L (Nat.lt_succ_self L)
    have pk := hk L (Nat.lt_succ_self L)
    obtain ⟨e, y, e1, e2, y2, e3, e4, e5, e6, e7⟩ := fite hs pl pk hc hrl
    have PE : Cm s (P L) E := E3 (P L) pl pk (fun l h => hcm L l (by omega) (by omega))
    have ePl : ∀ l, l < L + 1 → Cm s (P l) e := fun l h => e3 (P l) (hl l h) (hk l h) (hcm l L h (by omega))
    have eE : Cm s e E := E3 e e1 e2 (fun l h => Cm_sy (ePl l (by omega)))
    have tsub : ∀ v, trn s v → trn s (fun i => v i - e v i) := fun v hv i hi => by show v i - e v i = 0; rw [hv i hi, e2 v hv i hi]; grobner
    refine ⟨fun v => E (fun i => v i - e v i), ?_, ?_, ?_, ?_, ?_, ?_, ?_⟩
    · intro a b u v
      show E (fun i => (a * u i + b * v i) - e (fun i => a * u i + b * v i) i) = _
      rw [e1, show (fun i => (a * u i + b * v i) - (a * e u i + b * e v i)) = (fun i => a * (u i - e u i) + b * (v i - e v i)) by funext i; grobner]
      exact E1 a b (fun i => u i - e u i) (fun i => v i - e v i)
    · intro v hv; exact E2 _ (tsub v hv)
    · intro R hR hRk hRP v hv
      show R (E (fun i => v i - e v i)) = E (fun i => R v i - e (R v) i)
      rw [E3 R hR hRk (fun l h => hRP l (by omega)) _ (tsub v hv), Lin_sub hR, e3 R hR hRk (hRP L (Nat.lt_succ_self L)) v hv]
    · intro v hv l hl'
      show itr (P l) 16 (E (fun i => v i - e v i)) = _
      by_cases el : l = L
      · subst el
        rw [← Cm_itr pk (Cm_sy PE) 16 _ (tsub v hv), Lin_sub (itr_Lin pl 16), e6 v hv]
        rw [show (fun i => itr (P l) 16 v i - itr (P l) 16 v i) = (fun _ => 0) by funext i; grobner, Lin_z E1]
      · exact E4 _ (tsub v hv) l (by omega)
    · intro v hv l hl'
      show E (fun i => itr (P l) s v i - e (itr (P l) s v) i) = _
      rw [Cm_itr (hk l hl') (Cm_sy (ePl l hl')) s v hv]
      by_cases el : l = L
      · subst el
        rw [e5 v hv, show (fun i => itr (P l) s v i - itr (P l) s v i) = (fun _ => 0) by funext i; grobner, Lin_z E1]
      · rw [← Lin_sub (itr_Lin (hl l hl') s)]
        exact E5 _ (tsub v hv) l (by omega)
    · intro u hu h0
      show E (fun i => u i - e u i) = u
      rw [e7 u hu (h0 L (Nat.lt_succ_self L)), show (fun i => u i - 0) = u by funext i; grobner]
      exact E6 u hu (fun l h => h0 l (by omega))
    · intro b hb v hv
      show _ = sm s (fun i => b i * E (fun i => v i - e v i) i)
      rw [← E7 b (fun l h => hb l (by omega)) _ (tsub v hv), e4 v hv]
      have k9 : sm s (fun i => b i * (v i - itr (P L) s (y v) i)) = sm s (fun i => b i * v i) - sm s (fun i => b i * itr (P L) s (y v) i) := by
        rw [← sm_sub]; apply sm_cg; intro i _; grobner
      rw [k9, hb L (Nat.lt_succ_self L) _ (y2 v hv)]
      grobner
/-- how many: rows that reach against rows that leave nothing -/
theorem rk_eq {s L d r : Nat} (hs : s ≤ 16) {P : Nat → (Nat → fF) → Nat → fF} (hl : ∀ l, l < L → Lin (P l)) (hk : ∀ l, l < L → Kp s (P l)) (hcm : ∀ l l', l < L → l' < L → Cm s (P l) (P l'))
    (hr : ∀ l, l < L → ∃ c : Nat → fF, (∃ k, k ≤ s ∧ c k ≠ 0) ∧ ∀ v, trn s v → ∀ i, sm (s + 1) (fun k => c k * itr (P l) k v i) = 0)
    {ρ β : Nat → Nat → fF}
    (hρ : ∀ b : Nat → fF, (∀ a, a < d → sm s (fun i => b i * ρ a i) = 0) ↔ (∀ l, l < L → ∀ v, trn s v → sm s (fun i => b i * itr (P l) s v i) = 0))
    (hρi : ∀ c : Nat → fF, (∀ i, i < s → sm d (fun a => c a * ρ a i) = 0) → ∀ a, a < d → c a = 0)
    (hβ : ∀ v, trn s v → ((∀ a, a < r → sm s (fun i => β a i * v i) = 0) ↔ (∀ l, l < L → itr (P l) 16 v = fun _ => 0)))
    (hβi : ∀ c : Nat → fF, (∀ i, i < s → sm r (fun a => c a * β a i) = 0) → ∀ a, a < r → c a = 0) : d = r := by
  obtain ⟨E, E1, E2, -, E4, E5, E6, E7⟩ := fitE hs hl hk hcm hr
  apply Nat.le_antisymm
  · apply Classical.byContradiction; intro hlt
    obtain ⟨c, ⟨j, hj, hcj⟩, hc⟩ := lin_sol2 (show r < d by omega) (fun b a => sm s (fun i => β b i * ρ a i))
    have hu : trn s (fun i => if i < s then sm d (fun a => c a * ρ a i) else 0) := fun i hi => by simp only [if_neg (show ¬ i < s by omega)]
    have h1 := (hβ _ hu).mp (fun b hb => by
      have h2 := hc b hb
      rw [sm_cg (g := fun a => sm s (fun i => β b i * (c a * ρ a i))) (fun a _ => by rw [← sm_rmul]; apply sm_cg; intro i _; grobner), sm_swap] at h2
      rw [← h2]; apply sm_cg; intro i hi; simp only [if_pos hi]; rw [sm_mul])
    have h3 := E6 _ hu h1
    have h4 : ∀ i, i < s → sm d (fun a => c a * ρ a i) = 0 := by
      intro i0 hi0
      have h5 : ∀ v, trn s v → E v i0 = sm s (fun k => E (fun j => if j = k then 1 else 0) i0 * v k) := by
        intro v hv
        have h6 := Lin_sm E1 v (fun k j => if j = k then 1 else 0) s
        have h7 : (fun i => sm s (fun k => v k * (if i = k then 1 else 0))) = v := by
          funext i
          by_cases hi : i < s
          · rw [sm_one hi (fun k _ hne => by rw [if_neg (fun q => hne q.symm)]; grobner), if_pos rfl]; grobner
          · rw [hv i (by omega)]; apply sm_z; intro k hk; rw [if_neg (by omega)]; grobner
        rw [h7] at h6
        rw [h6]; apply sm_cg; intro k _; grobner
      have h8 := (hρ (fun k => E (fun j => if j = k then 1 else 0) i0)).mpr (fun l hl' v hv => by
        rw [← h5 _ (itr_Kp (hk l hl') s v hv), E5 v hv l hl'])
      have h9 := congrFun h3 i0
      rw [h5 _ hu] at h9
      simp only [if_pos hi0] at h9
      rw [← h9]
      rw [sm_cg (g := fun k => sm d (fun a => c a * (E (fun j => if j = k then 1 else 0) i0 * ρ a k))) (fun k hk => by simp only [if_pos hk]; rw [← sm_mul]; apply sm_cg; intro a _; grobner), sm_swap]
      apply sm_z; intro a ha; rw [sm_mul, h8 a ha]; grobner
    exact hcj (hρi c h4 j hj)
  · apply Classical.byContradiction; intro hlt
    obtain ⟨c, ⟨j, hj, hcj⟩, hc⟩ := lin_sol2 (show d < r by omega) (fun a b => sm s (fun i => β b i * ρ a i))
    have h1 := (hρ (fun i => sm r (fun b => c b * β b i))).mp (fun a ha => by
      have h2 := hc a ha
      rw [sm_cg (g := fun b => sm s (fun i => c b * β b i * ρ a i)) (fun b _ => by rw [← sm_rmul]; apply sm_cg; intro i _; grobner), sm_swap] at h2
      rw [← h2]; apply sm_cg; intro i hi; rw [sm_rmul])
    have h4 : ∀ i, i < s → sm r (fun a => c a * β a i) = 0 := by
      intro i0 hi0
      have ht : trn s (fun j => if j = i0 then (1 : fF) else 0) := fun i hi => by simp only [if_neg (show ¬ i = i0 by omega)]
      have h2 := E7 _ h1 _ ht
      rw [sm_one hi0 (fun k _ hne => by rw [if_neg hne]; grobner), if_pos rfl] at h2
      have h3 := (hβ _ (E2 _ ht)).mpr (fun l hl' => E4 _ ht l hl')
      have h5 : sm s (fun i => sm r (fun b => c b * β b i) * E (fun j => if j = i0 then 1 else 0) i) = 0 := by
        rw [sm_cg (g := fun i => sm r (fun b => c b * (β b i * E (fun j => if j = i0 then 1 else 0) i))) (fun i _ => by rw [← sm_rmul]; apply sm_cg; intro a _; grobner), sm_swap]
        apply sm_z; intro a ha; rw [sm_mul, h3 a ha]; grobner
      rw [h5] at h2
      rw [← h2]; grobner
    exact hcj (hβi c h4 j hj)

/-! Rows taken off one after another (Span), the first number that isn't 0. -/
def tkO (ρ : Nat → Nat → fF) (pv : Nat → Nat) : Nat → (Nat → fF) → Nat → fF
  | 0, v => v
  | r + 1, v => fun k => tkO ρ pv r v k - tkO ρ pv r v (pv r) * ρ r k
/-- each row has 1 at its own place, 0 at the places of those ahead -/
def spn (s n : Nat) (ρ : Nat → Nat → fF) (pv : Nat → Nat) : Prop := ∀ r, r < n → pv r < s ∧ ρ r (pv r) = 1 ∧ ∀ q, q < r → ρ r (pv q) = 0
theorem tkO_z {s N : Nat} {ρ : Nat → Nat → fF} {pv : Nat → Nat} (h : spn s N ρ pv) (v : Nat → fF) : ∀ n, n ≤ N → ∀ r, r < n → tkO ρ pv n v (pv r) = 0
  | 0, _, r, hr => absurd hr (Nat.not_lt_zero r)
  | n + 1, hn, r, hr => by
    show tkO ρ pv n v (pv r) - tkO ρ pv n v (pv n) * ρ n (pv r) = 0
    by_cases e : r = n
    · subst e; rw [(h r (by omega)).2.1]; grind
    · rw [tkO_z h v n (by omega) r (by omega), (h n (by omega)).2.2 r (by omega)]; grind
theorem tkO_b {s : Nat} {ρ : Nat → Nat → fF} {pv : Nat → Nat} {b : Nat → fF} (v : Nat → fF) : ∀ n, (∀ r, r < n → sm s (fun i => b i * ρ r i) = 0) → sm s (fun i => b i * tkO ρ pv n v i) = sm s (fun i => b i * v i)
  | 0, _ => rfl
  | n + 1, h => by
    have h1 : sm s (fun i => b i * tkO ρ pv (n + 1) v i) = sm s (fun i => b i * tkO ρ pv n v i) - tkO ρ pv n v (pv n) * sm s (fun i => b i * ρ n i) := by
      rw [← sm_mul, ← sm_sub]; apply sm_cg; intro i _
      show b i * (tkO ρ pv n v i - tkO ρ pv n v (pv n) * ρ n i) = _; grobner
    rw [h1, tkO_b v n (fun r hr => h r (by omega)), h n (Nat.lt_succ_self n)]; grobner
theorem tkO_cg {ρ ρ' : Nat → Nat → fF} {pv pv' : Nat → Nat} (v : Nat → fF) : ∀ n, (∀ r, r < n → ρ r = ρ' r ∧ pv r = pv' r) → tkO ρ pv n v = tkO ρ' pv' n v
  | 0, _ => rfl
  | n + 1, h => by
    obtain ⟨h1, h2⟩ := h n (Nat.lt_succ_self n)
    funext k
    show tkO ρ pv n v k - tkO ρ pv n v (pv n) * ρ n k = tkO ρ' pv' n v k - tkO ρ' pv' n v (pv' n) * ρ' n k
    rw [tkO_cg v n (fun r hr => h r (by omega)), h1, h2]
/-- rows of that form don't hang on one another -/
theorem spn_i {s n : Nat} {ρ : Nat → Nat → fF} {pv : Nat → Nat} (h : spn s n ρ pv) {c : Nat → fF} (hc : ∀ i, i < s → sm n (fun a => c a * ρ a i) = 0) : ∀ a, a < n → c a = 0 := by
  intro a
  induction a using Nat.strongRecOn with
  | _ a ih =>
    intro ha
    have h1 := hc (pv a) (h a ha).1
    rw [sm_one ha, (h a ha).2.1] at h1
    · grobner
    · intro k hk hne
      by_cases e : k < a
      · rw [ih k e hk]; grobner
      · rw [(h k hk).2.2 a (by omega)]; grobner
theorem spn_inj {s n : Nat} {ρ : Nat → Nat → fF} {pv : Nat → Nat} (h : spn s n ρ pv) {r q : Nat} (hr : r < n) (hq : q < n) (e : pv r = pv q) : r = q := by
  have one : (1 : fF) ≠ 0 := by decide
  rcases Nat.lt_trichotomy r q with k | k | k
  · have h1 := (h q hq).2.2 r k
    rw [e, (h q hq).2.1] at h1; exact absurd h1 one
  · exact k
  · have h1 := (h r hr).2.2 q k
    rw [← e, (h r hr).2.1] at h1; exact absurd h1 one
/-- the first place below s with a number that isn't 0; s if there is none -/
def fnz (w : Nat → fF) : Nat → Nat
  | 0 => 0
  | s + 1 => if fnz w s < s then fnz w s else if w s = 0 then s + 1 else s
theorem fnz_le (w : Nat → fF) : ∀ s, fnz w s ≤ s
  | 0 => Nat.le_refl 0
  | s + 1 => by have := fnz_le w s; unfold fnz; split <;> (try split) <;> omega
theorem fnz_sp (w : Nat → fF) : ∀ s, (fnz w s < s → w (fnz w s) ≠ 0) ∧ ∀ k, k < fnz w s → w k = 0
  | 0 => ⟨fun h => absurd h (Nat.not_lt_zero _), fun k h => absurd h (Nat.not_lt_zero k)⟩
  | s + 1 => by
    have ih := fnz_sp w s
    have hl := fnz_le w s
    unfold fnz
    by_cases e : fnz w s < s
    · rw [if_pos e]; exact ⟨fun _ => ih.1 e, ih.2⟩
    · rw [if_neg e]
      have e1 : fnz w s = s := by omega
      rw [e1] at ih
      by_cases e2 : w s = 0
      · rw [if_pos e2]
        exact ⟨fun h => absurd h (Nat.lt_irrefl _), fun k hk => by
          by_cases e3 : k = s
          · rw [e3]; exact e2
          · exact ih.2 k (by omega)⟩
      · rw [if_neg e2]; exact ⟨fun _ => e2, ih.2⟩
theorem fnz_un {w : Nat → fF} {s k : Nat} (hk : k < s) (h0 : ∀ j, j < k → w j = 0) (h1 : w k ≠ 0) : fnz w s = k := by
  have h := fnz_sp w s
  have hl := fnz_le w s
  rcases Nat.lt_trichotomy (fnz w s) k with q | q | q
  · exact absurd (h0 _ q) (h.1 (by omega))
  · exact q
  · exact absurd (h.2 k q) h1
theorem fnz_no {w : Nat → fF} {s : Nat} (h : ∀ j, j < s → w j = 0) : fnz w s = s := by
  have h1 := fnz_sp w s
  have hl := fnz_le w s
  rcases Nat.lt_or_ge (fnz w s) s with q | q
  · exact absurd (h _ q) (h1.1 q)
  · omega
/-- a row more -/
theorem spn_up {s n : Nat} {ρ : Nat → Nat → fF} {pv : Nat → Nat} (h : spn s n ρ pv) {v : Nat → fF} {p : Nat} (hp : p < s) (hw : tkO ρ pv n v p ≠ 0) :
    spn s (n + 1) (fun r => if r = n then fun k => tkO ρ pv n v k * iv (tkO ρ pv n v p) else ρ r) (fun r => if r = n then p else pv r) := by
  intro r hr
  by_cases e : r = n
  · subst e
    simp only [if_true]
    refine ⟨hp, iv_mul hw, fun q hq => ?_⟩
    rw [if_neg (by omega), tkO_z h v r (Nat.le_refl r) q hq]; grobner
  · simp only [if_neg e]
    obtain ⟨h1, h2, h3⟩ := h r (by omega)
    refine ⟨h1, h2, fun q hq => ?_⟩
    rw [if_neg (by omega)]; exact h3 q hq
/-- at most s rows; with s of them nothing is left -/
theorem spn_full {s n : Nat} {ρ : Nat → Nat → fF} {pv : Nat → Nat} (h : spn s n ρ pv) (v : Nat → fF) (pig : ∀ (m n : Nat) (f : Nat → Nat), (∀ i, i < n → f i < m) → (∀ i j, i < n → j < n → f i = f j → i = j) → n ≤ m) (hs : s ≤ n) : ∀ k, k < s → tkO ρ pv n v k = 0 := by
  intro k hk
  apply Classical.byContradiction; intro hw
  have h1 := spn_up h hk hw
  have h2 := pig s (n + 1) _ (fun i hi => (h1 i hi).1) (fun i j hi hj e => spn_inj h1 hi hj e)
  omega
/-- what the rows are worth nothing to -/
theorem spn_b {s n : Nat} {ρ : Nat → Nat → fF} {pv : Nat → Nat} {v : Nat → fF} {p : Nat} (hw : tkO ρ pv n v p ≠ 0) (b : Nat → fF) :
    (∀ a, a < n + 1 → sm s (fun i => b i * (if a = n then fun k => tkO ρ pv n v k * iv (tkO ρ pv n v p) else ρ a) i) = 0) ↔ ((∀ a, a < n → sm s (fun i => b i * ρ a i) = 0) ∧ sm s (fun i => b i * v i) = 0) := by
  have hz : ∀ x : fF, x * iv (tkO ρ pv n v p) = 0 → x = 0 := by
    intro x hx
    rcases fF_nz hx with q | q
    · exact q
    · exact absurd q (iv_nz hw)
  have k1 : sm s (fun i => b i * (tkO ρ pv n v i * iv (tkO ρ pv n v p))) = sm s (fun i => b i * tkO ρ pv n v i) * iv (tkO ρ pv n v p) := by
    rw [← sm_rmul]; apply sm_cg; intro i _; grobner
  constructor
  · intro h
    have h1 : ∀ a, a < n → sm s (fun i => b i * ρ a i) = 0 := fun a ha => by
      have := h a (by omega)
      simp only [if_neg (show ¬ a = n by omega)] at this; exact this
    refine ⟨h1, ?_⟩
    have h2 := h n (Nat.lt_succ_self n)
    simp only [if_true] at h2
    rw [k1, tkO_b v n h1] at h2
    exact hz _ h2
  · rintro ⟨h1, h2⟩ a ha
    by_cases e : a = n
    · simp only [if_pos e]; rw [k1, tkO_b v n h1, h2]; grobner
    · simp only [if_neg e]; exact h1 a (by omega)

/-! Rank by columns: rows exchanged, taken off below. -/
def rkI (s many c r : Nat) (R : Nat → Nat → fF) (pv : Nat → Nat) (R0 : Nat → Nat → fF) : Prop :=
  r ≤ c ∧ r ≤ many ∧ (∀ a, a < r → pv a < c ∧ R a (pv a) ≠ 0 ∧ ∀ i, a < i → i < many → R i (pv a) = 0) ∧
  (∀ i, r ≤ i → i < many → ∀ j, j < c → R i j = 0) ∧
  ∀ v : Nat → fF, (∀ i, i < many → sm s (fun j => R i j * v j) = 0) ↔ (∀ i, i < many → sm s (fun j => R0 i j * v j) = 0)
theorem rkI_0 (s many : Nat) (R0 : Nat → Nat → fF) (pv : Nat → Nat) : rkI s many 0 0 R0 pv R0 :=
  ⟨Nat.le_refl 0, Nat.zero_le _, fun a h => absurd h (Nat.not_lt_zero a), fun _ _ _ j h => absurd h (Nat.not_lt_zero j), fun _ => Iff.rfl⟩
theorem rk_no {s many c r : Nat} {R : Nat → Nat → fF} {pv : Nat → Nat} {R0 : Nat → Nat → fF} (h : rkI s many c r R pv R0) (hn : ∀ i, r ≤ i → i < many → R i c = 0) : rkI s many (c + 1) r R pv R0 := by
  obtain ⟨h1, h2, h3, h4, h5⟩ := h
  refine ⟨by omega, h2, fun a ha => ⟨by have := (h3 a ha).1; omega, (h3 a ha).2⟩, fun i hi hm j hj => ?_, h5⟩
  by_cases e : j = c
  · rw [e]; exact hn i hi hm
  · exact h4 i hi hm j (by omega)
def swp (R : Nat → Nat → fF) (r f : Nat) : Nat → Nat → fF := fun i => if i = r then R f else if i = f then R r else R i
noncomputable def elm (R : Nat → Nat → fF) (r c many : Nat) : Nat → Nat → fF := fun i => if r < i ∧ i < many then fun j => R i j - R i c * iv (R r c) * R r j else R i
theorem rk_yes {s many c r f : Nat} {R : Nat → Nat → fF} {pv : Nat → Nat} {R0 : Nat → Nat → fF} (h : rkI s many c r R pv R0) (hf : r ≤ f) (hm : f < many) (hz : R f c ≠ 0) :
    rkI s many (c + 1) (r + 1) (elm (swp R r f) r c many) (fun a => if a = r then c else pv a) R0 := by
  obtain ⟨h1, h2, h3, h4, h5⟩ := h
  have er : swp R r f r = R f := by unfold swp; rw [if_pos rfl]
  have hlo : ∀ i, i < r → elm (swp R r f) r c many i = R i := by
    intro i hi; unfold elm swp; rw [if_neg (by omega), if_neg (by omega), if_neg (by omega)]
  have hrr : elm (swp R r f) r c many r = R f := by unfold elm; rw [if_neg (by omega), er]
  have hS : ∀ i, r ≤ i → i < many → ∃ k, r ≤ k ∧ k < many ∧ swp R r f i = R k := by
    intro i hi hm2; unfold swp
    by_cases e1 : i = r
    · rw [if_pos e1]; exact ⟨f, hf, hm, rfl⟩
    · rw [if_neg e1]
      by_cases e2 : i = f
      · rw [if_pos e2]; exact ⟨r, Nat.le_refl r, by omega, rfl⟩
      · rw [if_neg e2]; exact ⟨i, hi, hm2, rfl⟩
  have hhi : ∀ i, r < i → i < many → ∀ j, elm (swp R r f) r c many i j = swp R r f i j - swp R r f i c * iv (R f c) * R f j := by
    intro i hi hm2 j; unfold elm; rw [if_pos ⟨hi, hm2⟩]; simp only [er]
  refine ⟨by omega, by omega, fun a ha => ?_, fun i hi hm2 j hj => ?_, fun v => ?_⟩
  · by_cases e : a = r
    · subst e
      simp only [if_true]
      rw [hrr]
      refine ⟨by omega, hz, fun i hi hm2 => ?_⟩
      rw [hhi i hi hm2]
      have := iv_mul hz
      grobner
    · simp only [if_neg e]
      obtain ⟨k1, k2, k3⟩ := h3 a (by omega)
      rw [hlo a (by omega)]
      refine ⟨by omega, k2, fun i hi hm2 => ?_⟩
      by_cases e2 : i < r
      · rw [hlo i e2]; exact k3 i hi hm2
      · by_cases e3 : i = r
        · rw [e3, hrr]; exact k3 f (by omega) hm
        · rw [hhi i (by omega) hm2]
          obtain ⟨k, q1, q2, q3⟩ := hS i (by omega) hm2
          rw [q3, k3 k (by omega) q2, k3 f (by omega) hm]; grobner
  · rw [hhi i (by omega) hm2]
    obtain ⟨k, q1, q2, q3⟩ := hS i (by omega) hm2
    by_cases e : j = c
    · rw [e]; have := iv_mul hz; grobner
    · rw [q3, h4 k q1 q2 j (by omega), h4 f hf hm j (by omega)]; grobner
  · rw [← h5 v]
    have k0 : ∀ i, r < i → i < many → sm s (fun j => elm (swp R r f) r c many i j * v j) = sm s (fun j => swp R r f i j * v j) - swp R r f i c * iv (R f c) * sm s (fun j => R f j * v j) := by
      intro i hi hm2
      rw [← sm_mul, ← sm_sub]; apply sm_cg; intro j _; rw [hhi i hi hm2]; grobner
    constructor
    · intro hv i hi
      have hvf : sm s (fun j => R f j * v j) = 0 := by have := hv r (by omega); rw [hrr] at this; exact this
      by_cases e1 : i < r
      · have := hv i hi; rw [hlo i e1] at this; exact this
      · by_cases e2 : i = f
        · rw [e2]; exact hvf
        · -- i stands at place i, or (i = r) at place f
          have key : ∀ p, r < p → p < many → sm s (fun j => swp R r f p j * v j) = 0 := by
            intro p hp hp2
            have := hv p hp2
            rw [k0 p hp hp2, hvf] at this; grobner
          by_cases e3 : i = r
          · have := key f (by omega) hm
            rw [show swp R r f f = R r by unfold swp; rw [if_neg (by omega), if_pos rfl]] at this
            rw [e3]; exact this
          · have := key i (by omega) hi
            rw [show swp R r f i = R i by unfold swp; rw [if_neg e3, if_neg e2]] at this
            exact this
    · intro hv i hi
      by_cases e1 : i < r
      · rw [hlo i e1]; exact hv i hi
      · by_cases e2 : i = r
        · rw [e2, hrr]; exact hv f hm
        · rw [k0 i (by omega) hi, hv f hm]
          obtain ⟨k, q1, q2, q3⟩ := hS i (by omega) hi
          rw [q3, hv k q2]; grobner
theorem rk_i {s many r : Nat} {R : Nat → Nat → fF} {pv : Nat → Nat} {R0 : Nat → Nat → fF} (h : rkI s many s r R pv R0) (c : Nat → fF) (hc : ∀ i, i < s → sm r (fun a => c a * R a i) = 0) : ∀ a, a < r → c a = 0 := by
  obtain ⟨_, h2, h3, _, _⟩ := h
  intro a
  induction a using Nat.strongRecOn with
  | _ a ih =>
    intro ha
    obtain ⟨k1, k2, k3⟩ := h3 a ha
    have h1 := hc (pv a) k1
    rw [sm_one ha] at h1
    · rcases fF_nz h1 with q | q
      · exact q
      · exact absurd q k2
    · intro k hk hne
      by_cases e : k < a
      · rw [ih k e hk]; grobner
      · rw [k3 k (by omega) (by omega)]; grobner
theorem rk_b {s many r : Nat} {R : Nat → Nat → fF} {pv : Nat → Nat} {R0 : Nat → Nat → fF} (h : rkI s many s r R pv R0) (v : Nat → fF) : (∀ a, a < r → sm s (fun i => R a i * v i) = 0) ↔ (∀ i, i < many → sm s (fun j => R0 i j * v j) = 0) := by
  obtain ⟨_, h2, _, h4, h5⟩ := h
  rw [← h5 v]
  constructor
  · intro hv i hi
    by_cases e : i < r
    · exact hv i e
    · apply sm_z; intro j hj; rw [h4 i (by omega) hi j hj]; grobner
  · intro hv a ha; exact hv a (by omega)

/-! One-letter arithmetic: division, squares, a shifted letter. -/
/-- one step of the division by a monic one of degree m -/
def stp (m : Nat) (b : Nat → fF) (c : Nat → fF) (sh : Nat) : Nat → fF := fun k => if sh ≤ k ∧ k < sh + m then c k - c (sh + m) * b (k - sh) else c k
def dvA (m : Nat) (b : Nat → fF) : Nat → (Nat → fF) → Nat → fF
  | 0, c => c
  | t + 1, c => dvA m b t (stp m b c t)
theorem dvA_hi {m : Nat} {b : Nat → fF} : ∀ (t : Nat) (c : Nat → fF) (k : Nat), t + m ≤ k + 1 → dvA m b t c k = c k
  | 0, _, _, _ => rfl
  | t + 1, c, k, h => by
    unfold dvA
    rw [dvA_hi t _ k (by omega)]; unfold stp; rw [if_neg (by omega)]
theorem pe_app (n m : Nat) (c : Nat → fF) (a : fF) : pe (n + m) c a = pe n c a + a ^ n * pe m (fun k => c (n + k)) a := by
  unfold pe; rw [sm_app, ← sm_mul]
  congr 1
  apply sm_cg; intro k _; rw [pw_add9]; grobner
theorem pe_cg {n : Nat} {c b : Nat → fF} (a : fF) (h : ∀ k, k < n → c k = b k) : pe n c a = pe n b a := by
  unfold pe; apply sm_cg; intro k hk; rw [h k hk]
theorem dv_eq {m : Nat} {b : Nat → fF} (a : fF) : ∀ (t : Nat) (c : Nat → fF), pe (t + m) c a = pe t (fun k => dvA m b t c (m + k)) a * (pe m b a + a ^ m) + pe m (dvA m b t c) a
  | 0, c => by
    rw [Nat.zero_add, show pe 0 (fun k => dvA m b 0 c (m + k)) a = 0 from rfl, show dvA m b 0 c = c from rfl]; grobner
  | t + 1, c => by
    have ih := dv_eq (m := m) (b := b) a t (stp m b c t)
    have h1 : pe (t + m) (stp m b c t) a = pe (t + m) c a - c (t + m) * (a ^ t * pe m b a) := by
      rw [pe_app, pe_app]
      rw [pe_cg a (b := c) (fun k hk => by unfold stp; rw [if_neg (by omega)])]
      have h2 : pe m (fun k => stp m b c t (t + k)) a = pe m (fun k => c (t + k)) a - c (t + m) * pe m b a := by
        unfold pe
        rw [← sm_mul, ← sm_sub]; apply sm_cg; intro k hk
        unfold stp; (try dsimp only); rw [if_pos (by omega), Nat.add_sub_cancel_left]; grobner
      rw [h2]; grobner
    rw [show t + 1 + m = t + m + 1 by omega, pe_s, pe_s]
    show _ = (_ + dvA m b t (stp m b c t) (m + t) * a ^ t) * _ + pe m (dvA m b t (stp m b c t)) a
    rw [dvA_hi t _ (m + t) (by omega), show stp m b c t (m + t) = c (t + m) by unfold stp; rw [if_neg (by omega), Nat.add_comm]]
    rw [h1] at ih
    rw [pw_add9]
    rw [show pe t (fun k => dvA m b (t + 1) c (m + k)) a = pe t (fun k => dvA m b t (stp m b c t) (m + k)) a from rfl]
    grobner
/-- a monic one divided: the quotient is monic -/
theorem dv_pm {m n : Nat} (hmn : m ≤ n) {b c : Nat → fF} (hc : c n = 1) : PM (n - m) (fun a => pe (n + 1 - m) (fun k => dvA m b (n + 1 - m) c (m + k)) a) := by
  refine ⟨fun k => dvA m b (n + 1 - m) c (m + k), fun a => ?_⟩
  (try dsimp only)
  rw [show n + 1 - m = n - m + 1 by omega, pe_s]
  rw [dvA_hi _ _ _ (show n - m + 1 + m ≤ m + (n - m) + 1 by omega), show m + (n - m) = n by omega, hc]
  grobner
theorem cv_row {m : Nat} {b : Nat → fF} (x : fF) (a : fF) (n : Nat) : sm (n + 1 + m) (fun e => (if n ≤ e ∧ e - n < m then x * b (e - n) else 0) * a ^ e) = sm m (fun j => x * b j * a ^ (n + j)) := by
  rw [show n + 1 + m = n + (m + 1) by omega, sm_app, sm_z (fun e he => by rw [if_neg (by omega)]; grobner), sm_s]
  rw [if_neg (by omega)]
  have : sm m (fun i => (if n ≤ n + i ∧ n + i - n < m then x * b (n + i - n) else 0) * a ^ (n + i)) = sm m (fun j => x * b j * a ^ (n + j)) := by
    apply sm_cg; intro j hj; rw [if_pos (by omega), Nat.add_sub_cancel_left]
  rw [this]; grobner
theorem cv_mul {m : Nat} {b c : Nat → fF} (a : fF) : ∀ n : Nat, sm n (fun i => sm m (fun j => c i * b j * a ^ (i + j))) = sm (n + m) (fun e => sm (e + 1) (fun k => if k < n ∧ e - k < m then c k * b (e - k) else 0) * a ^ e)
  | 0 => by
    rw [sm_0, sm_z]; intro e _; rw [sm_z (fun k _ => by rw [if_neg (by omega)])]; grobner
  | n + 1 => by
    rw [sm_s, cv_mul a n, ← cv_row (c n) a n]
    rw [show sm (n + m) (fun e => sm (e + 1) (fun k => if k < n ∧ e - k < m then c k * b (e - k) else 0) * a ^ e) = sm (n + 1 + m) (fun e => sm (e + 1) (fun k => if k < n ∧ e - k < m then c k * b (e - k) else 0) * a ^ e) by
      rw [show n + 1 + m = n + m + 1 by omega, sm_s, sm_z (n := n + m + 1) (f := fun k => if k < n ∧ n + m - k < m then c k * b (n + m - k) else 0) (fun k _ => by rw [if_neg (by omega)])]; grobner]
    rw [← sm_add]
    apply sm_cg; intro e _
    have h1 : sm (e + 1) (fun k => if k < n + 1 ∧ e - k < m then c k * b (e - k) else 0) = sm (e + 1) (fun k => if k < n ∧ e - k < m then c k * b (e - k) else 0) + (if n ≤ e ∧ e - n < m then c n * b (e - n) else 0) := by
      by_cases hne : n ≤ e
      · rw [show (if n ≤ e ∧ e - n < m then c n * b (e - n) else 0) = sm (e + 1) (fun k => if k = n then (if e - n < m then c n * b (e - n) else 0) else 0) by
          rw [sm_one (k := n) (by omega) (fun i _ h => by rw [if_neg h]), if_pos rfl]
          by_cases q : e - n < m
          · rw [if_pos ⟨hne, q⟩, if_pos q]
          · rw [if_neg (fun z => q z.2), if_neg q]]
        rw [← sm_add]; apply sm_cg; intro k hk
        by_cases q : k = n
        · subst q
          rw [if_pos rfl, if_neg (c := k < k ∧ _) (fun z => absurd z.1 (Nat.lt_irrefl k))]
          by_cases q2 : e - k < m
          · rw [if_pos ⟨Nat.lt_succ_self k, q2⟩, if_pos q2]; grobner
          · rw [if_neg (fun z => q2 z.2), if_neg q2]; grobner
        · rw [if_neg q]
          by_cases q2 : k < n ∧ e - k < m
          · rw [if_pos q2, if_pos ⟨by omega, q2.2⟩]; grobner
          · rw [if_neg q2, if_neg (fun z => q2 ⟨by omega, z.2⟩)]; grobner
      · rw [if_neg (c := n ≤ e ∧ _) (fun z => hne z.1)]
        rw [sm_cg (g := fun k => if k < n ∧ e - k < m then c k * b (e - k) else 0)]
        · grobner
        · intro k hk
          by_cases q2 : e - k < m
          · rw [if_pos ⟨by omega, q2⟩, if_pos ⟨by omega, q2⟩]
          · rw [if_neg (fun z => q2 z.2), if_neg (fun z => q2 z.2)]
    rw [h1]; grobner
/-- the numbers of a square -/
def sqN (d : Nat) (c : Nat → fF) (e : Nat) : fF := sm (e + 1) (fun k => if k < d + 1 ∧ e - k < d + 1 then c k * c (e - k) else 0)
theorem sq_eq {d : Nat} {c : Nat → fF} (a : fF) : pe (2 * d + 1) (sqN d c) a = pe (d + 1) c a * pe (d + 1) c a := by
  have h1 := cv_mul (b := c) (c := c) (m := d + 1) a (d + 1)
  have h2 : sm (d + 1) (fun i => sm (d + 1) (fun j => c i * c j * a ^ (i + j))) = pe (d + 1) c a * pe (d + 1) c a := by
    unfold pe
    rw [← sm_rmul]; apply sm_cg; intro i _
    rw [← sm_mul]; apply sm_cg; intro j _; rw [pw_add9]; grobner
  rw [← h2, h1, show d + 1 + (d + 1) = 2 * d + 1 + 1 by omega, sm_s]
  have h3 : sm (2 * d + 1 + 1) (fun k => if k < d + 1 ∧ 2 * d + 1 - k < d + 1 then c k * c (2 * d + 1 - k) else 0) = 0 := sm_z (fun k _ => by rw [if_neg (by omega)])
  rw [h3]
  unfold pe sqN; grobner
theorem sq_top {d : Nat} {c : Nat → fF} : sqN d c (2 * d) = c d * c d := by
  unfold sqN
  rw [sm_one (k := d) (by omega) (fun k _ h => by rw [if_neg (by omega)]), if_pos (by omega), show 2 * d - d = d by omega]
/-- the letter plus s times it -/
def mbs (s : fF) (c : Nat → fF) : Nat → fF := fun k => (if k = 0 then 0 else c (k - 1)) + s * c k
theorem mbs_eq {d : Nat} {c : Nat → fF} (s a : fF) (h : c (d + 1) = 0) : pe (d + 2) (mbs s c) a = (a + s) * pe (d + 1) c a := by
  have h1 : pe (d + 2) (mbs s c) a = pe (d + 2) (fun k => if k = 0 then 0 else c (k - 1)) a + s * pe (d + 2) c a := by
    unfold pe mbs; rw [← sm_mul, ← sm_add]; apply sm_cg; intro k _; grobner
  rw [h1, pe_0 (d + 1) (fun k => if k = 0 then 0 else c (k - 1)), pe_s (d + 1) c, h]
  simp only [if_true, if_neg (Nat.succ_ne_zero _), Nat.add_sub_cancel]
  grobner
/-- Euclid's step -/
theorem eu_a {d0 dH dL : Nat} {f A B H L Lm Q R : fF → fF} {c : fF} (h1 : dL ≤ dH) (h2 : dH ≤ d0) (hA : PM (d0 - dH) A) (hB : PL (d0 - dL) B) (hQ : PM (dH - dL) Q) (hf : ∀ a, f a = A a * H a + B a * L a) (hL : ∀ a, L a = c * Lm a) (hH : ∀ a, H a = Q a * Lm a + R a) :
    PM (d0 - dL) (fun a => A a * Q a + c * B a) ∧ ∀ a, f a = (A a * Q a + c * B a) * Lm a + A a * R a := by
  refine ⟨?_, fun a => by rw [hf, hL, hH]; grobner⟩
  have h3 := PM_mul hA hQ
  rw [show d0 - dH + (dH - dL) = d0 - dL by omega] at h3
  exact PM_add h3 (PL_c c hB)
theorem eu_c {d0 dH dL : Nat} {f C D H L Lm Q R : fF → fF} {c : fF} (h1 : dL ≤ dH) (h2 : dH ≤ d0) (hC : PL (d0 + 1 - dH) C) (hD : PL (d0 + 1 - dL) D) (hQ : PM (dH - dL) Q) (hf : ∀ a, f a = C a * H a + D a * L a) (hL : ∀ a, L a = c * Lm a) (hH : ∀ a, H a = Q a * Lm a + R a) :
    PL (d0 + 1 - dL) (fun a => C a * Q a + c * D a) ∧ ∀ a, f a = (C a * Q a + c * D a) * Lm a + C a * R a := by
  refine ⟨?_, fun a => by rw [hf, hL, hH]; grobner⟩
  have h3 := PL_mul hQ hC
  rw [show d0 + 1 - dH + (dH - dL) = d0 + 1 - dL by omega] at h3
  exact PL_add h3 (PL_c c hD)

/-! Finding roots: what is split is parted until each part has one root. -/
theorem PL_zero : ∀ {n : Nat} {f : fF → fF}, PL n f → ∀ {σ : Nat → fF}, (∀ i, i < n → f (σ i) = 0) → (∀ i j, i < n → j < n → σ i = σ j → i = j) → ∀ a, f a = 0
  | 0, f, hf, σ, _, _, a => by obtain ⟨c, hc⟩ := hf; rw [hc]; rfl
  | n + 1, f, hf, σ, h1, h2, a => by
    obtain ⟨c, hc⟩ := hf
    obtain ⟨g, hg, h⟩ := pe_root (σ n) (n + 1) c
    have h3 := h1 n (Nat.lt_succ_self n)
    rw [hc] at h3
    have h4 := PL_zero (n := n) hg (σ := σ) (fun i hi => by
      have h5 := h1 i (by omega)
      rw [hc, h, h3] at h5
      have h6 : (σ i - σ n) * g (σ i) = 0 := by grobner
      rcases fF_nz h6 with q | q
      · have := h2 i n (by omega) (by omega) (by grind); omega
      · exact q) (fun i j hi hj e => h2 i j (by omega) (by omega) e)
    rw [hc, h, h3, h4]; grobner
/-- the division by what divides leaves nothing -/
theorem SPl_q {d e : Nat} {f g A Q R : fF → fF} (hf : SPl d f) (hg : PM e g) (hA : PM (d - e) A) (he : e ≤ d) (h : ∀ a, f a = A a * g a) (hQ : PM (d - e) Q) (hR : PL e R) (h2 : ∀ a, f a = Q a * g a + R a) :
    SPl e g ∧ SPl (d - e) Q ∧ (∀ a, f a = Q a * g a) ∧ ∀ a, Q a = 0 → g a ≠ 0 := by
  obtain ⟨k1, -, -⟩ := SPl_dv hf hg hA he h
  obtain ⟨_, σ, s1, s2⟩ := k1
  have hz := PL_zero hR (σ := σ) (fun i hi => by
    have h3 := h2 (σ i)
    rw [h, s1 i hi] at h3; grobner) s2
  have h4 : ∀ a, f a = Q a * g a := fun a => by rw [h2, hz]; grobner
  obtain ⟨k2, k3, -⟩ := SPl_dv hf hg hQ he h4
  exact ⟨k2, k3, h4, fun a => SPl_x hf hg hQ he h4 a⟩
/-- the parts: each split, no root in two of them, all roots of g -/
def FS (k : Nat) (φ : Nat → fF → fF) (d : Nat → Nat) (g : fF → fF) : Prop :=
  (∀ i, i < k → 1 ≤ d i ∧ SPl (d i) (φ i)) ∧ (∀ i j a, i < k → j < k → φ i a = 0 → φ j a = 0 → i = j) ∧ ∀ a, g a = 0 ↔ ∃ i, i < k ∧ φ i a = 0
theorem FS_le {k m : Nat} {φ : Nat → fF → fF} {d : Nat → Nat} {g : fF → fF} (h : FS k φ d g) (hg : PM m g) : k ≤ m ∧ ((∃ i, i < k ∧ 2 ≤ d i) → k + 1 ≤ m) := by
  obtain ⟨h1, h2, h3⟩ := h
  have hr : ∀ i, ∃ x : fF, i < k → φ i x = 0 := by
    intro i
    by_cases hi : i < k
    · obtain ⟨hd, _, ρ, r1, _⟩ := h1 i hi
      exact ⟨ρ 0, fun _ => r1 0 (by omega)⟩
    · exact ⟨0, fun q => absurd q hi⟩
  obtain ⟨x, hx⟩ : ∃ x : Nat → fF, ∀ i, i < k → φ i (x i) = 0 := ⟨fun i => Classical.choose (hr i), fun i hi => Classical.choose_spec (hr i) hi⟩
  refine ⟨PM_le hg (N := k) (ρ := x) (fun i hi => (h3 _).mpr ⟨i, hi, hx i hi⟩) (fun i j hi hj e => h2 i j (x i) hi hj (hx i hi) (by rw [e]; exact hx j hj)), ?_⟩
  rintro ⟨i0, hi0, hd0⟩
  obtain ⟨hd, _, ρ, r1, r2⟩ := h1 i0 hi0
  have hy : ∃ y, φ i0 y = 0 ∧ y ≠ x i0 := by
    by_cases e : ρ 0 = x i0
    · refine ⟨ρ 1, r1 1 (by omega), fun q => ?_⟩
      have := r2 0 1 (by omega) (by omega) (by rw [e, q]); omega
    · exact ⟨ρ 0, r1 0 (by omega), e⟩
  obtain ⟨y, hy1, hy2⟩ := hy
  refine PM_le hg (N := k + 1) (ρ := fun i => if i = k then y else x i) (fun i hi => ?_) (fun i j hi hj e => ?_)
  · by_cases q : i = k
    · simp only [if_pos q]; exact (h3 _).mpr ⟨i0, hi0, hy1⟩
    · simp only [if_neg q]; exact (h3 _).mpr ⟨i, by omega, hx i (by omega)⟩
  · by_cases q : i = k
    · by_cases q2 : j = k
      · omega
      · simp only [if_pos q, if_neg q2] at e
        have := h2 i0 j y hi0 (by omega) hy1 (by rw [e]; exact hx j (by omega))
        subst this; exact absurd e hy2
    · by_cases q2 : j = k
      · simp only [if_neg q, if_pos q2] at e
        have := h2 i0 i y hi0 (by omega) hy1 (by rw [← e]; exact hx i (by omega))
        subst this; exact absurd e.symm hy2
      · simp only [if_neg q, if_neg q2] at e
        exact h2 i j (x i) (by omega) (by omega) (hx i (by omega)) (by rw [e]; exact hx j (by omega))
/-- a part parted -/
theorem FS_up {k f e : Nat} {φ : Nat → fF → fF} {d : Nat → Nat} {g p Q : fF → fF} (h : FS k φ d g) (hf : f < k) (he : 1 ≤ e) (hed : e < d f) (hp : SPl e p) (hQ : SPl (d f - e) Q) (hm : ∀ a, φ f a = Q a * p a) (hx : ∀ a, Q a = 0 → p a ≠ 0) :
    FS (k + 1) (fun i => if i = k then p else if i = f then Q else φ i) (fun i => if i = k then e else if i = f then d f - e else d i) g := by
  obtain ⟨h1, h2, h3⟩ := h
  have hz : ∀ i a, i < k + 1 → (if i = k then p else if i = f then Q else φ i) a = 0 → φ (if i = k then f else i) a = 0 := by
    intro i a hi q
    by_cases e1 : i = k
    · rw [if_pos e1] at q; rw [if_pos e1, hm, q]; grobner
    · rw [if_neg e1] at q; rw [if_neg e1]
      by_cases e2 : i = f
      · rw [if_pos e2] at q; rw [e2, hm, q]; grobner
      · rw [if_neg e2] at q; exact q
  refine ⟨fun i hi => ?_, fun i j a hi hj q1 q2 => ?_, fun a => ?_⟩
  · by_cases e1 : i = k
    · simp only [if_pos e1]; exact ⟨he, hp⟩
    · simp only [if_neg e1]
      by_cases e2 : i = f
      · simp only [if_pos e2]; exact ⟨by omega, hQ⟩
      · simp only [if_neg e2]; exact h1 i (by omega)
  · have k1 := hz i a hi q1
    have k2 := hz j a hj q2
    by_cases e1 : i = k
    · by_cases e2 : j = k
      · omega
      · simp only [if_pos e1, if_neg e2] at k1 k2 q1 q2
        have e3 := h2 f j a hf (by omega) k1 k2
        simp only [if_pos e3.symm] at q2
        exact absurd q1 (hx a q2)
    · by_cases e2 : j = k
      · simp only [if_neg e1, if_pos e2] at k1 k2 q1 q2
        have e3 := h2 f i a hf (by omega) k2 k1
        simp only [if_pos e3.symm] at q1
        exact absurd q2 (hx a q1)
      · simp only [if_neg e1, if_neg e2] at k1 k2
        exact h2 i j a (by omega) (by omega) k1 k2
  · rw [h3]
    constructor
    · rintro ⟨i, hi, q⟩
      by_cases e1 : i = f
      · rw [e1, hm] at q
        rcases fF_nz q with q | q
        · exact ⟨f, by omega, by simp only [if_neg (show ¬ f = k by omega), if_true]; exact q⟩
        · exact ⟨k, by omega, by simp only [if_true]; exact q⟩
      · exact ⟨i, by omega, by simp only [if_neg (show ¬ i = k by omega), if_neg e1]; exact q⟩
    · rintro ⟨i, hi, q⟩
      refine ⟨if i = k then f else i, by split <;> omega, hz i a hi q⟩
/-- parted by all shifts: one root each -/
theorem FS_one {k : Nat} {φ : Nat → fF → fF} {d : Nat → Nat} {g : fF → fF} (h : FS k φ d g) (hs : ∀ s, s < 32003 → ∀ i, i < k → ∀ a b, φ i a = 0 → φ i b = 0 → ((a + fc s) ^ 16001 = 1 ↔ (b + fc s) ^ 16001 = 1)) : ∀ i, i < k → d i = 1 := by
  intro i hi
  obtain ⟨hd, _, ρ, r1, r2⟩ := h.1 i hi
  apply Classical.byContradiction; intro hne
  have h01 : ρ 0 ≠ ρ 1 := fun q => by have := r2 0 1 (by omega) (by omega) q; omega
  obtain ⟨s, hs1, hs2⟩ := sq_sep h01
  exact hs2 (hs s hs1 i hi _ _ (r1 0 (by omega)) (r1 1 (by omega)))
theorem FS_all {k m : Nat} {φ : Nat → fF → fF} {d : Nat → Nat} {g : fF → fF} (h : FS k φ d g) (hg : PM m g) (hk : m ≤ k) : ∀ i, i < k → d i = 1 := by
  intro i hi
  apply Classical.byContradiction; intro hne
  have := (FS_le h hg).2 ⟨i, hi, by have := (h.1 i hi).1; omega⟩
  omega
/-- rows of numbers in order, the same numbers: the same rows -/
theorem srt_un : ∀ {n m : Nat} {u v : Nat → Nat}, (∀ i j, i < j → j < n → u i < u j) → (∀ i j, i < j → j < m → v i < v j) → (∀ x, (∃ i, i < n ∧ u i = x) ↔ (∃ i, i < m ∧ v i = x)) → n = m ∧ ∀ i, i < n → u i = v i
  | 0, m, u, v, _, _, h => by
    rcases Nat.eq_zero_or_pos m with e | e
    · exact ⟨e.symm, fun i hi => absurd hi (Nat.not_lt_zero i)⟩
    · obtain ⟨i, hi, _⟩ := (h (v 0)).mpr ⟨0, e, rfl⟩; exact absurd hi (Nat.not_lt_zero i)
  | n + 1, 0, u, v, _, _, h => by
    obtain ⟨i, hi, _⟩ := (h (u 0)).mp ⟨0, by omega, rfl⟩; exact absurd hi (Nat.not_lt_zero i)
  | n + 1, m + 1, u, v, hu, hv, h => by
    have hu' : ∀ i, i < n + 1 → u i ≤ u n := fun i hi => by
      by_cases e : i = n
      · rw [e]; exact Nat.le_refl _
      · exact Nat.le_of_lt (hu i n (by omega) (by omega))
    have hv' : ∀ i, i < m + 1 → v i ≤ v m := fun i hi => by
      by_cases e : i = m
      · rw [e]; exact Nat.le_refl _
      · exact Nat.le_of_lt (hv i m (by omega) (by omega))
    have e : u n = v m := by
      obtain ⟨i, hi, h1⟩ := (h (u n)).mp ⟨n, by omega, rfl⟩
      obtain ⟨j, hj, h2⟩ := (h (v m)).mpr ⟨m, by omega, rfl⟩
      have := hv' i hi; have := hu' j hj; omega
    obtain ⟨k1, k2⟩ := srt_un (n := n) (m := m) (u := u) (v := v) (fun i j hi hj => hu i j hi (by omega)) (fun i j hi hj => hv i j hi (by omega)) (fun x => by
      constructor
      · rintro ⟨i, hi, rfl⟩
        obtain ⟨j, hj, h1⟩ := (h (u i)).mp ⟨i, by omega, rfl⟩
        have h2 := hu i n hi (by omega)
        refine ⟨j, ?_, h1⟩
        by_cases q : j = m
        · rw [q] at h1; omega
        · omega
      · rintro ⟨i, hi, rfl⟩
        obtain ⟨j, hj, h1⟩ := (h (v i)).mpr ⟨i, by omega, rfl⟩
        have h2 := hv i m hi (by omega)
        refine ⟨j, ?_, h1⟩
        by_cases q : j = n
        · rw [q] at h1; omega
        · omega)
    refine ⟨by omega, fun i hi => ?_⟩
    by_cases q : i = n
    · rw [q, e, k1]
    · exact k2 i (by omega)

/-! Tables as operators; how often a zero counts. -/
def mvt (s : Nat) (M : Nat → Nat → fF) (v : Nat → fF) : Nat → fF := fun i => if i < s then sm s (fun k => M i k * v k) else 0
def mmt (s : Nat) (A B : Nat → Nat → fF) : Nat → Nat → fF := fun i j => sm s (fun k => A i k * B k j)
theorem mvt_in {s : Nat} {M : Nat → Nat → fF} {v : Nat → fF} {i : Nat} (h : i < s) : mvt s M v i = sm s (fun k => M i k * v k) := by unfold mvt; rw [if_pos h]
theorem mvt_t (s : Nat) (M : Nat → Nat → fF) (v : Nat → fF) : trn s (mvt s M v) := fun i hi => by unfold mvt; rw [if_neg (by omega)]
theorem mvt_L (s : Nat) (M : Nat → Nat → fF) : Lin (mvt s M) := by
  intro a b u v; funext i
  unfold mvt
  by_cases h : i < s
  · simp only [if_pos h]; rw [← sm_mul, ← sm_mul, ← sm_add]; apply sm_cg; intro k _; grobner
  · simp only [if_neg h]; grobner
theorem mvt_mm {s : Nat} (A B : Nat → Nat → fF) (v : Nat → fF) : mvt s (mmt s A B) v = mvt s A (mvt s B v) := by
  funext i
  by_cases h : i < s
  · rw [mvt_in h, mvt_in h]
    have h1 : sm s (fun k => A i k * mvt s B v k) = sm s (fun k => sm s (fun j => A i k * B k j * v j)) := by
      apply sm_cg; intro k hk; rw [mvt_in hk, ← sm_mul]; apply sm_cg; intro j _; grobner
    rw [h1, sm_swap]
    apply sm_cg; intro j _; unfold mmt; rw [← sm_rmul]
  · unfold mvt; rw [if_neg h, if_neg h]
theorem mvt_cg {s : Nat} {A B : Nat → Nat → fF} (h : ∀ i k, i < s → k < s → A i k = B i k) (v : Nat → fF) : mvt s A v = mvt s B v := by
  funext i
  by_cases hi : i < s
  · rw [mvt_in hi, mvt_in hi]; apply sm_cg; intro k hk; rw [h i k hi hk]
  · unfold mvt; rw [if_neg hi, if_neg hi]
def eK (k : Nat) : Nat → fF := fun i => if i = k then 1 else 0
theorem eK_t {s k : Nat} (h : k < s) : trn s (eK k) := fun i hi => by unfold eK; rw [if_neg (by omega)]
theorem mvt_e {s : Nat} {M : Nat → Nat → fF} {k i : Nat} (hk : k < s) (hi : i < s) : mvt s M (eK k) i = M i k := by
  rw [mvt_in hi, sm_one hk (fun j _ h => by unfold eK; rw [if_neg h]; grobner)]; unfold eK; rw [if_pos rfl]; grobner
theorem eK_sum {s : Nat} {v : Nat → fF} (hv : trn s v) : (fun i => sm s (fun k => v k * eK k i)) = v := by
  funext i
  by_cases h : i < s
  · rw [sm_one h (fun k _ hne => by unfold eK; rw [if_neg (fun q => hne q.symm)]; grobner)]; unfold eK; rw [if_pos rfl]; grobner
  · rw [hv i (by omega)]; apply sm_z; intro k hk; unfold eK; rw [if_neg (by omega)]; grobner
/-- a matrix less z -/
def mzt (M : Nat → Nat → fF) (z : fF) : Nat → Nat → fF := fun i k => M i k - (if i = k then z else 0)
theorem mzt_v {s : Nat} {M : Nat → Nat → fF} {z : fF} {v : Nat → fF} {i : Nat} (hi : i < s) : mvt s (mzt M z) v i = mvt s M v i - z * v i := by
  rw [mvt_in hi, mvt_in hi]
  have h1 : sm s (fun k => (if i = k then z else 0) * v k) = z * v i := by
    rw [sm_one hi (fun k _ h => by rw [if_neg (fun q => h q.symm)]; grobner), if_pos rfl]
  rw [← h1, ← sm_sub]; apply sm_cg; intro k _; unfold mzt; grobner
theorem mvt_cm {s : Nat} {A B : Nat → Nat → fF} (h : ∀ i k, i < s → k < s → mmt s A B i k = mmt s B A i k) : Cm s (mvt s A) (mvt s B) := by
  intro v _
  rw [← mvt_mm, ← mvt_mm]; exact mvt_cg h v
theorem mzt_cm {s : Nat} {A B : Nat → Nat → fF} (h : Cm s (mvt s A) (mvt s B)) (z : fF) : Cm s (mvt s A) (mvt s (mzt B z)) := by
  intro v hv
  have h1 : mvt s (mzt B z) v = fun i => 1 * mvt s B v i + (-z) * v i := by
    funext i
    by_cases hi : i < s
    · rw [mzt_v hi]; grobner
    · rw [mvt_t s _ v i (by omega), mvt_t s _ v i (by omega), hv i (by omega)]; grobner
  rw [h1, mvt_L]
  funext i
  by_cases hi : i < s
  · rw [mzt_v hi, h v hv]; grobner
  · rw [mvt_t s _ _ i (by omega), mvt_t s _ _ i (by omega), mvt_t s _ _ i (by omega)]; grobner
/-- each operator of that kind fulfils an equation -/
theorem cyc {s : Nat} {P : (Nat → fF) → Nat → fF} (hl : Lin P) (hk : Kp s P) (Q : Nat → (Nat → fF) → Nat → fF) (hQ : ∀ j, j < s → Lin (Q j) ∧ Cm s (Q j) P ∧ Q j (eK 0) = eK j) :
    ∃ c : Nat → fF, (∃ k, k ≤ s ∧ c k ≠ 0) ∧ ∀ v, trn s v → ∀ i, sm (s + 1) (fun k => c k * itr P k v i) = 0 := by
  obtain ⟨c, hc, h⟩ := lin_sol s (fun i k => itr P k (eK 0) i)
  refine ⟨c, hc, fun v hv i => ?_⟩
  by_cases hs : s = 0
  · have : v = fun _ => 0 := by funext i; exact hv i (by omega)
    rw [this]; apply sm_z; intro k _; rw [Lin_z (itr_Lin hl k)]; grobner
  have e0 : trn s (eK 0) := eK_t (by omega)
  have h0 : (fun i => sm (s + 1) (fun k => c k * itr P k (eK 0) i)) = fun _ => 0 := by
    funext i
    by_cases hi : i < s
    · rw [← h i hi]; apply sm_cg; intro k _; grobner
    · apply sm_z; intro k _; rw [itr_Kp hk k _ e0 i (by omega)]; grobner
  have h1 : ∀ j, j < s → ∀ i, sm (s + 1) (fun k => c k * itr P k (eK j) i) = 0 := by
    intro j hj i
    obtain ⟨q1, q2, q3⟩ := hQ j hj
    have h2 := Lin_sm q1 c (fun k => itr P k (eK 0)) (s + 1)
    rw [h0, Lin_z q1] at h2
    have h3 := congrFun h2 i
    rw [show (0 : fF) = (fun _ : Nat => (0 : fF)) i from rfl, h3]
    apply sm_cg; intro k _
    have h4 := Cm_itr hk q2 k _ e0
    rw [q3] at h4; rw [h4]
  have h5 : ∀ k, itr P k v i = sm s (fun j => v j * itr P k (eK j) i) := by
    intro k
    have h6 := Lin_sm (itr_Lin hl k) v (fun j => eK j) s
    rw [eK_sum hv] at h6
    exact congrFun h6 i
  rw [sm_cg (g := fun k => sm s (fun j => v j * (c k * itr P k (eK j) i))) (fun k _ => by rw [h5, ← sm_mul]; apply sm_cg; intro j _; grobner), sm_swap]
  apply sm_z; intro j hj; rw [sm_mul, h1 j hj]; grobner
/-- squares of squares -/
def sqm (s : Nat) (M : Nat → Nat → fF) : Nat → Nat → Nat → fF
  | 0 => M
  | n + 1 => mmt s (sqm s M n) (sqm s M n)
theorem sqm_v {s : Nat} {M : Nat → Nat → fF} : ∀ (n : Nat) (v : Nat → fF), mvt s (sqm s M n) v = itr (mvt s M) (2 ^ n) v
  | 0, v => rfl
  | n + 1, v => by
    show mvt s (mmt s (sqm s M n) (sqm s M n)) v = _
    rw [mvt_mm, sqm_v n v, sqm_v n, ← itr_add, ← Nat.two_mul, ← Nat.pow_succ']
/-- the tables' operators -/
theorem tb_cm {n : Nat} {h : Nat → m3} {z : Nat → Nat} {mo : Nat → Nat → m3} {co : Nat → Nat → fF} (hL : mL n h z mo co) {In : m3 → Prop} {sz : Nat} {lf : Nat → m3} (hF : lfS n h z mo In sz lf)
    (hB : ∀ j i t, i < n → Ws z mo co (nu n h z mo co j) t i = 0) {x y : m3} (hx : ∀ u, In u → In (ad3 x u)) (hy : ∀ u, In u → In (ad3 y u)) : Cm sz (mvt sz (tb n h z mo co lf x)) (mvt sz (tb n h z mo co lf y)) :=
  mvt_cm (fun i k _ hk => tb_comm hL hF hB x y hx hy i k hk)
theorem tb_e {n : Nat} {h : Nat → m3} {z : Nat → Nat} {mo : Nat → Nat → m3} {co : Nat → Nat → fF} {In : m3 → Prop} {sz : Nat} {lf : Nat → m3} (hF : lfS n h z mo In sz lf) {x : m3} {k j : Nat} (hk : k < sz) (hj : j < sz) (e : ad3 x (lf k) = lf j) : mvt sz (tb n h z mo co lf x) (eK k) = eK j := by
  funext i
  by_cases hi : i < sz
  · rw [mvt_e hk hi]; unfold tb eK
    rw [e, nu_nd (hF.2.2.1 j hj).2]
    by_cases q : i = j
    · rw [q, if_pos rfl, if_pos rfl]
    · rw [if_neg q, if_neg (fun w => q (hF.2.2.2 i j hi hj (pl3_inj w.symm)))]
  · rw [mvt_t sz _ _ i (by omega), eK_t hj i (by omega)]
/-- the numbers of both ways agree -/
theorem often_eq {n : Nat} {h : Nat → m3} {z : Nat → Nat} {mo : Nat → Nat → m3} {co : Nat → Nat → fF} (hL : mL n h z mo co) {In : m3 → Prop} {s : Nat} {lf : Nat → m3} (hF : lfS n h z mo In s lf)
    (hB : ∀ j i t, i < n → Ws z mo co (nu n h z mo co j) t i = 0) (hs : s ≤ 16) (h0 : 0 < s → lf 0 = (0, 0, 0)) (hcl : ∀ k, k < s → ∀ u, In u → In (ad3 (lf k) u))
    {L : Nat} {x : Nat → m3} (hx : ∀ l, l < L → ∀ u, In u → In (ad3 (x l) u)) {ζ : Nat → fF} {d r : Nat} {ρ : Nat → Nat → fF} {pv : Nat → Nat} (hρ : spn s d ρ pv)
    (hρb : ∀ b : Nat → fF, (∀ a, a < d → sm s (fun i => b i * ρ a i) = 0) ↔ (∀ l, l < L → ∀ k, k < s → sm s (fun i => b i * itr (mvt s (mzt (tb n h z mo co lf (x l)) (ζ l))) s (eK k) i) = 0))
    {R R0 : Nat → Nat → fF} {pv2 : Nat → Nat} (hR : rkI s (s * L) s r R pv2 R0) (hR0 : ∀ l i j, l < L → i < s → j < s → R0 (s * l + i) j = sqm s (mzt (tb n h z mo co lf (x l)) (ζ l)) 4 i j) : d = r := by
  have cm : ∀ l, l < L → ∀ y : m3, (∀ u, In u → In (ad3 y u)) → Cm s (mvt s (tb n h z mo co lf y)) (mvt s (mzt (tb n h z mo co lf (x l)) (ζ l))) := fun l hl y hy => mzt_cm (tb_cm hL hF hB hy (hx l hl)) _
  have cm2 : ∀ l l', l < L → l' < L → Cm s (mvt s (mzt (tb n h z mo co lf (x l)) (ζ l))) (mvt s (mzt (tb n h z mo co lf (x l')) (ζ l'))) := fun l l' hl hl' => mzt_cm (Cm_sy (cm l hl _ (hx l' hl'))) _
  refine rk_eq (P := fun l => mvt s (mzt (tb n h z mo co lf (x l)) (ζ l))) hs (fun l _ => mvt_L s _) (fun l _ v _ => mvt_t s _ v) cm2 (fun l hl => ?_) (fun b => ?_) (fun c hc => spn_i hρ hc) (fun v hv => ?_) (fun c hc => rk_i hR c hc)
  · refine cyc (mvt_L s _) (fun v _ => mvt_t s _ v) (fun j => mvt s (tb n h z mo co lf (lf j))) (fun j hj => ⟨mvt_L s _, cm l hl _ (hcl j hj), ?_⟩)
    refine tb_e hF (by omega) hj ?_
    rw [h0 (by omega), ad3_cm, ad3_0]
  · rw [hρb]
    constructor
    · intro hb l hl v hv
      have h1 := Lin_sm (itr_Lin (mvt_L s (mzt (tb n h z mo co lf (x l)) (ζ l))) s) v (fun k => eK k) s
      rw [eK_sum hv] at h1
      simp only [h1]
      rw [sm_cg (g := fun i => sm s (fun k => v k * (b i * itr (mvt s (mzt (tb n h z mo co lf (x l)) (ζ l))) s (eK k) i))) (fun i _ => by rw [← sm_mul]; apply sm_cg; intro k _; grobner), sm_swap]
      apply sm_z; intro k hk; rw [sm_mul, hb l hl k hk]; grobner
    · intro hb l hl k hk; exact hb l hl _ (eK_t hk)
  · rw [rk_b hR v]
    have hv2 : ∀ l i, l < L → i < s → sm s (fun j => R0 (s * l + i) j * v j) = itr (mvt s (mzt (tb n h z mo co lf (x l)) (ζ l))) 16 v i := by
      intro l i hl hi
      have h1 := congrFun (sqm_v (s := s) (M := mzt (tb n h z mo co lf (x l)) (ζ l)) 4 v) i
      rw [mvt_in hi] at h1
      rw [show (16 : Nat) = 2 ^ 4 from rfl, ← h1]
      apply sm_cg; intro j hj; rw [hR0 l i j hl hi hj]
    constructor
    · intro hz l hl
      funext i
      by_cases hi : i < s
      · rw [← hv2 l i hl hi]
        apply hz
        have h5 : s * l + s ≤ s * L := by rw [← Nat.mul_succ]; exact Nat.mul_le_mul (Nat.le_refl s) hl
        omega
      · exact itr_Kp (fun v _ => mvt_t s _ v) 16 v hv i (by omega)
    · intro hz i hi
      have hs0 : 0 < s := Nat.pos_of_ne_zero (fun e => by rw [e, Nat.zero_mul] at hi; omega)
      have h1 : i = s * (i / s) + i % s := (Nat.div_add_mod i s).symm
      have h2 : i / s < L := Nat.div_lt_of_lt_mul hi
      have h3 : i % s < s := Nat.mod_lt _ hs0
      rw [h1, hv2 _ _ h2 h3]
      show itr (mvt s (mzt (tb n h z mo co lf (x (i / s))) (ζ (i / s)))) 16 v (i % s) = 0
      have h4 := hz _ h2
      rw [h4]

/-! Powers of a shifted letter, less multiples of a monic one: what was taken off is monic too. -/
theorem pw_2 (x : fF) (t : Nat) : x ^ (2 * t) = x ^ t * x ^ t := by rw [Nat.two_mul, pw_add9]
theorem bp_sq {dm t : Nat} {m w o q o' : fF → fF} {s : fF} (hm : PM dm m) (hd : 1 ≤ dm) (h1 : ∀ a, (a + s) ^ t = w a * m a + o a) (ho : PL dm o) (h2 : ∀ a, o a * o a = q a * m a + o' a) (hq : PL (dm - 1) q)
    (hA : dm ≤ t → PM (t - dm) w) (hB : t < dm → ∀ a, w a = 0) (hC : t < dm → dm ≤ 2 * t → PM (2 * t - dm) q) (hD : t < dm → 2 * t < dm → ∀ a, q a = 0) :
    ∃ w' : fF → fF, (∀ a, (a + s) ^ (2 * t) = w' a * m a + o' a) ∧ (dm ≤ 2 * t → PM (2 * t - dm) w') ∧ (2 * t < dm → ∀ a, w' a = 0) := by
  refine ⟨fun a => w a * (w a * m a) + (2 * (o a * w a) + q a), fun a => ?_, fun h => ?_, fun h a => ?_⟩
  · have h3 := h1 a
    have h4 := h2 a
    rw [pw_2, h3]; generalize (a + s) ^ t = y at h3; grobner
  · by_cases e : dm ≤ t
    · have k1 := PM_mul (hA e) (PM_mul (hA e) hm)
      rw [show t - dm + (t - dm + dm) = 2 * t - dm by omega] at k1
      have k2 := PL_le (show dm + (t - dm) ≤ 2 * t - dm by omega) (PL_c 2 (PL_mul (hA e) ho))
      exact PM_add k1 (PL_add k2 (PL_le (by omega) hq))
    · refine PM_cg (fun a => ?_) (hC (by omega) h)
      rw [hB (by omega)]; grobner
  · (try dsimp only); rw [hB (by omega), hD (by omega) h]; grobner
theorem bp_mul {dm t : Nat} {m w o q o' : fF → fF} {s : fF} (hd : 1 ≤ dm) (h1 : ∀ a, (a + s) ^ t = w a * m a + o a) (h2 : ∀ a, (a + s) * o a = q a * m a + o' a) (hq : PL 1 q)
    (hA : dm ≤ t → PM (t - dm) w) (hB : t < dm → ∀ a, w a = 0) (hC : t < dm → dm ≤ t + 1 → PM 0 q) (hD : t < dm → t + 1 < dm → ∀ a, q a = 0) :
    ∃ w' : fF → fF, (∀ a, (a + s) ^ (t + 1) = w' a * m a + o' a) ∧ (dm ≤ t + 1 → PM (t + 1 - dm) w') ∧ (t + 1 < dm → ∀ a, w' a = 0) := by
  refine ⟨fun a => a * w a + (s * w a + q a), fun a => ?_, fun h => ?_, fun h a => ?_⟩
  · have h3 := h1 a
    have h4 := h2 a
    rw [pw_s, h3]; generalize (a + s) ^ t = y at h3; grobner
  · by_cases e : dm ≤ t
    · have k1 := PM_sh (hA e)
      rw [show t - dm + 1 = t + 1 - dm by omega] at k1
      exact PM_add k1 (PL_add (PL_c s (PL_le (show t - dm + 1 ≤ t + 1 - dm by omega) (PM_PL (hA e)))) (PL_le (by omega) hq))
    · have k1 := hC (by omega) h
      rw [show t + 1 - dm = 0 by omega]
      refine PM_cg (fun a => ?_) k1
      rw [hB (by omega)]; grobner
  · (try dsimp only); rw [hB (by omega), hD (by omega) h]; grobner
/-- the first part: what m and x^p - x have in common is split, and has m's roots -/
theorem rt_first {d e : Nat} {m g A C w r : fF → fF} (hw : PM (32003 - d) w) (hd : d ≤ 16) (h1 : ∀ a, a ^ 32003 - a = w a * m a + r a) (hg : PM e g) (he : e ≤ d) (hA : PM (d - e) A) (hC : PL (d + 1 - e) C) (h2 : ∀ a, m a = A a * g a) (h3 : ∀ a, r a = C a * g a)
    (hz : ∀ a, m a = 0 → r a = 0 → g a = 0) : SPl e g ∧ ∀ a, g a = 0 ↔ m a = 0 := by
  have k1 := PM_mul hw hA
  rw [show 32003 - d + (d - e) = 32003 - e by omega] at k1
  have k2 := PM_add k1 (PL_le (show d + 1 - e ≤ 32003 - e by omega) hC)
  have k3 := SPl_dv SPl_p hg k2 (by omega) (fun a => by
    show a ^ 32003 - a = (w a * A a + C a) * g a
    rw [h1, h2, h3]; grobner)
  refine ⟨k3.1, fun a => ⟨fun q => by rw [h2, q]; grobner, fun q => hz a q ?_⟩⟩
  have k4 := h1 a
  rw [fermat, q] at k4
  grobner

/-! The same polynomial, its powers in another order; rows of the other sign; heads in the other order. -/
/-- k below z counts the powers at which C isn't 0, each once; exponents below 10 -/
def enm (C : m3 → fF) (z : Nat) (mo : Nat → m3) : Prop :=
  (∀ k, k < z → C (mo k) ≠ 0 ∧ (mo k).1 < 10 ∧ (mo k).2.1 < 10 ∧ (mo k).2.2 < 10) ∧ (∀ k j, k < z → j < z → mo k = mo j → k = j) ∧ ∀ u, C u ≠ 0 → ∃ k, k < z ∧ mo k = u
def Em (p : Nat) : m3 := (p % 10, p / 10 % 10, p / 100)
theorem Em_pl {u : m3} (h1 : u.1 < 10) (h2 : u.2.1 < 10) : Em (u.1 + 10 * u.2.1 + 100 * u.2.2) = u := by
  unfold Em; exact m3_ext (by omega) (by simp only; omega) (by simp only; omega)
theorem enm_sum {C : m3 → fF} {z : Nat} {mo : Nat → m3} (h : enm C z mo) (g : m3 → fF) : sm z (fun k => C (mo k) * g (mo k)) = sm 1000 (fun p => C (Em p) * g (Em p)) := by
  obtain ⟨h1, h2, h3⟩ := h
  have k1 : ∀ p, p < 1000 → C (Em p) * g (Em p) = sm z (fun k => if p = (mo k).1 + 10 * (mo k).2.1 + 100 * (mo k).2.2 then C (mo k) * g (mo k) else 0) := by
    intro p hp
    by_cases e : C (Em p) = 0
    · rw [e, sm_z]
      · grobner
      · intro k hk
        by_cases q : p = (mo k).1 + 10 * (mo k).2.1 + 100 * (mo k).2.2
        · have := (h1 k hk)
          rw [q, Em_pl this.2.1 this.2.2.1] at e
          exact absurd e this.1
        · rw [if_neg q]
    · obtain ⟨k, hk, hm⟩ := h3 _ e
      rw [sm_one hk]
      · rw [hm, if_pos]; unfold Em; simp only; omega
      · intro j hj hne
        rw [if_neg]; intro q
        have := (h1 j hj)
        have h4 := Em_pl (u := mo j) this.2.1 this.2.2.1
        rw [← q, ← hm] at h4
        exact hne (h2 j k hj hk h4.symm)
  rw [sm_cg (n := 1000) k1, sm_swap]
  apply sm_cg; intro k hk
  have := h1 k hk
  rw [sm_one (k := (mo k).1 + 10 * (mo k).2.1 + 100 * (mo k).2.2) (by omega), if_pos rfl]
  intro p _ hne; rw [if_neg hne]
theorem enm_eq {C : m3 → fF} {z z' : Nat} {mo mo' : Nat → m3} (h : enm C z mo) (h' : enm C z' mo') (g : m3 → fF) : sm z (fun k => C (mo k) * g (mo k)) = sm z' (fun k => C (mo' k) * g (mo' k)) := by
  rw [enm_sum h, enm_sum h']
theorem aR_cg {z z' : Nat → Nat} {mo mo' : Nat → Nat → m3} {co co' : Nat → Nat → fF} {i : Nat} (h : ∀ g : m3 → fF, sm (z i) (fun k => co i k * g (mo i k)) = sm (z' i) (fun k => co' i k * g (mo' i k))) (t : m3) (c : fF) (R : Nat → fF) : aR z mo co t i c R = aR z' mo' co' t i c R := by
  funext q
  unfold aR
  have h1 := h (fun u => if q = pl3 (ad3 t u) then 1 else 0)
  rw [sm_cg (g := fun k => co i k * (if q = pl3 (ad3 t (mo i k)) then 1 else 0)) (fun k _ => by split <;> grobner), h1]
  congr 2
  apply sm_cg; intro k _; split <;> grobner
theorem rd_cg {n : Nat} {h : Nat → m3} {z z' : Nat → Nat} {mo mo' : Nat → Nat → m3} {co co' : Nat → Nat → fF} (hh : ∀ i, i < n → ∀ g : m3 → fF, sm (z i) (fun k => co i k * g (mo i k)) = sm (z' i) (fun k => co' i k * g (mo' i k))) :
    ∀ (q : Nat) (R : Nat → fF), rd n h z mo co q R = rd n h z' mo' co' q R
  | 0, _ => rfl
  | q + 1, R => by
    unfold rd
    by_cases e : fi h (Ep q) n < n
    · rw [if_pos e, if_pos e, aR_cg (hh _ e), rd_cg hh q]
    · rw [if_neg e, if_neg e, rd_cg hh q]
theorem aR_neg {z : Nat → Nat} {mo : Nat → Nat → m3} {co : Nat → Nat → fF} (t : m3) (i : Nat) (c : fF) (R : Nat → fF) : aR z mo co t i (-c) (fun q => - R q) = fun q => - aR z mo co t i c R q := by
  funext q; unfold aR; grobner
theorem rd_neg {n : Nat} {h : Nat → m3} {z : Nat → Nat} {mo : Nat → Nat → m3} {co : Nat → Nat → fF} : ∀ (q : Nat) (R : Nat → fF), rd n h z mo co q (fun j => - R j) = fun j => - rd n h z mo co q R j
  | 0, _ => rfl
  | q + 1, R => by
    unfold rd
    by_cases e : fi h (Ep q) n < n
    · rw [if_pos e, if_pos e, aR_neg, rd_neg q]
    · rw [if_neg e, if_neg e, rd_neg q]
theorem aR_sw {z : Nat → Nat} {mo : Nat → Nat → m3} {co : Nat → Nat → fF} (t u : m3) (i j : Nat) : aR z mo co u j 1 (aR z mo co t i (-1) (fun _ => 0)) = fun q => - aR z mo co u j (-1) (aR z mo co t i 1 (fun _ => 0)) q := by
  funext q; unfold aR; grobner
theorem aR_cm {z : Nat → Nat} {mo : Nat → Nat → m3} {co : Nat → Nat → fF} (t u : m3) (i j : Nat) (c d : fF) (R : Nat → fF) : aR z mo co u j d (aR z mo co t i c R) = aR z mo co t i c (aR z mo co u j d R) := by
  funext q; unfold aR; grobner
theorem sh3_sy {u v : m3} (h : sh3 u v) : sh3 v u := by unfold sh3 at *; omega
theorem lc3_sy (u v : m3) : lc3 u v = lc3 v u := m3_ext (Nat.max_comm _ _) (Nat.max_comm _ _) (Nat.max_comm _ _)
/-- Buchberger with each two heads asked once -/
theorem buch2 {n : Nat} {h : Nat → m3} {z : Nat → Nat} {mo : Nat → Nat → m3} {co : Nat → Nat → fF} (hL : mL n h z mo co)
    (hS : ∀ i j, i < j → j < n → sh3 (h i) (h j) → ∀ q, q < pl3 (lc3 (h i) (h j)) + 1 →
      rd n h z mo co (pl3 (lc3 (h i) (h j)) + 1) (aR z mo co (sb3 (lc3 (h i) (h j)) (h j)) j (-1) (aR z mo co (sb3 (lc3 (h i) (h j)) (h i)) i 1 (fun _ => 0))) q = 0) :
    ∀ j i t, i < n → Ws z mo co (nu n h z mo co j) t i = 0 := by
  intro j i t hi
  refine buch hL (fun u hu => nu_dv hL hu) (fun a b ha hb hne hs q hq => ?_) _ i t hi rfl
  rcases Nat.lt_or_ge a b with e | e
  · exact hS a b e hb hs q hq
  · have h1 := hS b a (by omega) ha (sh3_sy hs)
    rw [lc3_sy] at h1
    have h2 := h1 q hq
    rw [aR_cm, aR_sw, rd_neg]; (try dsimp only); rw [h2]; grobner

/-! The powers that are left, one after another. -/
/-- the places below Q of which P holds, in order: sz of them -/
def colS (P : Nat → Prop) (Q sz : Nat) (lf : Nat → Nat) : Prop := (∀ k, k < sz → lf k < Q ∧ P (lf k)) ∧ (∀ i j, i < j → j < sz → lf i < lf j) ∧ ∀ q, q < Q → P q → ∃ k, k < sz ∧ lf k = q
theorem colS_0 (P : Nat → Prop) (lf : Nat → Nat) : colS P 0 0 lf := ⟨fun k h => absurd h (Nat.not_lt_zero k), fun _ j _ h => absurd h (Nat.not_lt_zero j), fun q h => absurd h (Nat.not_lt_zero q)⟩
theorem colS_no {P : Nat → Prop} {Q sz : Nat} {lf : Nat → Nat} (h : colS P Q sz lf) (hn : ¬ P Q) : colS P (Q + 1) sz lf := by
  obtain ⟨h1, h2, h3⟩ := h
  refine ⟨fun k hk => ⟨by have := (h1 k hk).1; omega, (h1 k hk).2⟩, h2, fun q hq hp => ?_⟩
  by_cases e : q = Q
  · rw [e] at hp; exact absurd hp hn
  · exact h3 q (by omega) hp
theorem colS_yes {P : Nat → Prop} {Q sz : Nat} {lf lf1 : Nat → Nat} (h : colS P Q sz lf) (hy : P Q) (e1 : ∀ k, k < sz → lf1 k = lf k) (e2 : lf1 sz = Q) : colS P (Q + 1) (sz + 1) lf1 := by
  obtain ⟨h1, h2, h3⟩ := h
  refine ⟨fun k hk => ?_, fun i j hi hj => ?_, fun q hq hp => ?_⟩
  · by_cases e : k = sz
    · rw [e, e2]; exact ⟨by omega, hy⟩
    · rw [e1 k (by omega)]; exact ⟨by have := (h1 k (by omega)).1; omega, (h1 k (by omega)).2⟩
  · by_cases e : j = sz
    · rw [e, e2, e1 i (by omega)]; exact (h1 i (by omega)).1
    · rw [e1 i (by omega), e1 j (by omega)]; exact h2 i j hi (by omega)
  · by_cases e : q = Q
    · exact ⟨sz, by omega, by rw [e2, e]⟩
    · obtain ⟨k, hk, hk2⟩ := h3 q (by omega) hp
      exact ⟨k, by omega, by rw [e1 k hk, hk2]⟩
theorem colS_to {P : Nat → Prop} {Q Q' sz : Nat} {lf : Nat → Nat} (h : colS P Q sz lf) (hQ : Q ≤ Q') (hn : ∀ q, Q ≤ q → q < Q' → ¬ P q) : colS P Q' sz lf := by
  obtain ⟨h1, h2, h3⟩ := h
  refine ⟨fun k hk => ⟨by have := (h1 k hk).1; omega, (h1 k hk).2⟩, h2, fun q hq hp => ?_⟩
  by_cases e : q < Q
  · exact h3 q e hp
  · exact absurd hp (hn q (by omega) hq)
/-- which powers are spoken of: those of the first L letters -/
def InL (L : Nat) (u : m3) : Prop := (1 < L ∨ u.2.1 = 0) ∧ (2 < L ∨ u.2.2 = 0)
def lfP (n : Nat) (h : Nat → m3) (L : Nat) (q : Nat) : Prop := InL L (Ep q) ∧ ¬ fi h (Ep q) n < n
theorem fi_no {h : Nat → m3} {u : m3} {n : Nat} (H : ¬ fi h u n < n) {i : Nat} (hi : i < n) : ¬ dv3 (h i) u := fun q => H (Nat.lt_of_le_of_lt (fi_ex q) hi)
theorem fi_nd {h : Nat → m3} {u : m3} {n : Nat} (H : ∀ i, i < n → ¬ dv3 (h i) u) : ¬ fi h u n < n := fun q => H _ q ((fi_sp h u n).1 q)
theorem dv3_tr {u v w : m3} (h : dv3 u v) (g : dv3 v w) : dv3 u w := ⟨Nat.le_trans h.1 g.1, Nat.le_trans h.2.1 g.2.1, Nat.le_trans h.2.2 g.2.2⟩
/-- what divides a power that is left is left -/
theorem lf_dv {n : Nat} {h : Nat → m3} {L : Nat} {u v : m3} (hI : InL L u) (hu : ¬ fi h u n < n) (hv : dv3 v u) : InL L v ∧ ¬ fi h v n < n := by
  refine ⟨?_, fi_nd (fun i hi q => fi_no hu hi (dv3_tr q hv))⟩
  obtain ⟨h1, h2⟩ := hI
  obtain ⟨v1, v2, v3⟩ := hv
  unfold InL; omega
theorem lf_lo {n : Nat} {h : Nat → m3} {L : Nat} : ∀ (m : Nat) (u : m3), u.1 + u.2.1 + u.2.2 = m → InL L u → ¬ fi h u n < n → ∀ d, d ≤ m → ∃ v : m3, v.1 + v.2.1 + v.2.2 = d ∧ InL L v ∧ ¬ fi h v n < n
  | m, u, hm, hI, hu, d, hd => by
    by_cases e : d = m
    · exact ⟨u, by omega, hI, hu⟩
    · have step : ∀ v : m3, dv3 v u → v.1 + v.2.1 + v.2.2 = m - 1 → ∃ v : m3, v.1 + v.2.1 + v.2.2 = d ∧ InL L v ∧ ¬ fi h v n < n := by
        intro v hv hs
        obtain ⟨k1, k2⟩ := lf_dv hI hu hv
        exact lf_lo (m - 1) v hs k1 k2 d (by omega)
      by_cases e1 : 0 < u.1
      · exact step (u.1 - 1, u.2.1, u.2.2) ⟨by simp only; omega, Nat.le_refl _, Nat.le_refl _⟩ (by simp only; omega)
      · by_cases e2 : 0 < u.2.1
        · exact step (u.1, u.2.1 - 1, u.2.2) ⟨Nat.le_refl _, by simp only; omega, Nat.le_refl _⟩ (by simp only; omega)
        · exact step (u.1, u.2.1, u.2.2 - 1) ⟨Nat.le_refl _, Nat.le_refl _, by simp only; omega⟩ (by simp only; omega)
  termination_by m => m
/-- behind a degree without any there are none -/
theorem lf_end {n : Nat} {h : Nat → m3} {L Q sz : Nat} {lf : Nat → Nat} (hc : colS (lfP n h L) Q sz lf) {d : Nat} (hQ : tr3 d ≤ Q) (hd : 1 ≤ d) (hm : ∀ k, k < sz → (Ep (lf k)).1 + (Ep (lf k)).2.1 + (Ep (lf k)).2.2 + 1 < d) : ∀ q, Q ≤ q → ¬ lfP n h L q := by
  intro q hq ⟨hI, hf⟩
  have h1 : tr3 (d - 1 + 1) ≤ pl3 (Ep q) := by rw [pl_Ep3, show d - 1 + 1 = d by omega]; omega
  have h2 : d ≤ (Ep q).1 + (Ep q).2.1 + (Ep q).2.2 := by
    rcases Nat.lt_or_ge ((Ep q).1 + (Ep q).2.1 + (Ep q).2.2) d with e | e
    · have := pl_lt (a := (Ep q).1) (b := (Ep q).2.1) (d := (Ep q).2.2) (M := d - 1) (by omega)
      have h3 : pl3 (Ep q) = plN (Ep q).1 (Ep q).2.1 (Ep q).2.2 := rfl
      omega
    · exact e
  obtain ⟨v, hv, v1, v2⟩ := lf_lo _ (Ep q) rfl hI hf (d - 1) (by omega)
  have h3 : pl3 v < Q := by
    have := pl_lt (a := v.1) (b := v.2.1) (d := v.2.2) (M := d - 1) (by omega)
    rw [show d - 1 + 1 = d by omega] at this
    have h4 : pl3 v = plN v.1 v.2.1 v.2.2 := rfl
    omega
  obtain ⟨k, hk, hk2⟩ := hc.2.2 (pl3 v) h3 ⟨by rw [Ep_pl3]; exact v1, by rw [Ep_pl3]; exact v2⟩
  have h5 := hm k hk
  rw [hk2, Ep_pl3] at h5; omega
/-- with each letter bounded, no power that is left has an exponent over 8 -/
theorem lf_bd {n : Nat} {h : Nat → m3} {L : Nat} (hL : L ≤ 3) (hf : ∀ l, l < L → ∃ i, i < n ∧ (if l = 0 then (h i).1 else if l = 1 then (h i).2.1 else (h i).2.2) = (h i).1 + (h i).2.1 + (h i).2.2) (h9 : ∀ i, i < n → (h i).1 ≤ 9 ∧ (h i).2.1 ≤ 9 ∧ (h i).2.2 ≤ 9) (h0 : 1 ≤ L) {u : m3} (hI : InL L u) (hu : ¬ fi h u n < n) : u.1 ≤ 8 ∧ u.2.1 ≤ 8 ∧ u.2.2 ≤ 8 := by
  obtain ⟨k1, k2⟩ := hI
  have a0 : u.1 ≤ 8 := by
    obtain ⟨i, hi, q⟩ := hf 0 (by omega)
    rw [if_pos rfl] at q
    have := h9 i hi
    rcases Nat.lt_or_ge 8 u.1 with e | e
    · exact absurd ⟨by omega, by omega, by omega⟩ (fi_no hu hi)
    · exact e
  have a1 : u.2.1 ≤ 8 := by
    by_cases e1 : 1 < L
    · obtain ⟨i, hi, q⟩ := hf 1 e1
      rw [if_neg (by decide), if_pos rfl] at q
      have := h9 i hi
      rcases Nat.lt_or_ge 8 u.2.1 with e | e
      · exact absurd ⟨by omega, by omega, by omega⟩ (fi_no hu hi)
      · exact e
    · omega
  have a2 : u.2.2 ≤ 8 := by
    by_cases e1 : 2 < L
    · obtain ⟨i, hi, q⟩ := hf 2 e1
      rw [if_neg (by decide), if_neg (by decide)] at q
      have := h9 i hi
      rcases Nat.lt_or_ge 8 u.2.2 with e | e
      · exact absurd ⟨by omega, by omega, by omega⟩ (fi_no hu hi)
      · exact e
    · omega
  exact ⟨a0, a1, a2⟩

/-! All that are left; the least polynomial's rows. -/
theorem colS_lf {n : Nat} {h : Nat → m3} {z : Nat → Nat} {mo : Nat → Nat → m3} {L Q sz : Nat} {lf : Nat → Nat} (hm : ∀ i, i < n → ∀ k, k < z i → InL L (mo i k)) (hc : colS (lfP n h L) Q sz lf) (hQ : ∀ q, lfP n h L q → q < Q) : lfS n h z mo (InL L) sz (fun k => Ep (lf k)) := by
  obtain ⟨h1, h2, h3⟩ := hc
  refine ⟨fun u hu hf k hk => ?_, fun u hu hf => ?_, fun k hk => (h1 k hk).2, fun k k' hk hk' e => ?_⟩
  · have h4 := hm _ hf k hk
    unfold InL at *
    simp only [ad3, sb3]; omega
  · have h4 : lfP n h L (pl3 u) := ⟨by rw [Ep_pl3]; exact hu, by rw [Ep_pl3]; exact hf⟩
    obtain ⟨k, hk, hk2⟩ := h3 _ (hQ _ h4) h4
    exact ⟨k, hk, by show Ep (lf k) = u; rw [hk2, Ep_pl3]⟩
  · have h5 : lf k = lf k' := by have := congrArg pl3 e; rw [pl_Ep3, pl_Ep3] at this; exact this
    rcases Nat.lt_trichotomy k k' with q | q | q
    · have := h2 k k' q hk'; omega
    · exact q
    · have := h2 k' k q hk; omega
theorem lf_first {n : Nat} {h : Nat → m3} {L Q sz : Nat} {lf : Nat → Nat} (hc : colS (lfP n h L) Q sz lf) (hs : 0 < sz) : lf 0 = 0 := by
  obtain ⟨h1, h2, h3⟩ := hc
  obtain ⟨k1, k2, k3⟩ := h1 0 hs
  have h0 : lfP n h L 0 := by
    have := lf_dv k2 k3 (v := (0, 0, 0)) ⟨Nat.zero_le _, Nat.zero_le _, Nat.zero_le _⟩
    exact this
  obtain ⟨k, hk, hk2⟩ := h3 0 (by omega) h0
  rcases Nat.eq_zero_or_pos k with e | e
  · rw [e] at hk2; exact hk2
  · have := h2 0 k e hk; omega
/-- the row of the n-th power as it is laid, and as it is left when the rows ahead are taken off -/
def w0R (s : Nat) (v : Nat → Nat → fF) (n : Nat) : Nat → fF := fun k => if k < s then v n k else if k = 16 + n then 1 else 0
noncomputable def lsT (s : Nat) (v : Nat → Nat → fF) : Nat → (Nat → Nat → fF) × (Nat → Nat)
  | 0 => (fun _ _ => 0, fun _ => 0)
  | n + 1 => (fun r => if r = n then fun k => tkO (lsT s v n).1 (lsT s v n).2 n (w0R s v n) k * iv (tkO (lsT s v n).1 (lsT s v n).2 n (w0R s v n) (fnz (tkO (lsT s v n).1 (lsT s v n).2 n (w0R s v n)) s)) else (lsT s v n).1 r,
      fun r => if r = n then fnz (tkO (lsT s v n).1 (lsT s v n).2 n (w0R s v n)) s else (lsT s v n).2 r)
noncomputable def rwN (s : Nat) (v : Nat → Nat → fF) (n : Nat) : Nat → fF := tkO (lsT s v n).1 (lsT s v n).2 n (w0R s v n)
noncomputable def lsρ (s : Nat) (v : Nat → Nat → fF) (r : Nat) : Nat → fF := fun k => rwN s v r k * iv (rwN s v r (fnz (rwN s v r) s))
noncomputable def lsp (s : Nat) (v : Nat → Nat → fF) (r : Nat) : Nat := fnz (rwN s v r) s
theorem lsT_at (s : Nat) (v : Nat → Nat → fF) : ∀ n r, r < n → (lsT s v n).1 r = lsρ s v r ∧ (lsT s v n).2 r = lsp s v r
  | 0, r, h => absurd h (Nat.not_lt_zero r)
  | n + 1, r, h => by
    by_cases e : r = n
    · subst e
      unfold lsT lsρ lsp rwN
      simp only [if_true]
      exact ⟨trivial, trivial⟩
    · have ih := lsT_at s v n r (by omega)
      unfold lsT
      simp only [if_neg e]; exact ih
theorem rw_eq (s : Nat) (v : Nat → Nat → fF) (n : Nat) : rwN s v n = tkO (lsρ s v) (lsp s v) n (w0R s v n) := by
  unfold rwN
  exact tkO_cg _ n (fun r hr => lsT_at s v n r hr)
theorem ls_spn {s : Nat} {v : Nat → Nat → fF} : ∀ n, (∀ m, m < n → fnz (rwN s v m) s < s) → spn s n (lsρ s v) (lsp s v)
  | 0, _ => fun r h => absurd h (Nat.not_lt_zero r)
  | n + 1, h => by
    have ih := ls_spn n (fun m hm => h m (by omega))
    have hn := h n (Nat.lt_succ_self n)
    intro r hr
    by_cases e : r = n
    · subst e
      refine ⟨hn, iv_mul ((fnz_sp _ s).1 hn), fun q hq => ?_⟩
      show rwN s v r (lsp s v q) * _ = 0
      rw [rw_eq, tkO_z ih _ r (Nat.le_refl r) q hq]; grobner
    · exact ih r (by omega)
theorem fst_nat {P : Nat → Prop} {m : Nat} (h : P m) : ∃ n, n ≤ m ∧ P n ∧ ∀ k, k < n → ¬ P k := by
  induction m using Nat.strongRecOn with
  | _ m ih =>
    by_cases e : ∃ k, k < m ∧ P k
    · obtain ⟨k, h1, h2⟩ := e
      obtain ⟨n, q1, q2, q3⟩ := ih k h1 h2
      exact ⟨n, by omega, q2, q3⟩
    · exact ⟨m, Nat.le_refl m, h, fun k hk q => e ⟨k, hk, q⟩⟩
/-- the least polynomial's degree: the first power whose row is left with nothing -/
theorem ls_deg (pig : ∀ (m n : Nat) (f : Nat → Nat), (∀ i, i < n → f i < m) → (∀ i j, i < n → j < n → f i = f j → i = j) → n ≤ m) (s : Nat) (v : Nat → Nat → fF) : ∃ D, D ≤ s ∧ fnz (rwN s v D) s = s ∧ ∀ m, m < D → fnz (rwN s v m) s < s := by
  by_cases e : ∃ m, m ≤ s ∧ fnz (rwN s v m) s = s
  · obtain ⟨m, hm, hz⟩ := e
    obtain ⟨n, q1, q2, q3⟩ := fst_nat (P := fun m => fnz (rwN s v m) s = s) hz
    exact ⟨n, by omega, q2, fun k hk => by have := fnz_le (rwN s v k) s; have := q3 k hk; omega⟩
  · have h1 := ls_spn (s := s) (v := v) s (fun m hm => by
      have := fnz_le (rwN s v m) s
      rcases Nat.lt_or_ge (fnz (rwN s v m) s) s with q | q
      · exact q
      · exact absurd ⟨m, by omega, by omega⟩ e)
    exact absurd ⟨s, Nat.le_refl s, fnz_no (fun j hj => by rw [rw_eq]; exact spn_full h1 _ pig (Nat.le_refl s) j hj)⟩ e
theorem tkO_k {ρ : Nat → Nat → fF} {pv : Nat → Nat} {v : Nat → fF} {k : Nat} : ∀ n, (∀ r, r < n → ρ r k = 0) → tkO ρ pv n v k = v k
  | 0, _ => rfl
  | n + 1, h => by
    show tkO ρ pv n v k - tkO ρ pv n v (pv n) * ρ n k = v k
    rw [tkO_k n (fun r hr => h r (by omega)), h n (Nat.lt_succ_self n)]; grobner
theorem rw_hi {s : Nat} (hs : s ≤ 16) {v : Nat → Nat → fF} : ∀ n k, n < k → rwN s v n (16 + k) = 0 := by
  intro n
  induction n using Nat.strongRecOn with
  | _ n ih =>
    intro k hk
    rw [rw_eq, tkO_k n (fun r hr => by show rwN s v r (16 + k) * _ = 0; rw [ih r hr k (by omega)]; grobner)]
    unfold w0R; rw [if_neg (by omega), if_neg (by omega)]
theorem rw_top {s : Nat} (hs : s ≤ 16) {v : Nat → Nat → fF} (n : Nat) : rwN s v n (16 + n) = 1 := by
  rw [rw_eq, tkO_k n (fun r hr => by show rwN s v r (16 + n) * _ = 0; rw [rw_hi hs r n hr]; grobner)]
  unfold w0R; rw [if_neg (by omega), if_pos rfl]
