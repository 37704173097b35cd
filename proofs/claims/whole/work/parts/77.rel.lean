/-! The law: what holds between its calls. -/
def plR (cf : Nat → Nat → Nat) (PO : Nat → fF) : Prop := ∀ k, k < 40 → ∀ u : m3, e9 u → PO (1000 * k + pN u.1 u.2.1 u.2.2) = fc (cf k (kT u))
def plI (nl : Nat) (cf : Nat → Nat → Nat) : Prop := ∀ k, k < 40 → ∀ u : m3, e9 u → cf k (kT u) ≠ 0 → InL nl u
theorem pN_l9 {u : m3} (h : e9 u) : pN u.1 u.2.1 u.2.2 < 1000 := by unfold e9 at h; unfold pN; omega
theorem pN_inj {u v : m3} (h : e9 u) (g : e9 v) (e : pN u.1 u.2.1 u.2.2 = pN v.1 v.2.1 v.2.2) : u = v := by
  rw [← Em_pN h, ← Em_pN g, e]
theorem kT_in {u v : m3} (h : e9 u) (g : e9 v) (e : kT u = kT v) : u = v := by
  unfold e9 at h g
  exact (kT_inj (M := 27) (by decide) (by omega) (by omega)).mp e
theorem Em_e9 {q : Nat} (h : q < 1000) : e9 (Em q) := by
  have : Em q = (q % 10, q / 10 % 10, q / 100) := rfl
  rw [this]; unfold e9; simp; omega
theorem pN_Em {q : Nat} (h : q < 1000) : pN (Em q).1 (Em q).2.1 (Em q).2.2 = q := by
  have : Em q = (q % 10, q / 10 % 10, q / 100) := rfl
  rw [this]; unfold pN; simp; omega
theorem pG_zero {cap pz : Nat → Nat} {kf nf : Nat → Nat → Int32} {cf : Nat → Nat → Nat} (h : pG 40 cap pz kf nf cf) (i : Nat) : pG 40 cap (va_up pz i 0) kf nf (va_up cf i (fun _ => 0)) := by
  intro j hj
  obtain ⟨g1, g2, g3, g4, g5⟩ := h j hj
  by_cases e : j = i
  · subst e; rw [mp_us, mp_us]; exact ⟨pY_0 _ _, fun k q => absurd rfl q, Nat.zero_le _, g4, g5⟩
  · rw [mp_un e, mp_un e]; exact ⟨g1, g2, g3, g4, g5⟩
theorem pG_all0 {cap pz : Nat → Nat} {kf nf : Nat → Nat → Int32} {cf : Nat → Nat → Nat} (h : pG 40 cap pz kf nf cf) : pG 40 cap (fun _ => 0) kf nf (fun _ _ => 0) := by
  intro j hj
  obtain ⟨g1, g2, g3, g4, g5⟩ := h j hj
  exact ⟨pY_0 _ _, fun k q => absurd rfl q, Nat.zero_le _, g4, g5⟩
theorem pG_lt {cap pz : Nat → Nat} {kf nf : Nat → Nat → Int32} {cf : Nat → Nat → Nat} (h : pG 40 cap pz kf nf cf) {k : Nat} (hk : k < 40) (key : Nat) : cf k key < 32003 := by
  obtain ⟨⟨K, X, h1, h2, h3⟩, _⟩ := h k hk
  by_cases e : cf k key = 0
  · omega
  · obtain ⟨i, hi, rfl⟩ := h3 key e
    obtain ⟨_, _, _, _, h5, h6⟩ := h1 i hi
    omega
def uK (k : Nat) : m3 := (k / 32 % 32, k % 32, k / 1024 - k / 32 % 32 - k % 32)
theorem uK_ok {k : Nat} (h : vK k) : kT (uK k) = k ∧ e9 (uK k) := by
  obtain ⟨a, b, d, ha, hb, hd, rfl⟩ := h
  obtain ⟨h1, h2, h3⟩ := kN_parts ha hb hd
  have e : uK (kN a b d) = (a, b, d) := by
    unfold uK; rw [h1, h2, h3]; exact m3_ext rfl rfl (show a + b + d - a - b = d by omega)
  rw [e]; exact ⟨rfl, ha, hb, hd⟩
theorem kT_pl {u v : m3} (h : e9 u) (g : e9 v) (e : kT u < kT v) : pl3 u < pl3 v := by
  apply pl_lo
  unfold e9 at h g; unfold kT kN at e
  omega
theorem pG_mo {cap pz : Nat → Nat} {kf nf : Nat → Nat → Int32} {cf : Nat → Nat → Nat} (h : pG 40 cap pz kf nf cf) {k : Nat} (hk : k < 40) : ∃ (mu : Nat → m3) (X : Nat → Nat), (∀ i, i < pz k → kf k i = nI (kT (mu i)) ∧ nf k i = nI (X i) ∧ 0 < X i ∧ X i < 32003 ∧ e9 (mu i) ∧ cf k (kT (mu i)) = X i) ∧ (∀ i j, i < j → j < pz k → pl3 (mu j) < pl3 (mu i)) ∧ (∀ u, e9 u → cf k (kT u) ≠ 0 → ∃ i, i < pz k ∧ mu i = u) := by
  obtain ⟨⟨K, X, h1, h2, h3⟩, hv, _⟩ := h k hk
  have hK : ∀ i, i < pz k → kT (uK (K i)) = K i ∧ e9 (uK (K i)) := fun i hi => uK_ok (hv _ (by obtain ⟨-, -, -, g4, -, g6⟩ := h1 i hi; omega))
  refine ⟨fun i => uK (K i), X, fun i hi => ?_, fun i j hij hj => ?_, fun u hu hc => ?_⟩
  · obtain ⟨g1, g2, _, g4, g5, g6⟩ := h1 i hi
    obtain ⟨e1, e2⟩ := hK i hi
    show kf k i = nI (kT (uK (K i))) ∧ _ ∧ _ ∧ _ ∧ e9 (uK (K i)) ∧ cf k (kT (uK (K i))) = X i
    rw [e1]; exact ⟨g1, g2, g4, g5, e2, g6⟩
  · obtain ⟨e1, e2⟩ := hK i (by omega)
    obtain ⟨e3, e4⟩ := hK j hj
    refine kT_pl e4 e2 ?_
    show kT (uK (K j)) < kT (uK (K i))
    rw [e1, e3]; exact h2 i j hij hj
  · obtain ⟨i, hi, e⟩ := h3 _ hc
    refine ⟨i, hi, ?_⟩
    obtain ⟨e1, e2⟩ := hK i hi
    exact kT_in e2 hu (by rw [e1, e])
/-- the polynomial's number at a power -/
def cC (cf : Nat → Nat → Nat) (k : Nat) (u : m3) : fF := if u.1 ≤ 9 ∧ u.2.1 ≤ 9 ∧ u.2.2 ≤ 9 then fc (cf k (kT u)) else 0
theorem cC_in {cf : Nat → Nat → Nat} {k : Nat} {u : m3} (h : e9 u) : cC cf k u = fc (cf k (kT u)) := if_pos h
theorem cC_9 {cf : Nat → Nat → Nat} {k : Nat} {u : m3} (h : cC cf k u ≠ 0) : e9 u := by
  apply Classical.byContradiction; intro q
  exact h (if_neg q)
theorem cC_P {cf : Nat → Nat → Nat} {PO : Nat → fF} (h : plR cf PO) {k q : Nat} (hk : k < 40) (hq : q < 1000) : PO (1000 * k + q) = cC cf k (Em q) := by
  rw [cC_in (Em_e9 hq), ← h k hk _ (Em_e9 hq), pN_Em hq]
theorem enm_B {cf : Nat → Nat → Nat} {k z : Nat} {mu : Nat → m3} {X : Nat → Nat} (h1 : ∀ i, i < z → 0 < X i ∧ X i < 32003 ∧ e9 (mu i) ∧ cf k (kT (mu i)) = X i) (h2 : ∀ i j, i < j → j < z → pl3 (mu j) < pl3 (mu i)) (h3 : ∀ u, e9 u → cf k (kT u) ≠ 0 → ∃ i, i < z ∧ mu i = u) : enm (cC cf k) z mu := by
  refine ⟨fun i hi => ?_, fun i j hi hj e => ?_, fun u hu => ?_⟩
  · obtain ⟨a1, a2, a3, a4⟩ := h1 i hi
    refine ⟨?_, by unfold e9 at a3; omega, by unfold e9 at a3; omega, by unfold e9 at a3; omega⟩
    rw [cC_in a3, a4]
    exact fun q => absurd ((fc_z a2).mp q) (by omega)
  · rcases Nat.lt_trichotomy i j with q | q | q
    · have := h2 i j q hj; rw [e] at this; exact absurd this (Nat.lt_irrefl _)
    · exact q
    · have := h2 j i q hi; rw [e] at this; exact absurd this (Nat.lt_irrefl _)
  · have h9 := cC_9 hu
    refine h3 u h9 (fun q => hu ?_)
    rw [cC_in h9, q]; rfl
theorem enm_M {cf : Nat → Nat → Nat} {PO : Nat → fF} (h : plR cf PO) {k n : Nat} {pj : Nat → Nat} (hk : k < 40) (hc : colS (fun q => PO (1000 * k + q) ≠ 0) 1000 n pj) : enm (cC cf k) n (fun j => Em (pj j)) := by
  refine ⟨fun i hi => ?_, fun i j hi hj e => ?_, fun u hu => ?_⟩
  · obtain ⟨a1, a2⟩ := hc.1 i hi
    have a3 := Em_e9 a1
    refine ⟨by show cC cf k (Em (pj i)) ≠ 0; rw [← cC_P h hk a1]; exact a2, Nat.lt_succ_of_le a3.1, Nat.lt_succ_of_le a3.2.1, Nat.lt_succ_of_le a3.2.2⟩
  · have e1 : pj i = pj j := by
      have e : Em (pj i) = Em (pj j) := e
      rw [← pN_Em (hc.1 i hi).1, ← pN_Em (hc.1 j hj).1, e]
    rcases Nat.lt_trichotomy i j with q | q | q
    · have := hc.2.1 i j q hj; omega
    · exact q
    · have := hc.2.1 j i q hi; omega
  · have h9 := cC_9 hu
    have h4 := pN_l9 h9
    obtain ⟨j, hj, e⟩ := hc.2.2 (pN u.1 u.2.1 u.2.2) h4 (by show PO (1000 * k + pN u.1 u.2.1 u.2.2) ≠ 0; rw [cC_P h hk h4, Em_pN h9]; exact hu)
    exact ⟨j, hj, by show Em (pj j) = u; rw [e, Em_pN h9]⟩
theorem zr_F (a n : Nat) (PO : Nat → fF) : zr a n (fun j => nI (PO j).val) = fun j => nI ((fun j => if a ≤ j ∧ j < a + n then 0 else PO j) j).val := by
  funext j; unfold zr
  by_cases e : a ≤ j ∧ j < a + n
  · simp only [e, and_self, if_true]; rfl
  · simp only [e, if_false]
theorem plR_zero {cf : Nat → Nat → Nat} {PO : Nat → fF} (h : plR cf PO) (i : Nat) : plR (va_up cf i (fun _ => 0)) (fun j => if 1000 * i ≤ j ∧ j < 1000 * i + 1000 then 0 else PO j) := by
  intro k hk u hu
  have h1 := pN_l9 hu
  by_cases e : k = i
  · subst e
    show (if _ then (0 : fF) else _) = _
    rw [if_pos (by omega), mp_us]; rfl
  · show (if _ then (0 : fF) else _) = _
    rw [if_neg (by omega), mp_un e]; exact h k hk u hu
theorem plR_all0 (PO : Nat → fF) : plR (fun _ _ => 0) (fun j => if 0 ≤ j ∧ j < 0 + 40000 then 0 else PO j) := by
  intro k hk u hu
  have h1 := pN_l9 hu
  show (if _ then (0 : fF) else _) = _
  rw [if_pos (by omega)]; rfl
theorem plR_put {cf : Nat → Nat → Nat} {PO : Nat → fF} (h : plR cf PO) {k : Nat} {w : m3} (hw : e9 w) (x : Nat) : plR (va_up cf k (va_up (cf k) (kT w) x)) (va_up PO (1000 * k + pN w.1 w.2.1 w.2.2) (fc x)) := by
  intro k' hk' u hu
  have h1 := pN_l9 hu
  have h2 := pN_l9 hw
  by_cases e : k' = k
  · subst e
    rw [mp_us]
    by_cases q : u = w
    · rw [q, mp_us, mp_us]
    · rw [mp_un (fun z => q (pN_inj hu hw (by omega))), mp_un (fun z => q (kT_in hu hw z))]; exact h k' hk' u hu
  · rw [mp_un (by omega), mp_un e]; exact h k' hk' u hu
theorem plI_put {nl : Nat} {cf : Nat → Nat → Nat} (h : plI nl cf) {k : Nat} {w : m3} (hw : e9 w) (hI : InL nl w) (x : Nat) : plI nl (va_up cf k (va_up (cf k) (kT w) x)) := by
  intro k' hk' u hu hc
  by_cases e : k' = k
  · subst e
    rw [mp_us] at hc
    by_cases q : u = w
    · rw [q]; exact hI
    · rw [mp_un (fun z => q (kT_in hu hw z))] at hc; exact h k' hk' u hu hc
  · rw [mp_un e] at hc; exact h k' hk' u hu hc
theorem plI_zero {nl : Nat} {cf : Nat → Nat → Nat} (h : plI nl cf) (i : Nat) : plI nl (va_up cf i (fun _ => 0)) := by
  intro k hk u hu hc
  by_cases e : k = i
  · subst e; rw [mp_us] at hc; exact absurd rfl hc
  · rw [mp_un e] at hc; exact h k hk u hu hc
theorem pw_u {n v : Nat} (hn : n < 4) (hn0 : 0 < n) (h : pwOk n v) : e9 (v % 16, v / 16 % 16, v / 256) ∧ InL n (v % 16, v / 16 % 16, v / 256) := by
  obtain ⟨h1, h2, h3, h4⟩ := h
  refine ⟨⟨h2, h3, h4⟩, ?_⟩
  unfold InL
  rcases (show n = 1 ∨ n = 2 ∨ n = 3 by omega) with rfl | rfl | rfl
  · have : v / 2 ^ (4 * 1) = v / 16 := rfl
    rw [this] at h1
    refine ⟨Or.inr ?_, Or.inr ?_⟩
    · show v / 16 % 16 = 0; rw [h1]
    · show v / 256 = 0; omega
  · have : v / 2 ^ (4 * 2) = v / 256 := rfl
    rw [this] at h1
    exact ⟨Or.inl (by decide), Or.inr h1⟩
  · exact ⟨Or.inl (by decide), Or.inl (by decide)⟩
theorem nI_cf {cf : Nat → Nat → Nat} {PO : Nat → fF} (h : plR cf PO) {k : Nat} (hk : k < 40) {w : m3} (hw : e9 w) (hl : cf k (kT w) < 32003) {x : Nat} (hx : x < 32003) : nI (PO (1000 * k + pN w.1 w.2.1 w.2.2)).val = nI x ↔ cf k (kT w) = x := by
  rw [h k hk w hw, fc_v, Nat.mod_eq_of_lt hl, nI_eq (by omega) (by omega)]
/-! the lists on both sides -/
theorem lsM_cg {n : Nat} {h : Nat → m3} {z : Nat → Nat} {mo : Nat → Nat → m3} {co : Nat → Nat → fF} {z2 : Nat → Nat} {mo2 : Nat → Nat → m3} {co2 : Nat → Nat → fF} {ld : Nat → fF} {tf tpf tnf hf hif tf1 tp1 tn1 hf1 hif1 : Nat → Int32} (H : lsM n h z mo co z2 mo2 co2 ld tf tpf tnf hf hif) (h1 : ∀ q, q < 1000 * n → tp1 q = tpf q ∧ tn1 q = tnf q) (h2 : ∀ q, q ≠ n → tf1 q = tf q ∧ hf1 q = hf q ∧ hif1 q = hif q) : lsM n h z mo co z2 mo2 co2 ld tf1 tp1 tn1 hf1 hif1 := by
  refine ⟨H.1, H.2.1, fun i hi => ?_⟩
  obtain ⟨a1, a2, a3, a4, a5, a6, a7⟩ := H.2.2 i hi
  obtain ⟨b1, b2, b3⟩ := h2 i (by omega)
  refine ⟨b1.trans a1, a2, b2.trans a3, a4, b3.trans a5, fun k hk => ?_, a7⟩
  obtain ⟨c1, c2⟩ := h1 (1000 * i + k) (by omega)
  obtain ⟨d1, d2, d3⟩ := a6 k hk
  exact ⟨c1.trans d1, c2.trans d2, d3⟩
theorem mL_up {n : Nat} {h : Nat → m3} {z : Nat → Nat} {mo : Nat → Nat → m3} {co : Nat → Nat → fF} (H : mL n h z mo co) {z9 : Nat} {mu : Nat → m3} {cx : Nat → fF} (h0 : 0 < z9) (hc : cx 0 = 1) (hd : ∀ k, 0 < k → k < z9 → pl3 (mu k) < pl3 (mu 0)) : mL (n + 1) (va_up h n (mu 0)) (va_up z n z9) (va_up mo n mu) (va_up co n cx) := by
  intro i hi
  by_cases e : i = n
  · subst e; rw [mp_us, mp_us, mp_us, mp_us]; exact ⟨h0, rfl, hc, hd⟩
  · rw [mp_un e, mp_un e, mp_un e, mp_un e]; exact H i (by omega)
theorem fc_val {x : Nat} (h : x < 32003) : (fc x).val = x := by rw [fc_v, Nat.mod_eq_of_lt h]
theorem lsB_up {n : Nat} {h : Nat → m3} {z : Nat → Nat} {mo : Nat → Nat → m3} {co : Nat → Nat → fF} {mcap mz mcap1 mz1 : Nat → Nat} {mkf mnf mkf1 mnf1 : Nat → Nat → Int32} {hf kf : Nat → Int32} (H : lsB n h z mo co mcap mz mkf mnf hf) (hn : n < 12) {z9 : Nat} {mu : Nat → m3} {X : Nat → Nat} (h0 : 0 < z9)
    (g0 : ∀ i, i < 12 → mcap1 i ≤ 2048) (g1 : mz1 n = z9) (g2 : z9 ≤ mcap1 n) (g3 : ∀ j, j < z9 → mkf1 n j = kf j) (g4 : ∀ j, j < z9 → mnf1 n j = nI (X j * (X 0 ^ 32001 % 32003) % 32003)) (g5 : ∀ i, i ≠ n → mz1 i = mz i ∧ mcap1 i = mcap i ∧ mkf1 i = mkf i ∧ mnf1 i = mnf i)
    (k1 : ∀ i, i < z9 → kf i = nI (kT (mu i)) ∧ 0 < X i ∧ X i < 32003 ∧ e9 (mu i)) (k2 : ∀ i j, i < j → j < z9 → pl3 (mu j) < pl3 (mu i)) :
    lsB (n + 1) (va_up h n (mu 0)) (va_up z n z9) (va_up mo n mu) (va_up co n (fun j => fc (X j) * iv (fc (X 0)))) mcap1 mz1 mkf1 mnf1 (upd hf n (kf 0)) := by
  have hX0 := (k1 0 h0)
  have hne : fc (X 0) ≠ 0 := fun q => absurd ((fc_z hX0.2.2.1).mp q) (by omega)
  refine ⟨mL_up H.1 h0 (iv_mul hne) (fun k q1 q2 => k2 0 k q1 q2), by omega, fun i hi => ?_⟩
  by_cases e : i = n
  · subst e
    rw [mp_us, mp_us, mp_us, mp_us, pk_us]
    refine ⟨g1, g2, g0 i hn, hX0.1, hX0.2.2.2, fun k hk => ⟨(g3 k hk).trans (k1 k hk).1, ?_, (k1 k hk).2.2.2⟩⟩
    rw [g4 k hk, ← fv_mul, ← iv_val, fc_val (k1 k hk).2.2.1, fc_val hX0.2.2.1]
  · rw [mp_un e, mp_un e, mp_un e, mp_un e, pk_un e]
    obtain ⟨q1, q2, q3, q4⟩ := g5 i e
    rw [q1, q2, q3, q4]
    exact H.2.2 i (by omega)
theorem lsM_up {n : Nat} {h : Nat → m3} {z : Nat → Nat} {mo : Nat → Nat → m3} {co : Nat → Nat → fF} {z2 : Nat → Nat} {mo2 : Nat → Nat → m3} {co2 : Nat → Nat → fF} {ld : Nat → fF} {tf tpf tnf hf hif tf1 tp1 tn1 hf1 hif1 : Nat → Int32} (H : lsM n h z mo co z2 mo2 co2 ld tf tpf tnf hf hif) (hn : n < 12) {cf : Nat → Nat → Nat} {PO : Nat → fF} (hP : plR cf PO) {k : Nat} (hk : k < 40) {n9 : Nat} {pj : Nat → Nat}
    (R : tkR (fun q => PO (1000 * k + q)) n (n + 1) n9 pj tf tf1 tpf tp1 tnf tn1 hf hf1 hif hif1) {z9 : Nat} {mu : Nat → m3} {X : Nat → Nat} (h0 : 0 < z9) (k1 : ∀ i, i < z9 → 0 < X i ∧ X i < 32003 ∧ e9 (mu i) ∧ cf k (kT (mu i)) = X i) (k2 : ∀ i j, i < j → j < z9 → pl3 (mu j) < pl3 (mu i)) (k3 : ∀ u, e9 u → cf k (kT u) ≠ 0 → ∃ i, i < z9 ∧ mu i = u) :
    ∃ (z2' : Nat → Nat) (mo2' : Nat → Nat → m3) (co2' : Nat → Nat → fF) (ld' : Nat → fF), lsM (n + 1) (va_up h n (mu 0)) (va_up z n z9) (va_up mo n mu) (va_up co n (fun j => fc (X j) * iv (fc (X 0)))) z2' mo2' co2' ld' tf1 tp1 tn1 hf1 hif1 := by
  obtain ⟨c1, c2, c3, c4, c5⟩ := R
  rcases c5 with ⟨_, c6⟩ | ⟨_, t, ht, f1, f2, f3, f4⟩
  · omega
  have eB := enm_B k1 k2 k3
  have eM := enm_M hP hk c1
  obtain ⟨q1, q2, q3, q4⟩ := k1 0 h0
  have hne : fc (X 0) ≠ 0 := fun q => absurd ((fc_z q2).mp q) (by omega)
  -- the head of both is the same power
  obtain ⟨p1, p2⟩ := c1.1 t ht
  have hmt : Em (pj t) = mu 0 := by
    obtain ⟨i, hi, e⟩ := eB.2.2 (Em (pj t)) (eM.1 t ht).1
    obtain ⟨j, hj, e'⟩ := eM.2.2 (mu 0) (eB.1 0 h0).1
    have a1 := f4 j hj
    have e' : Em (pj j) = mu 0 := e'
    rw [e'] at a1
    rcases Nat.eq_zero_or_pos i with q | q
    · rw [← e, q]
    · have := k2 0 i q hi
      rw [e] at this; omega
  have hld : PO (1000 * k + pj t) = fc (X 0) := by rw [cC_P hP hk p1, hmt, cC_in q3, q4]
  refine ⟨va_up z2 n n9, va_up mo2 n (fun j => Em (pj j)), va_up co2 n (fun j => PO (1000 * k + pj j)), va_up ld n (PO (1000 * k + pj t)), mL_up H.1 h0 (iv_mul hne) (fun k q1 q2 => k2 0 k q1 q2), by omega, fun i hi => ?_⟩
  by_cases e : i = n
  · subst e
    simp only [mp_us]
    refine ⟨f1, colS_le c1, ?_, q3, f3, fun j hj => ?_, fun g => ?_⟩
    · rw [← hmt, pN_Em p1]; exact f2
    · obtain ⟨d1, d2⟩ := c2 j hj
      obtain ⟨b1, b2⟩ := c1.1 j hj
      refine ⟨by rw [pN_Em b1]; exact d1, d2, Em_e9 b1, by rw [← hmt]; exact f4 j hj⟩
    · have s1 := enm_eq eM eB g
      rw [sm_cg (g := fun j => cC cf k (Em (pj j)) * g (Em (pj j))) (fun j hj => by rw [cC_P hP hk (c1.1 j hj).1]), s1, hld, ← sm_mul]
      exact sm_cg (fun j hj => by
        obtain ⟨b1, b2, b3, b4⟩ := k1 j hj
        rw [cC_in b3, b4]; grind)
  · simp only [mp_un e]
    obtain ⟨a1, a2, a3, a4, a5, a6, a7⟩ := H.2.2 i (by omega)
    obtain ⟨b1, b2, b3⟩ := c4 i e
    refine ⟨b1.trans a1, a2, b2.trans a3, a4, b3.trans a5, fun j hj => ?_, a7⟩
    obtain ⟨d1, d2⟩ := c3 (1000 * i + j) (by omega)
    obtain ⟨x1, x2, x3⟩ := a6 j hj
    exact ⟨d1.trans x1, d2.trans x2, x3⟩
theorem tk_0 {cf : Nat → Nat → Nat} {PO : Nat → fF} (hP : plR cf PO) {k : Nat} (hk : k < 40) {n9 : Nat} {pj : Nat → Nat} (c1 : colS (fun q => PO (1000 * k + q) ≠ 0) 1000 n9 pj) {z9 : Nat} {mu : Nat → m3} {X : Nat → Nat} (k1 : ∀ i, i < z9 → 0 < X i ∧ X i < 32003 ∧ e9 (mu i) ∧ cf k (kT (mu i)) = X i) (k2 : ∀ i j, i < j → j < z9 → pl3 (mu j) < pl3 (mu i)) (k3 : ∀ u, e9 u → cf k (kT u) ≠ 0 → ∃ i, i < z9 ∧ mu i = u) : n9 = 0 ↔ z9 = 0 := by
  have eB := enm_B k1 k2 k3
  have eM := enm_M hP hk c1
  constructor
  · intro q
    rcases Nat.eq_zero_or_pos z9 with e | e
    · exact e
    · obtain ⟨j, hj, _⟩ := eM.2.2 _ (eB.1 0 e).1; omega
  · intro q
    rcases Nat.eq_zero_or_pos n9 with e | e
    · exact e
    · obtain ⟨j, hj, _⟩ := eB.2.2 _ (eM.1 0 e).1; omega
theorem val_eq {cf : Nat → Nat → Nat} {PO : Nat → fF} (hP : plR cf PO) {k : Nat} (hk : k < 40) {z9 : Nat} {mu : Nat → m3} {X : Nat → Nat} (k1 : ∀ i, i < z9 → 0 < X i ∧ X i < 32003 ∧ e9 (mu i) ∧ cf k (kT (mu i)) = X i) (k2 : ∀ i j, i < j → j < z9 → pl3 (mu j) < pl3 (mu i)) (k3 : ∀ u, e9 u → cf k (kT u) ≠ 0 → ∃ i, i < z9 ∧ mu i = u) (x y w : fF) :
    sm z9 (fun i => fc (X i) * ev x y w (mu i)) = vlI (fun q => PO (1000 * k + q)) x y w 1000 := by
  have eB := enm_B k1 k2 k3
  have s1 := enm_sum eB (ev x y w)
  unfold vlI
  rw [sm_cg (n := 1000) (g := fun p => cC cf k (Em p) * ev x y w (Em p)) (fun q hq => by show PO (1000 * k + q) * _ = _; rw [cC_P hP hk hq]), ← s1]
  exact sm_cg (fun i hi => by
    obtain ⟨b1, b2, b3, b4⟩ := k1 i hi
    rw [cC_in b3, b4])
/-! the answers of both runs -/
theorem ro_eq {n : Nat} {h : Nat → m3} {z : Nat → Nat} {mo : Nat → Nat → m3} {co : Nat → Nat → fF} {nl : Nat} (hnl : nl ≤ 3) (hn1 : 1 ≤ nl) (h9 : ∀ i, i < n → e9 (h i)) {r r2 kn s0 z0 s1 zc1 : Int32} {LF DG kQ : Nat → Nat} {dl : Nat → Int32} {LE ZM : Nat → fF} {OF MQ : Nat → Nat} {CL ZZ : Nat → Nat → fF} (B : roB n h z mo co nl r s1 zc1 kQ dl CL ZZ MQ) (M : roM n h z mo co nl r2 kn s0 z0 LF DG LE ZM OF) : r = r2 := by
  rcases B with ⟨b1, b2⟩ | ⟨b1, b2, b3⟩ | ⟨b1, b2, b3, Q, lf, b4⟩ | ⟨b2, b3, s9, zc, lf, DG', b4, b5, b6, b7, b8, b9, _⟩
  · rcases M with ⟨m1, _, m2⟩ | ⟨m1, _, m2, m3⟩ | ⟨m1, _, m2, m3, m4⟩ | ⟨_, m2, m3, _⟩
    · rw [b1, m1]
    · exact absurd m2 b2
    · exact absurd m2 b2
    · exact absurd m2 b2
  · rcases M with ⟨m1, _, m2⟩ | ⟨m1, _, m2, m3⟩ | ⟨m1, _, m2, m3, m4⟩ | ⟨_, m2, m3, _⟩
    · exact absurd b2 m2
    · rw [b1, m1]
    · exact absurd m3 b3
    · exact absurd m3 b3
  · rcases M with ⟨m1, _, m2⟩ | ⟨m1, _, m2, m3⟩ | ⟨m1, _, m2, m3, m4⟩ | ⟨_, m2, m3, s9, zc, lf', _, _, _, _, m4, _⟩
    · exact absurd b2 m2
    · exact absurd b3 m3
    · rw [b1, m1]
    · obtain ⟨q1, ⟨lq, q2, _⟩, _⟩ := m4
      exact (colS_17 b4 q2 (fun q hq => Nat.lt_of_lt_of_le (fin_bd b3 hnl hn1 h9 hq).2 (tr3_mono (by omega))) q1).elim
  · rcases M with ⟨m1, _, m2⟩ | ⟨m1, _, m2, m3⟩ | ⟨m1, _, m2, m3, Q, lf', m4⟩ | ⟨_, m2, m3, s9', zc', lf', m4, m5, m6, m7, m8, _⟩
    · exact absurd b2 m2
    · exact absurd b3 m3
    · obtain ⟨q1, ⟨lq, q2, _⟩, _⟩ := b9
      exact (colS_17 m4 q2 (fun q hq => Nat.lt_of_lt_of_le (fin_bd b3 hnl hn1 h9 hq).2 (tr3_mono (by omega))) q1).elim
    · rw [b4, m4, (rn_eq b9 m8).2.2.2.1]
/-- what both know, when something is known -/
def kwR (nl : Nat) (av s0 z0 s1 zc1 : Int32) (LF DG kQ : Nat → Nat) (dl : Nat → Int32) (LE ZM : Nat → fF) (OF MQ : Nat → Nat) (CL ZZ : Nat → Nat → fF) : Prop :=
  ∃ (s9 zc : Nat) (lf : Nat → m3), s9 ≤ 16 ∧ zc ≤ 16 ∧ av = nI zc ∧ s0 = nI s9 ∧ z0 = nI zc ∧ s1 = nI s9 ∧ zc1 = nI zc ∧ (∀ k, k < s9 → kQ k = kT (lf k) ∧ LF k = pN (lf k).1 (lf k).2.1 (lf k).2.2 ∧ e9 (lf k)) ∧ (∀ l, l < nl → DG l ≤ 16 ∧ dl l = nI (DG l) ∧ ∀ k, k ≤ DG l → CL l k = LE (17 * l + k)) ∧ (∀ r, r < zc → ∀ l, l < 3 → ZZ r l = ZM (3 * r + l)) ∧ ∀ r, r < zc → MQ r = OF r
theorem ro_kw {n : Nat} {h : Nat → m3} {z : Nat → Nat} {mo : Nat → Nat → m3} {co : Nat → Nat → fF} {nl : Nat} (hL : mL n h z mo co) (hIn : ∀ i, i < n → ∀ k, k < z i → InL nl (mo i k)) (hnl : nl ≤ 3) (hn1 : 1 ≤ nl) (h9 : ∀ i, i < n → e9 (h i)) {r s0 z0 s1 zc1 : Int32} {LF DG kQ : Nat → Nat} {dl : Nat → Int32} {LE ZM : Nat → fF} {OF MQ : Nat → Nat} {CL ZZ : Nat → Nat → fF} (B : roB n h z mo co nl r s1 zc1 kQ dl CL ZZ MQ) (M : roM n h z mo co nl r (nI 1) s0 z0 LF DG LE ZM OF) : kwR nl r s0 z0 s1 zc1 LF DG kQ dl LE ZM OF MQ CL ZZ := by
  rcases M with ⟨_, m1, _⟩ | ⟨_, m1, _⟩ | ⟨_, m1, _⟩ | ⟨_, m2, m3, s9, zc, lf, m4, m5, m6, m7, m8, m9⟩
  · exact absurd m1 (by decide)
  · exact absurd m1 (by decide)
  · exact absurd m1 (by decide)
  rcases B with ⟨_, b2⟩ | ⟨_, b2, b3⟩ | ⟨b1, b2, b3, Q, lf', b4⟩ | ⟨b2, b3, s9', zc', lf', DG', b4, b5, b6, b7, b8, b9, b10⟩
  · exact absurd m2 b2
  · exact absurd m3 b3
  · obtain ⟨q1, ⟨lq, q2, _⟩, _⟩ := m8
    exact (colS_17 b4 q2 (fun q hq => Nat.lt_of_lt_of_le (fin_bd b3 hnl hn1 h9 hq).2 (tr3_mono (by omega))) q1).elim
  obtain ⟨e1, e2, e3, e4, e5⟩ := rn_eq m8 b9
  subst e1
  subst e4
  obtain ⟨q1, ⟨lq, q2, q3⟩, q4, q5, _⟩ := m8
  have bd : ∀ k, k < s9 → e9 (lf k) := fun k hk => by
    have := (fin_bd m3 hnl hn1 h9 (q2.1 k hk).2).1
    rw [q3 k hk]; unfold e9; omega
  refine ⟨s9, zc, lf, q1, q5, m4, m5, m6, b5, b6, fun k hk => ⟨by rw [b7 k hk, e2 k hk], m7 k hk, bd k hk⟩, fun l hl => ?_, fun r hr l hl => (e5 r hr l hl).symm, fun r hr => ?_⟩
  · obtain ⟨f1, f2⟩ := e3 l hl
    have := (q4 l hl).1.1
    exact ⟨by omega, by rw [b8 l hl, f1], fun k hk => (f2 k (by omega)).symm⟩
  · have hFl := colS_lf hIn q2 (fun q hq => Nat.lt_of_lt_of_le (fin_bd m3 hnl hn1 h9 hq).2 (tr3_mono (by omega)))
    have g1 := muM_cg (lf' := fun k => Ep (lq k)) (ζ' := ZZ r) q3 (fun l hl => e5 r hr l (by omega)) (m9 r hr)
    obtain ⟨d, ρ, pv, w1, w2, w3⟩ := b10 r hr
    have g2 : muB n h z mo co nl s9 (fun k => Ep (lq k)) (ZZ r) (MQ r) := by
      refine ⟨d, ρ, pv, w1, fun b => ?_, w3⟩
      rw [w2 b]
      have ee : ∀ l, l < nl → mvt s9 (mzt (tb n h z mo co lf' (xlT l)) (ZZ r l)) = mvt s9 (mzt (tb n h z mo co (fun k => Ep (lq k)) (xlT l)) (ZZ r l)) := fun l hl => by
        funext v; exact mvt_cg (fun a c ha hc => by unfold mzt tb; rw [← e2 a ha, ← e2 c hc, q3 a ha, q3 c hc]) v
      constructor
      · intro w l hl k hk; rw [← ee l hl]; exact w l hl k hk
      · intro w l hl k hk; rw [ee l hl]; exact w l hl k hk
    exact mu_eq hL hFl (bas_B hL m2) q1 (fun h0 => by show Ep (lq 0) = _; rw [lf_first q2 h0]; rfl) g2 g1
theorem ro_un {n : Nat} {h : Nat → m3} {z : Nat → Nat} {mo : Nat → Nat → m3} {co : Nat → Nat → fF} {nl : Nat} {r kn s0 z0 : Int32} {LF DG : Nat → Nat} {LE ZM : Nat → fF} {OF : Nat → Nat} (M : roM n h z mo co nl r kn s0 z0 LF DG LE ZM OF) : (kn = nI 0 ∧ r < 0) ∨ kn = nI 1 := by
  rcases M with ⟨m1, m2, _⟩ | ⟨m1, m2, _⟩ | ⟨m1, m2, _⟩ | ⟨m1, _⟩
  · exact Or.inl ⟨m2, by rw [m1]; decide⟩
  · exact Or.inl ⟨m2, by rw [m1]; decide⟩
  · exact Or.inl ⟨m2, by rw [m1]; decide⟩
  · exact Or.inr m1
theorem i32_b (x : Int32) {n : Nat} (hn : n < 2 ^ 31) : (x < 0 ∨ nI n ≤ x) ∨ ∃ k, k < n ∧ x = nI k := by
  rcases i32_nn x with h | ⟨v, hv, rfl⟩
  · exact Or.inl (Or.inl h)
  · by_cases h : v < n
    · exact Or.inr ⟨v, h, rfl⟩
    · exact Or.inl (Or.inr ((nI_leI hn hv).mpr (by omega)))
theorem i32_c (x : Int32) {n : Nat} (hn : n < 2 ^ 31) : (x < 0 ∨ nI n < x) ∨ ∃ k, k ≤ n ∧ x = nI k := by
  rcases i32_nn x with h | ⟨v, hv, rfl⟩
  · exact Or.inl (Or.inl h)
  · by_cases h : v ≤ n
    · exact Or.inr ⟨v, h, rfl⟩
    · exact Or.inl (Or.inr ((nI_ltI hn hv).mpr (by omega)))
