/-! What a run finds, in the mathematics' words: both sides find it. -/
theorem rw_cg {s : Nat} {v v' : Nat → Nat → fF} (h : ∀ m k, k < s → v m k = v' m k) (n : Nat) : rwN s v n = rwN s v' n := by
  have hw : ∀ m, w0R s v m = w0R s v' m := by
    intro m; funext k; unfold w0R
    by_cases e : k < s
    · rw [if_pos e, if_pos e, h m k e]
    · rw [if_neg e, if_neg e]
  induction n using Nat.strongRecOn with
  | _ n ih =>
    rw [rw_eq, rw_eq, hw n]
    exact tkO_cg _ n (fun r hr => ⟨by unfold lsρ; rw [ih r hr], by unfold lsp; rw [ih r hr]⟩)
def vS (n : Nat) (h : Nat → m3) (z : Nat → Nat) (mo : Nat → Nat → m3) (co : Nat → Nat → fF) (s : Nat) (lf : Nat → m3) (l : Nat) : Nat → Nat → fF
  | 0 => sO s
  | m + 1 => fun j => sm s (fun k => tb n h z mo co lf (xlT l) j k * vS n h z mo co s lf l m k)
theorem vS_cg {n : Nat} {h : Nat → m3} {z : Nat → Nat} {mo : Nat → Nat → m3} {co : Nat → Nat → fF} {s : Nat} {lf lf' : Nat → m3} (e : ∀ k, k < s → lf k = lf' k) (l : Nat) : ∀ m j, j < s → vS n h z mo co s lf l m j = vS n h z mo co s lf' l m j
  | 0, _, _ => rfl
  | m + 1, j, hj => sm_cg (fun k hk => by rw [vS_cg e l m k hk]; unfold tb; rw [e j hj, e k hk])
theorem vS_N {n : Nat} {h : Nat → m3} {z : Nat → Nat} {mo : Nat → Nat → m3} {co : Nat → Nat → fF} {s nl l : Nat} {lf : Nat → m3} {PT : Nat → Nat → fF} (H : ptI n h z mo co s lf nl 0 PT) (hl : l < nl) : ∀ m j, j < s → vqN PT l s m j = vS n h z mo co s lf l m j
  | 0, _, _ => rfl
  | m + 1, j, hj => by
    show sm s _ = sm s _
    exact sm_cg (fun k hk => by rw [vS_N H hl m k hk, H l k (Or.inl hl) hk j hj]; unfold tb; exact Lean.Grind.CommRing.mul_comm _ _)
theorem vS_M {n : Nat} {h : Nat → m3} {z : Nat → Nat} {mo : Nat → Nat → m3} {co : Nat → Nat → fF} {s nl l : Nat} {lf : Nat → m3} {TB : Nat → fF} (H : mtI n h z mo co s lf nl 0 TB) (hl : l < nl) : ∀ m j, j < s → vqM TB l s m j = vS n h z mo co s lf l m j
  | 0, _, _ => rfl
  | m + 1, j, hj => by
    show sm s _ = sm s _
    exact sm_cg (fun k hk => by rw [vS_M H hl m k hk, H l k (Or.inl hl) hk j hj]; rfl)
theorem dgP_cg {s : Nat} {v v' : Nat → Nat → fF} (h : ∀ m k, k < s → v m k = v' m k) {D9 : Nat} (H : dgP s v D9) : dgP s v' D9 := by
  obtain ⟨h1, h2, h3⟩ := H
  refine ⟨h1, by rw [← rw_cg h]; exact h2, fun m hm => by rw [← rw_cg h]; exact h3 m hm⟩
theorem dgP_un {s : Nat} {v : Nat → Nat → fF} {a b : Nat} (H : dgP s v a) (G : dgP s v b) : a = b := by
  rcases Nat.lt_trichotomy a b with q | q | q
  · have := G.2.2 a q; have := H.2.1; omega
  · exact q
  · have := H.2.2 b q; have := G.2.1; omega
theorem colS_un {P P' : Nat → Prop} {Q a b : Nat} {u v : Nat → Nat} (hP : ∀ q, q < Q → (P q ↔ P' q)) (H : colS P Q a u) (G : colS P' Q b v) : a = b ∧ ∀ k, k < a → u k = v k := by
  refine srt_un H.2.1 G.2.1 (fun x => ⟨?_, ?_⟩)
  · rintro ⟨i, hi, rfl⟩
    obtain ⟨h1, h2⟩ := H.1 i hi
    exact G.2.2 _ h1 ((hP _ h1).mp h2)
  · rintro ⟨i, hi, rfl⟩
    obtain ⟨h1, h2⟩ := G.1 i hi
    exact H.2.2 _ h1 ((hP _ h1).mpr h2)
theorem rtS_un {a b : Nat} {u v : Nat → Nat} {f f' : fF → fF} (hf : ∀ x, f x = f' x) (H : rtS a u f) (G : rtS b v f') : a = b ∧ ∀ k, k < a → u k = v k :=
  srt_un H.1 G.1 (fun x => by rw [H.2 x, G.2 x, hf])
/-- over 16 left on the one side: not at most 16 on the other -/
theorem colS_17 {P : Nat → Prop} {Q Q' b : Nat} {u v : Nat → Nat} (H : colS P Q 17 u) (G : colS P Q' b v) (hQ : ∀ q, P q → q < Q') (hb : b ≤ 16) : False := by
  have h1 : ∀ i, i < 17 → ∃ k, k < b ∧ v k = u i := fun i hi => G.2.2 _ (hQ _ (H.1 i hi).2) (H.1 i hi).2
  have h2 : ∀ i, ∃ k, i < 17 → k < b ∧ v k = u i := fun i => by
    by_cases e : i < 17
    · obtain ⟨k, hk⟩ := h1 i e; exact ⟨k, fun _ => hk⟩
    · exact ⟨0, fun q => absurd q e⟩
  let f : Nat → Nat := fun i => Classical.choose (h2 i)
  have hf : ∀ i, i < 17 → f i < b ∧ v (f i) = u i := fun i hi => Classical.choose_spec (h2 i) hi
  have := pig b 17 f (fun i hi => (hf i hi).1) (fun i j hi hj e => by
    have h3 := (hf i hi).2
    have h4 := (hf j hj).2
    rw [e] at h3
    rcases Nat.lt_trichotomy i j with q | q | q
    · have := H.2.1 i j q hj; omega
    · exact q
    · have := H.2.1 j i q hi; omega)
  omega
theorem zqX_cg {RT RT' : Nat → Nat → Nat} {RC : Nat → Nat} (hR : ∀ l, l < 3 → ∀ i, i < RC l → RT l i = RT' l i) {q : Nat} (hq : q < RC 0 * RC 1 * RC 2) (l : Nat) : zqX RT (RC 1) (RC 2) q l = zqX RT' (RC 1) (RC 2) q l := by
  have hb : 0 < RC 1 := Nat.pos_of_ne_zero (fun e => by rw [e, Nat.mul_zero, Nat.zero_mul] at hq; exact absurd hq (Nat.not_lt_zero q))
  have hc : 0 < RC 2 := Nat.pos_of_ne_zero (fun e => by rw [e, Nat.mul_zero] at hq; exact absurd hq (Nat.not_lt_zero q))
  have h0 : q / (RC 1 * RC 2) < RC 0 := Nat.div_lt_of_lt_mul (by rw [Nat.mul_comm (RC 1 * RC 2), ← Nat.mul_assoc]; exact hq)
  have h1 : q / RC 2 % RC 1 < RC 1 := Nat.mod_lt _ hb
  have h2 : q % RC 2 < RC 2 := Nat.mod_lt _ hc
  unfold zqX
  rw [hR 0 (by decide) _ h0, hR 1 (by decide) _ h1, hR 2 (by decide) _ h2]
theorem zk_un {n : Nat} {z : Nat → Nat} {mo : Nat → Nat → m3} {co : Nat → Nat → fF} {RT RT' : Nat → Nat → Nat} {RC RC' : Nat → Nat} (hC : ∀ l, l < 3 → RC l = RC' l) (hR : ∀ l, l < 3 → ∀ i, i < RC l → RT l i = RT' l i) {zc zc' : Nat} {ZZ ZZ' : Nat → Nat → fF}
    (H : zkS (zqP n z mo co RT (RC 1) (RC 2)) (zqX RT (RC 1) (RC 2)) (RC 0 * RC 1 * RC 2) zc ZZ) (G : zkS (zqP n z mo co RT' (RC' 1) (RC' 2)) (zqX RT' (RC' 1) (RC' 2)) (RC' 0 * RC' 1 * RC' 2) zc' ZZ') : zc = zc' ∧ ∀ r, r < zc → ∀ l, l < 3 → ZZ r l = ZZ' r l := by
  rw [← hC 0 (by decide), ← hC 1 (by decide), ← hC 2 (by decide)] at G
  obtain ⟨u, h1, h2⟩ := H
  obtain ⟨v, g1, g2⟩ := G
  obtain ⟨e1, e2⟩ := colS_un (fun q hq => by unfold zqP; rw [zqX_cg hR hq 0, zqX_cg hR hq 1, zqX_cg hR hq 2]) h1 g1
  refine ⟨e1, fun r hr l hl => ?_⟩
  rw [h2 r hr l hl, g2 r (by omega) l hl, e2 r hr, zqX_cg hR (by rw [← e2 r hr]; exact (h1.1 r hr).1) l]
/-- what a run finds, but for how often the zeros count -/
def rnC (n : Nat) (h : Nat → m3) (z : Nat → Nat) (mo : Nat → Nat → m3) (co : Nat → Nat → fF) (nl s : Nat) (lf : Nat → m3) (DG : Nat → Nat) (LE : Nat → Nat → fF) (zc : Nat) (ZZ : Nat → Nat → fF) : Prop :=
  s ≤ 16 ∧ (∃ lq, colS (lfP n h nl) (tr3 28) s lq ∧ ∀ k, k < s → lf k = Ep (lq k)) ∧
  (∀ l, l < nl → dgP s (vS n h z mo co s lf l) (DG l) ∧ ∀ k, k < DG l + 1 → LE l k = rwN s (vS n h z mo co s lf l) (DG l) (16 + k)) ∧
  zc ≤ 16 ∧ ∃ (RT : Nat → Nat → Nat) (RC : Nat → Nat), (∀ l, l < nl → rtS (RC l) (RT l) (fun a => pe (DG l + 1) (LE l) a)) ∧ (∀ l, nl ≤ l → l < 3 → RC l = 1 ∧ RT l 0 = 0) ∧ zkS (zqP n z mo co RT (RC 1) (RC 2)) (zqX RT (RC 1) (RC 2)) (RC 0 * RC 1 * RC 2) zc ZZ
theorem rn_eq {n : Nat} {h : Nat → m3} {z : Nat → Nat} {mo : Nat → Nat → m3} {co : Nat → Nat → fF} {nl s s' : Nat} {lf lf' : Nat → m3} {DG DG' : Nat → Nat} {LE LE' : Nat → Nat → fF} {zc zc' : Nat} {ZZ ZZ' : Nat → Nat → fF} (H : rnC n h z mo co nl s lf DG LE zc ZZ) (G : rnC n h z mo co nl s' lf' DG' LE' zc' ZZ') :
    s = s' ∧ (∀ k, k < s → lf k = lf' k) ∧ (∀ l, l < nl → DG l = DG' l ∧ ∀ k, k < DG l + 1 → LE l k = LE' l k) ∧ zc = zc' ∧ ∀ r, r < zc → ∀ l, l < 3 → ZZ r l = ZZ' r l := by
  obtain ⟨_, ⟨lq, c1, c2⟩, k1, _, RT, RC, r1, r2, z1⟩ := H
  obtain ⟨_, ⟨lq', d1, d2⟩, k1', _, RT', RC', r1', r2', z1'⟩ := G
  obtain ⟨e1, e2⟩ := colS_un (fun _ _ => Iff.rfl) c1 d1
  subst e1
  have e3 : ∀ k, k < s → lf k = lf' k := fun k hk => by rw [c2 k hk, d2 k hk, e2 k hk]
  have e4 : ∀ l, l < nl → DG l = DG' l ∧ ∀ k, k < DG l + 1 → LE l k = LE' l k := by
    intro l hl
    have q1 := dgP_un (dgP_cg (vS_cg e3 l) (k1 l hl).1) (k1' l hl).1
    refine ⟨q1, fun k hk => ?_⟩
    rw [(k1 l hl).2 k hk, (k1' l hl).2 k (by omega), rw_cg (vS_cg e3 l), q1]
  have e5 : ∀ l, l < 3 → RC l = RC' l ∧ ∀ i, i < RC l → RT l i = RT' l i := by
    intro l hl
    by_cases e : l < nl
    · refine rtS_un (fun x => ?_) (r1 l e) (r1' l e)
      show pe _ _ x = pe _ _ x
      rw [← (e4 l e).1]; exact pe_cg x (e4 l e).2
    · obtain ⟨a1, a2⟩ := r2 l (by omega) hl
      obtain ⟨b1, b2⟩ := r2' l (by omega) hl
      refine ⟨by omega, fun i hi => ?_⟩
      obtain rfl : i = 0 := by omega
      omega
  exact ⟨rfl, e3, e4, zk_un (fun l hl => (e5 l hl).1) (fun l hl => (e5 l hl).2) z1 z1'⟩
theorem InL_xl {nl l : Nat} (hl : l < nl) {u : m3} (h : InL nl u) : InL nl (ad3 (xlT l) u) := by
  unfold InL at *; unfold xlT
  split
  · simp only [ad3]; omega
  · split <;> (simp only [ad3]; omega)
theorem InL_0 (nl : Nat) : InL nl (0, 0, 0) := ⟨Or.inr rfl, Or.inr rfl⟩
theorem InL_ad {nl : Nat} {u v : m3} (h : InL nl u) (g : InL nl v) : InL nl (ad3 u v) := by
  unfold InL at *; simp only [ad3]; omega
theorem zb_16 {n : Nat} {h : Nat → m3} {z : Nat → Nat} {mo : Nat → Nat → m3} {co : Nat → Nat → fF} (hL : mL n h z mo co) {nl s : Nat} {lf : Nat → m3} (hF : lfS n h z mo (InL nl) s lf) {RT : Nat → Nat → Nat} {RC : Nat → Nat} (hnl : 1 ≤ nl)
    (hinj : ∀ l, l < 3 → ∀ i j, i < j → j < RC l → RT l i < RT l j) (hlt : ∀ l, l < 3 → ∀ i, i < RC l → RT l i < 32003) (h1 : ∀ l, nl ≤ l → l < 3 → RC l = 1) :
    ∀ Q n9 ZZ, Q ≤ RC 0 * RC 1 * RC 2 → zkS (zqP n z mo co RT (RC 1) (RC 2)) (zqX RT (RC 1) (RC 2)) Q n9 ZZ → n9 ≤ s := by
  rintro Q n9 ZZ hQ ⟨zq, hc, _⟩
  have hne : ∀ l, l < 3 → ∀ i j, i < RC l → j < RC l → i ≠ j → fc (RT l i) ≠ fc (RT l j) := by
    intro l hl i j hi hj hij e
    have e1 := fc_inj (hlt l hl i hi) (hlt l hl j hj) e
    rcases Nat.lt_or_gt_of_ne hij with q | q
    · have := hinj l hl i j q hj; omega
    · have := hinj l hl j i q hi; omega
  refine zer_le hL hF (InL_0 nl) (X := fun j => zqX RT (RC 1) (RC 2) (zq j) 0) (Y := fun j => zqX RT (RC 1) (RC 2) (zq j) 1) (Z := fun j => zqX RT (RC 1) (RC 2) (zq j) 2) (fun j hj => (hc.1 j hj).2) (fun j j' hj hj' hjj => ?_)
  have hq : zq j ≠ zq j' := by
    rcases Nat.lt_or_gt_of_ne hjj with q | q
    · have := hc.2.1 j j' q hj'; omega
    · have := hc.2.1 j' j q hj; omega
  have b : ∀ q, q < RC 0 * RC 1 * RC 2 → q / (RC 1 * RC 2) < RC 0 ∧ q / RC 2 % RC 1 < RC 1 ∧ q % RC 2 < RC 2 := by
    intro q hq
    have hb : 0 < RC 1 := Nat.pos_of_ne_zero (fun e => by rw [e, Nat.mul_zero, Nat.zero_mul] at hq; exact absurd hq (Nat.not_lt_zero q))
    have hc : 0 < RC 2 := Nat.pos_of_ne_zero (fun e => by rw [e, Nat.mul_zero] at hq; exact absurd hq (Nat.not_lt_zero q))
    exact ⟨Nat.div_lt_of_lt_mul (by rw [Nat.mul_comm (RC 1 * RC 2), ← Nat.mul_assoc]; exact hq), Nat.mod_lt _ hb, Nat.mod_lt _ hc⟩
  obtain ⟨u0, u1, u2⟩ := b (zq j) (Nat.lt_of_lt_of_le (hc.1 j hj).1 hQ)
  obtain ⟨v0, v1, v2⟩ := b (zq j') (Nat.lt_of_lt_of_le (hc.1 j' hj').1 hQ)
  by_cases e0 : zq j / (RC 1 * RC 2) = zq j' / (RC 1 * RC 2)
  · by_cases e1 : zq j / RC 2 % RC 1 = zq j' / RC 2 % RC 1
    · by_cases e2 : zq j % RC 2 = zq j' % RC 2
      · exfalso
        apply hq
        have a1 := Nat.div_add_mod (zq j) (RC 2)
        have a2 := Nat.div_add_mod (zq j') (RC 2)
        have a3 := Nat.div_add_mod (zq j / RC 2) (RC 1)
        have a4 := Nat.div_add_mod (zq j' / RC 2) (RC 1)
        rw [Nat.mul_comm (RC 1) (RC 2), ← Nat.div_div_eq_div_mul, ← Nat.div_div_eq_div_mul] at e0
        rw [e0, e1, a4] at a3
        rw [← a3, e2, a2] at a1
        exact a1.symm
      · refine Or.inr (Or.inr ⟨?_, fun u hu => ?_⟩)
        · show zqX _ _ _ _ 2 ≠ zqX _ _ _ _ 2
          unfold zqX; simp only [show ¬ (2 : Nat) = 0 by decide, show ¬ (2 : Nat) = 1 by decide, if_false]
          exact hne 2 (by decide) _ _ u2 v2 e2
        · have : 2 < nl := by
            rcases Nat.lt_or_ge 2 nl with q | q
            · exact q
            · have := h1 2 q (by decide); omega
          exact InL_xl (l := 2) this hu
    · refine Or.inr (Or.inl ⟨?_, fun u hu => ?_⟩)
      · show zqX _ _ _ _ 1 ≠ zqX _ _ _ _ 1
        unfold zqX; simp only [show ¬ (1 : Nat) = 0 by decide, if_false, if_true]
        exact hne 1 (by decide) _ _ u1 v1 e1
      · have : 1 < nl := by
          rcases Nat.lt_or_ge 1 nl with q | q
          · exact q
          · have := h1 1 q (by decide); omega
        exact InL_xl (l := 1) this hu
  · refine Or.inl ⟨?_, fun u hu => ?_⟩
    · show zqX _ _ _ _ 0 ≠ zqX _ _ _ _ 0
      unfold zqX; simp only [if_true]
      exact hne 0 (by decide) _ _ u0 v0 e0
    · exact InL_xl (l := 0) hnl hu
theorem fin_bd {n : Nat} {h : Nat → m3} {nl : Nat} (hf : ∀ l, l < nl → bndL n (fun i => (h i).1) (fun i => (h i).2.1) (fun i => (h i).2.2) l) (hnl : nl ≤ 3) (h1 : 1 ≤ nl) (h9 : ∀ i, i < n → e9 (h i)) {q : Nat} (hq : lfP n h nl q) : ((Ep q).1 ≤ 8 ∧ (Ep q).2.1 ≤ 8 ∧ (Ep q).2.2 ≤ 8) ∧ q < tr3 (9 * nl + 1) := by
  have h2 := lf_bd hnl (fun l hl => by
    obtain ⟨i, hi, hb⟩ := hf l hl
    refine ⟨i, hi, ?_⟩
    unfold bnd at hb
    exact hb) h9 h1 hq.1 hq.2
  refine ⟨h2, ?_⟩
  have h3 := hq.1
  have h4 : pl3 (Ep q) < tr3 (9 * nl + 1) := pl_lt (by unfold InL at h3; omega)
  rw [pl_Ep3] at h4; exact h4
theorem col_28 {n : Nat} {h : Nat → m3} {nl s : Nat} {lq : Nat → Nat} (hf : ∀ l, l < nl → bndL n (fun i => (h i).1) (fun i => (h i).2.1) (fun i => (h i).2.2) l) (hnl : nl ≤ 3) (h1 : 1 ≤ nl) (h9 : ∀ i, i < n → e9 (h i)) (hc : colS (lfP n h nl) (tr3 (9 * nl + 1)) s lq) : colS (lfP n h nl) (tr3 28) s lq :=
  colS_to hc (tr3_mono (by omega)) (fun q hq _ hp => by have := (fin_bd hf hnl h1 h9 hp).2; omega)
theorem pt_mv {n : Nat} {h : Nat → m3} {z : Nat → Nat} {mo : Nat → Nat → m3} {co : Nat → Nat → fF} {s nl l : Nat} {lf : Nat → m3} {PT : Nat → Nat → fF} (H : ptI n h z mo co s lf nl 0 PT) (hl : l < nl) (ζ : fF) : mvt s (mzt (ptM PT l) ζ) = mvt s (mzt (tb n h z mo co lf (xlT l)) ζ) := by
  funext v
  exact mvt_cg (fun i k hi hk => by unfold mzt ptM tb; rw [H l k (Or.inl hl) hk i hi]) v
theorem pt_mv0 {n : Nat} {h : Nat → m3} {z : Nat → Nat} {mo : Nat → Nat → m3} {co : Nat → Nat → fF} {s nl l : Nat} {lf : Nat → m3} {PT : Nat → Nat → fF} (H : ptI n h z mo co s lf nl 0 PT) (hl : l < nl) : mvt s (ptM PT l) = mvt s (tb n h z mo co lf (xlT l)) := by
  funext v
  exact mvt_cg (fun i k hi hk => by unfold ptM tb; rw [H l k (Or.inl hl) hk i hi]) v
theorem hgs {n : Nat} {h : Nat → m3} {z : Nat → Nat} {mo : Nat → Nat → m3} {co : Nat → Nat → fF} (hL : mL n h z mo co) {nl s : Nat} {lf : Nat → m3} (hF : lfS n h z mo (InL nl) s lf) (hB : ∀ j i t, i < n → Ws z mo co (nu n h z mo co j) t i = 0) {PT : Nat → Nat → fF} {lw ll : Nat → Nat} (hP : ptI n h z mo co s lf nl 0 PT)
    (hl9 : ∀ k, 0 < k → k < s → ll k < nl ∧ lw k < s ∧ lf k = ad3 (xlT (ll k)) (lf (lw k))) (ζ : Nat → fF) : ∀ l, l < nl → ∀ k, 0 < k → k < s → ∀ j, j < s → mltF PT (ll k) s (itr (mvt s (mzt (ptM PT l) (ζ l))) s (eK (lw k))) j = itr (mvt s (mzt (ptM PT l) (ζ l))) s (eK k) j := by
  intro l hl k hk hks j hj
  obtain ⟨a1, a2, a3⟩ := hl9 k hk hks
  rw [mlt_mv hj, pt_mv hP hl, pt_mv0 hP a1]
  have c1 : Cm s (mvt s (tb n h z mo co lf (xlT (ll k)))) (mvt s (mzt (tb n h z mo co lf (xlT l)) (ζ l))) := mzt_cm (tb_cm hL hF hB (fun u hu => InL_xl a1 hu) (fun u hu => InL_xl hl hu)) _
  have c2 := Cm_itr (fun v _ => mvt_t s _ v) c1 s (eK (lw k)) (eK_t a2)
  rw [c2, tb_e hF a2 hks a3.symm]
theorem lw_ok {n : Nat} {h : Nat → m3} {nl s : Nat} {lq : Nat → Nat} {Q : Nat} (hn1 : 1 ≤ nl) (hc : colS (lfP n h nl) Q s lq) {lw ll : Nat → Nat} (H : lwI s (fun k => Ep (lq k)) nl 0 lw ll) : ∀ k, 0 < k → k < s → lw k < k ∧ ll k < nl ∧ lw k < s ∧ Ep (lq k) = ad3 (xlT (ll k)) (Ep (lq (lw k))) := by
  intro k hk hks
  have h0 := lf_first hc (by omega)
  have hp := (hc.1 k hks).2
  have hlt := hc.2.1 0 k hk hks
  have hne : Ep (lq k) ≠ (0, 0, 0) := by
    intro e
    have e1 : pl3 (Ep (lq k)) = 0 := by rw [e]; rfl
    rw [pl_Ep3] at e1; omega
  have step : ∀ l, l < nl → ∀ v : m3, Ep (lq k) = ad3 (xlT l) v → ∃ b, b < s ∧ Ep (lq k) = ad3 (xlT l) (Ep (lq b)) := by
    intro l hl v hv
    have hd : dv3 v (Ep (lq k)) := by rw [hv]; refine ⟨?_, ?_, ?_⟩ <;> (simp only [ad3]; omega)
    obtain ⟨i1, i2⟩ := lf_dv hp.1 hp.2 hd
    have hpv : lfP n h nl (pl3 v) := ⟨by rw [Ep_pl3]; exact i1, by rw [Ep_pl3]; exact i2⟩
    have hlt2 : pl3 v < lq k := by
      have h3 : pl3 v < pl3 (Ep (lq k)) := by
        rw [hv]
        have h4 : pl3 (ad3 v (0, 0, 0)) < pl3 (ad3 v (xlT l)) := pl_ad v (by unfold xlT; split; decide; split <;> decide)
        rw [ad3_cm v (0, 0, 0), ad3_0, ad3_cm v] at h4; exact h4
      rw [pl_Ep3] at h3; exact h3
    obtain ⟨b, hb, hb2⟩ := hc.2.2 (pl3 v) (by have := (hc.1 k hks).1; omega) hpv
    exact ⟨b, hb, by rw [hb2, Ep_pl3]; exact hv⟩
  have hex : ∃ a b, prD nl 0 a b ∧ b < s ∧ (fun k => Ep (lq k)) k = ad3 (xlT a) ((fun k => Ep (lq k)) b) := by
    have hI := hp.1
    generalize hu : Ep (lq k) = u at *
    obtain ⟨a, b, c⟩ := u
    unfold InL at hI
    simp only at hI
    by_cases e0 : 0 < a
    · obtain ⟨b', q1, q2⟩ := step 0 hn1 (a - 1, b, c) (by unfold xlT ad3; simp; omega)
      exact ⟨0, b', Or.inl hn1, q1, hu.trans q2⟩
    · by_cases e1 : 0 < b
      · obtain ⟨b', q1, q2⟩ := step 1 (by omega) (a, b - 1, c) (by unfold xlT ad3; simp; omega)
        exact ⟨1, b', Or.inl (by omega), q1, hu.trans q2⟩
      · have e2 : 0 < c := by
          rcases Nat.eq_zero_or_pos c with q | q
          · exact absurd (show (a, b, c) = (0, 0, 0) by rw [show a = 0 by omega, show b = 0 by omega, q]) hne
          · exact q
        obtain ⟨b', q1, q2⟩ := step 2 (by omega) (a, b, c - 1) (by unfold xlT ad3; simp; omega)
        exact ⟨2, b', Or.inl (by omega), q1, hu.trans q2⟩
  obtain ⟨k1, k2, k3⟩ := H k hks hex
  have k4 : ll k < nl := by rcases k1 with q | ⟨_, q⟩; exact q; exact absurd q (Nat.not_lt_zero _)
  refine ⟨?_, k4, k2, k3⟩
  have h3 : pl3 (Ep (lq (lw k))) < pl3 (Ep (lq k)) := by
    have k5 : Ep (lq k) = ad3 (xlT (ll k)) (Ep (lq (lw k))) := k3
    rw [k5]
    have h4 : pl3 (ad3 (Ep (lq (lw k))) (0, 0, 0)) < pl3 (ad3 (Ep (lq (lw k))) (xlT (ll k))) := pl_ad _ (by unfold xlT; split; decide; split <;> decide)
    rw [ad3_cm _ (0, 0, 0), ad3_0, ad3_cm (Ep (lq (lw k)))] at h4; exact h4
  rw [pl_Ep3, pl_Ep3] at h3
  rcases Nat.lt_trichotomy (lw k) k with q | q | q
  · exact q
  · rw [q] at h3; omega
  · have := hc.2.1 k (lw k) q k2; omega
/-- how often a zero counts, as the class finds it and as the reference does -/
def muB (n : Nat) (h : Nat → m3) (z : Nat → Nat) (mo : Nat → Nat → m3) (co : Nat → Nat → fF) (nl s : Nat) (lf : Nat → m3) (ζ : Nat → fF) (v : Nat) : Prop :=
  ∃ (d : Nat) (ρ : Nat → Nat → fF) (pv : Nat → Nat), spn s d ρ pv ∧ (∀ b : Nat → fF, (∀ a, a < d → sm s (fun i => b i * ρ a i) = 0) ↔ (∀ l, l < nl → ∀ k, k < s → sm s (fun i => b i * itr (mvt s (mzt (tb n h z mo co lf (xlT l)) (ζ l))) s (eK k) i) = 0)) ∧ v = s - d
def muM (n : Nat) (h : Nat → m3) (z : Nat → Nat) (mo : Nat → Nat → m3) (co : Nat → Nat → fF) (nl s : Nat) (lf : Nat → m3) (ζ : Nat → fF) (v : Nat) : Prop :=
  ∃ (r : Nat) (R : Nat → Nat → fF) (pv : Nat → Nat) (R0 : Nat → Nat → fF), rkI s (s * nl) s r R pv R0 ∧ (∀ l i j, l < nl → i < s → j < s → R0 (s * l + i) j = sqm s (mzt (tb n h z mo co lf (xlT l)) (ζ l)) 4 i j) ∧ v = s - r
theorem muM_cg {n : Nat} {h : Nat → m3} {z : Nat → Nat} {mo : Nat → Nat → m3} {co : Nat → Nat → fF} {nl s : Nat} {lf lf' : Nat → m3} {ζ ζ' : Nat → fF} {v : Nat} (e : ∀ k, k < s → lf k = lf' k) (eζ : ∀ l, l < nl → ζ l = ζ' l) (H : muM n h z mo co nl s lf ζ v) : muM n h z mo co nl s lf' ζ' v := by
  obtain ⟨r, R, pv, R0, h1, h2, h3⟩ := H
  refine ⟨r, R, pv, R0, h1, fun l i j hl hi hj => ?_, h3⟩
  rw [h2 l i j hl hi hj]
  exact sqm_cg (fun a b ha hb => by unfold mzt tb; rw [e a ha, e b hb, eζ l hl]) 4 hi hj
theorem mu_eq {n : Nat} {h : Nat → m3} {z : Nat → Nat} {mo : Nat → Nat → m3} {co : Nat → Nat → fF} (hL : mL n h z mo co) {nl s : Nat} {lf : Nat → m3} (hF : lfS n h z mo (InL nl) s lf) (hB : ∀ j i t, i < n → Ws z mo co (nu n h z mo co j) t i = 0) (hs : s ≤ 16) (h0 : 0 < s → lf 0 = (0, 0, 0)) {ζ : Nat → fF} {v v' : Nat} (H : muB n h z mo co nl s lf ζ v) (G : muM n h z mo co nl s lf ζ v') : v = v' := by
  obtain ⟨d, ρ, pv, h1, h2, h3⟩ := H
  obtain ⟨r, R, pv2, R0, g1, g2, g3⟩ := G
  have := often_eq hL hF hB hs h0 (fun k hk u hu => InL_ad (hF.2.2.1 k hk).1 hu) (fun l hl u hu => InL_xl hl hu) h1 h2 g1 g2
  rw [h3, g3, this]
theorem of_mu {n : Nat} {h : Nat → m3} {z : Nat → Nat} {mo : Nat → Nat → m3} {co : Nat → Nat → fF} {nl s : Nat} {lf : Nat → m3} {TB ZM : Nat → fF} (H : mtI n h z mo co s lf nl 0 TB) {k v : Nat} (G : ofP s nl TB ZM k v) : muM n h z mo co nl s lf (fun l => ZM (3 * k + l)) v := by
  obtain ⟨r, R, pv, R0, h1, h2, h3⟩ := G
  refine ⟨r, R, pv, R0, h1, fun l i j hl hi hj => ?_, h3⟩
  rw [h2 l i j hl hi hj]
  exact sqm_cg (fun a b ha hb => by unfold mzt tb tbM; rw [H l b (Or.inl hl) hb a ha]) 4 hi hj
