/-! Numbers of the field in cells and on the stack; the list's rows as the mathematics speaks of them. -/
theorem fc_ng (x : fF) : fc (32003 - x.val) = -x := by rw [fc_neg (Nat.le_of_lt x.isLt), fc_of]
theorem fv_mod {n : Nat} {x : fF} (h : fc n = x) : n % 32003 = x.val := by rw [← h, fc_v]
theorem fb_m {a b : Nat} (ha : a ≤ 32003) (hb : b ≤ 32002) : a * b ≤ 32003 * 32002 := Nat.mul_le_mul ha hb
theorem fb_1 (a b : fF) : a.val * b.val < 2 ^ 31 := by have := fb_m (a := a.val) (b := b.val) (by omega) (by omega); omega
theorem fb_2 (a b c : fF) : a.val + b.val * c.val < 2 ^ 31 := by have := fb_m (a := b.val) (b := c.val) (by omega) (by omega); omega
theorem fb_3 (a b c : fF) : a.val + (32003 - b.val) * c.val < 2 ^ 31 := by have := fb_m (a := 32003 - b.val) (b := c.val) (by omega) (by omega); omega
theorem fb_4 (a b : fF) : (32003 - a.val) * b.val < 2 ^ 31 := by have := fb_m (a := 32003 - a.val) (b := b.val) (by omega) (by omega); omega
theorem fb_5 (a b c : fF) : a.val + b.val * (32003 - c.val) < 2 ^ 31 := by
  have := fb_m (a := 32003 - c.val) (b := b.val) (by omega) (by omega)
  rw [Nat.mul_comm b.val]; omega
theorem nIv_up {R : Nat → fF} {q : Nat} {y : fF} : upd (fun j => nI (R j).val) q (nI y.val) = fun j => nI (va_up R q y j).val := by
  funext j
  unfold upd
  by_cases e : j = q
  · rw [if_pos e, e, mp_us]
  · rw [if_neg e, mp_un e]
theorem nIv_up0 {R : Nat → fF} {q : Nat} : upd (fun j => nI (R j).val) q (nI 0) = fun j => nI (va_up R q 0 j).val := nIv_up (y := 0)
theorem nIv_up1 {R : Nat → fF} {q : Nat} : upd (fun j => nI (R j).val) q (nI 1) = fun j => nI (va_up R q 1 j).val := nIv_up (y := 1)
theorem nIv_0 : (fun _ : Nat => (0 : Int32)) = fun j => nI ((fun _ : Nat => (0 : fF)) j).val := rfl
def kT (u : m3) : Nat := kN u.1 u.2.1 u.2.2
def e9 (u : m3) : Prop := u.1 ≤ 9 ∧ u.2.1 ≤ 9 ∧ u.2.2 ≤ 9
/-- the list as the program holds it: members, heads -/
def lsB (n : Nat) (h : Nat → m3) (z : Nat → Nat) (mo : Nat → Nat → m3) (co : Nat → Nat → fF) (mcap mz : Nat → Nat) (mkf mnf : Nat → Nat → Int32) (hf : Nat → Int32) : Prop :=
  mL n h z mo co ∧ n ≤ 12 ∧ ∀ i, i < n → mz i = z i ∧ z i ≤ mcap i ∧ mcap i ≤ 2048 ∧ hf i = nI (kT (h i)) ∧ e9 (h i) ∧ ∀ k, k < z i → mkf i k = nI (kT (mo i k)) ∧ mnf i k = nI (co i k).val ∧ e9 (mo i k)
theorem lsB_hd {n : Nat} {h : Nat → m3} {z : Nat → Nat} {mo : Nat → Nat → m3} {co : Nat → Nat → fF} {mcap mz : Nat → Nat} {mkf mnf : Nat → Nat → Int32} {hf : Nat → Int32} (H : lsB n h z mo co mcap mz mkf mnf hf) : hdS n (fun i => (h i).1) (fun i => (h i).2.1) (fun i => (h i).2.2) hf := by
  intro i hi
  obtain ⟨_, _, _, h1, ⟨h2, h3, h4⟩, _⟩ := H.2.2 i hi
  exact ⟨h1, Nat.lt_of_le_of_lt h2 (by decide), Nat.lt_of_le_of_lt h3 (by decide), Nat.lt_of_le_of_lt h4 (by decide)⟩
/-- the first that divides, in the mathematics' words -/
theorem fd_fi {n : Nat} {h : Nat → m3} {u : m3} {r : Int32} (H : fdN n (fun i => (h i).1) (fun i => (h i).2.1) (fun i => (h i).2.2) u.1 u.2.1 u.2.2 r) : (fi h u n < n ∧ r = nI (fi h u n)) ∨ (¬ fi h u n < n ∧ r = -1) := by
  rcases H with ⟨i, hi, hd, hn, hr⟩ | ⟨hn, hr⟩
  · have e := fi_un hi hd hn
    left; rw [e]; exact ⟨hi, hr⟩
  · right; exact ⟨fi_nd hn, hr⟩
theorem raN_v {N : Nat} {pl : Nat → Nat} {co R : Nat → fF} {f : Nat} {q : Nat} : ∀ k, (∀ j, j < k → pl j < N) → raN N pl (fun j => (co j).val) f (fun j => (R j).val) k q = (R q + fc f * sm k (fun j => if q = pl j then co j else 0)).val
  | 0, _ => by show (R q).val = _; rw [sm_0]; congr 1; grind
  | k + 1, h => by
    unfold raN
    rw [if_pos (h k (Nat.lt_succ_self k)), sm_s]
    by_cases e : q = pl k
    · rw [← e, up_s, if_pos rfl, raN_v k (fun j hj => h j (by omega))]
      refine fv_mod ?_
      rw [fc_add, fc_mul, fc_of, fc_of]
      grobner
    · rw [up_n e, if_neg e, raN_v k (fun j hj => h j (by omega))]
      congr 1; grobner
theorem raN_fun {N z : Nat} {zz : Nat → Nat} {mo : Nat → Nat → m3} {co : Nat → Nat → fF} {R : Nat → fF} {f i : Nat} {t : m3} (hz : z = zz i) (hN : ∀ k, k < zz i → pl3 (ad3 t (mo i k)) < N) : (fun j => nI (raN N (fun j => plN ((mo i j).1 + t.1) ((mo i j).2.1 + t.2.1) ((mo i j).2.2 + t.2.2)) (fun j => (co i j).val) f (fun j => (R j).val) z j)) = fun j => nI (aR zz mo co t i (fc f) R j).val := by
  subst hz
  have e : (fun j => plN ((mo i j).1 + t.1) ((mo i j).2.1 + t.2.1) ((mo i j).2.2 + t.2.2)) = fun j => pl3 (ad3 t (mo i j)) := by
    funext j; rw [ad3_cm]; rfl
  funext q
  rw [e, raN_v (zz i) hN]; rfl
/-- places wiped -/
def wpF (t T : Nat) (R : Nat → fF) : Nat → fF := fun j => if t ≤ j ∧ j < T then 0 else R j
theorem wpF_s (T : Nat) (R : Nat → fF) : wpF T T R = R := by funext j; unfold wpF; rw [if_neg (by omega)]
theorem wpF_up {t T : Nat} {R : Nat → fF} (h : t < T) : va_up (wpF (t + 1) T R) t 0 = wpF t T R := by
  funext j
  by_cases e : j = t
  · rw [e, mp_us]; unfold wpF; rw [if_pos (by omega)]
  · rw [mp_un e]; unfold wpF
    by_cases q : t ≤ j ∧ j < T
    · rw [if_pos q, if_pos (by omega)]
    · rw [if_neg q, if_neg (by omega)]
theorem Ep_deg {j M : Nat} (h : j < tr3 (M + 1)) : (Ep j).1 + (Ep j).2.1 + (Ep j).2.2 ≤ M := by
  have := pl_Ep3 j
  exact pl_deg_le (show plN (Ep j).1 (Ep j).2.1 (Ep j).2.2 < tr3 (M + 1) from by rw [show plN (Ep j).1 (Ep j).2.1 (Ep j).2.2 = j from this]; exact h)
theorem kT_ad (u v : m3) : kT u + kT v = kT (ad3 u v) := by unfold kT; rw [kN_add9]; rfl
theorem kT_sb {u v : m3} (h : dv3 v u) : kT u - kT v = kT (sb3 u v) := by
  have h2 := kT_ad (sb3 u v) v
  rw [ad3_sb h] at h2; omega
theorem kT_le {u v : m3} (h : dv3 v u) : kT v ≤ kT u := by
  have h2 := kT_ad (sb3 u v) v
  rw [ad3_sb h] at h2; omega
/-- a step of the reduction stays below -/
theorem rd_pl {n : Nat} {h : Nat → m3} {z : Nat → Nat} {mo : Nat → Nat → m3} {co : Nat → Nat → fF} (hL : mL n h z mo co) {i : Nat} (hi : i < n) {u : m3} (hd : dv3 (h i) u) {k : Nat} (hk : k < z i) : pl3 (ad3 (sb3 u (h i)) (mo i k)) ≤ pl3 u := by
  have := mL_le hL hi (sb3 u (h i)) hk
  rwa [ad3_sb hd] at this
theorem m3_deg {u : m3} {N M : Nat} (h : pl3 u < N) (hN : N = tr3 (M + 1)) : u.1 + u.2.1 + u.2.2 ≤ M := by
  subst hN; exact pl_deg_le h
theorem lsB_add {n : Nat} {h : Nat → m3} {z : Nat → Nat} {mo : Nat → Nat → m3} {co : Nat → Nat → fF} {mcap mz : Nat → Nat} {mkf mnf : Nat → Nat → Int32} {hf : Nat → Int32} (H : lsB n h z mo co mcap mz mkf mnf hf) {f M : Nat} (hfn : f < n) {t u : m3} (ht : ad3 t (h f) = u) (hu : pl3 u < tr3 (M + 1)) (hM : M ≤ 27) :
    (∀ i, i < mz f → mkf f i = nI (kN (mo f i).1 (mo f i).2.1 (mo f i).2.2) ∧ mnf f i = nI (co f i).val ∧ (co f i).val < 32003 ∧ (mo f i).1 + t.1 < 32 ∧ (mo f i).2.1 + t.2.1 < 32 ∧ (mo f i).2.2 + t.2.2 < 32) ∧ ∀ k, k < z f → pl3 (ad3 t (mo f k)) < tr3 (M + 1) := by
  obtain ⟨hL, _, hm⟩ := H
  obtain ⟨e, _, _, _, _, hk⟩ := hm f hfn
  have hp : ∀ k, k < z f → pl3 (ad3 t (mo f k)) < tr3 (M + 1) := fun k hk => by
    have := mL_le hL hfn t hk
    rw [ht] at this; omega
  refine ⟨fun i hi => ?_, hp⟩
  rw [e] at hi
  obtain ⟨k1, k2, k3⟩ := hk i hi
  have h1 := pl_deg_le (show plN (t.1 + (mo f i).1) (t.2.1 + (mo f i).2.1) (t.2.2 + (mo f i).2.2) < tr3 (M + 1) from hp i hi)
  exact ⟨k1, k2, (co f i).isLt, by omega, by omega, by omega⟩
theorem rd_zero {n : Nat} {h : Nat → m3} {z : Nat → Nat} {mo : Nat → Nat → m3} {co : Nat → Nat → fF} {q : Nat} {R : Nat → fF} (h0 : (R q).val = 0) : rd n h z mo co (q + 1) R = rd n h z mo co q R := by
  have h1 : R q = 0 := Fin.ext h0
  show rd n h z mo co q (if _ then aR z mo co _ _ (- R q) R else R) = _
  rw [h1, show - (0 : fF) = 0 by grind, aR_0]
  split <;> rfl
theorem rd_stay {n : Nat} {h : Nat → m3} {z : Nat → Nat} {mo : Nat → Nat → m3} {co : Nat → Nat → fF} {q : Nat} {R : Nat → fF} (hf : ¬ fi h (Ep q) n < n) : rd n h z mo co (q + 1) R = rd n h z mo co q R := by
  show rd n h z mo co q (if _ then _ else R) = _
  rw [if_neg hf]
theorem rd_go {n : Nat} {h : Nat → m3} {z : Nat → Nat} {mo : Nat → Nat → m3} {co : Nat → Nat → fF} {q f : Nat} {R : Nat → fF} (e : f = fi h (Ep q) n) (hf : f < n) : rd n h z mo co (q + 1) R = rd n h z mo co q (aR z mo co (sb3 (Ep q) (h f)) f (- R q) R) := by
  subst e
  show rd n h z mo co q (if _ then _ else R) = _
  rw [if_pos hf]
theorem rd_not {n : Nat} {h : Nat → m3} {z : Nat → Nat} {mo : Nat → Nat → m3} {co : Nat → Nat → fF} (hL : mL n h z mo co) {q T : Nat} {R R0 : Nat → fF} (hf : ¬ fi h (Ep q) n < n) (h0 : ¬ (R q).val = 0) (hr : rd n h z mo co (q + 1) R = rd n h z mo co T R0) : rd n h z mo co T R0 q ≠ 0 := by
  rw [← hr, rd_stay hf, rd_hi hL q R q (Nat.le_refl q)]
  intro e; exact h0 (by rw [e]; rfl)
theorem aR_at {n : Nat} {h : Nat → m3} {z : Nat → Nat} {mo : Nat → Nat → m3} {co : Nat → Nat → fF} (hL : mL n h z mo co) {q f : Nat} {R : Nat → fF} (hf : f < n) (hd : dv3 (h f) (Ep q)) : aR z mo co (sb3 (Ep q) (h f)) f (- R q) R q = 0 ∧ ∀ j, q < j → aR z mo co (sb3 (Ep q) (h f)) f (- R q) R j = R j := by
  have h1 := aR_hd hL hf (t := sb3 (Ep q) (h f)) (c := - R q) (R := R)
  rw [ad3_sb hd, pl_Ep3] at h1
  refine ⟨by rw [h1]; grind, fun j hj => aR_hi hL hf ?_⟩
  rw [ad3_sb hd, pl_Ep3]; exact hj

theorem d_D_reduce_0 : decode b_D_reduce 0 = .ok (.iconst 1, 1) := by decide +kernel
theorem d_D_reduce_1 : decode b_D_reduce 1 = .ok (.istore 4, 2) := by decide +kernel
theorem d_D_reduce_3 : decode b_D_reduce 3 = .ok (.iload_n 2, 1) := by decide +kernel
theorem d_D_reduce_4 : decode b_D_reduce 4 = .ok (.aload_n 0, 1) := by decide +kernel
theorem d_D_reduce_5 : decode b_D_reduce 5 = .ok (.getfield 9, 3) := by decide +kernel
theorem d_D_reduce_8 : decode b_D_reduce 8 = .ok (.arraylength, 1) := by decide +kernel
theorem d_D_reduce_9 : decode b_D_reduce 9 = .ok (.iconst 1, 1) := by decide +kernel
theorem d_D_reduce_10 : decode b_D_reduce 10 = .ok (.isub, 1) := by decide +kernel
theorem d_D_reduce_11 : decode b_D_reduce 11 = .ok (.invokestatic 69, 3) := by decide +kernel
theorem d_D_reduce_14 : decode b_D_reduce 14 = .ok (.istore 5, 2) := by decide +kernel
theorem d_D_reduce_16 : decode b_D_reduce 16 = .ok (.iload 5, 2) := by decide +kernel
theorem d_D_reduce_18 : decode b_D_reduce 18 = .ok (.ifCond .lt 93, 3) := by decide +kernel
theorem d_D_reduce_21 : decode b_D_reduce 21 = .ok (.aload_n 0, 1) := by decide +kernel
theorem d_D_reduce_22 : decode b_D_reduce 22 = .ok (.getfield 9, 3) := by decide +kernel
theorem d_D_reduce_25 : decode b_D_reduce 25 = .ok (.iload 5, 2) := by decide +kernel
theorem d_D_reduce_27 : decode b_D_reduce 27 = .ok (.iaload, 1) := by decide +kernel
theorem d_D_reduce_28 : decode b_D_reduce 28 = .ok (.ifCond .ne 6, 3) := by decide +kernel
theorem d_D_reduce_31 : decode b_D_reduce 31 = .ok (.goto 74, 3) := by decide +kernel
theorem d_D_reduce_34 : decode b_D_reduce 34 = .ok (.aload_n 1, 1) := by decide +kernel
theorem d_D_reduce_35 : decode b_D_reduce 35 = .ok (.aload_n 0, 1) := by decide +kernel
theorem d_D_reduce_36 : decode b_D_reduce 36 = .ok (.getfield 15, 3) := by decide +kernel
theorem d_D_reduce_39 : decode b_D_reduce 39 = .ok (.iload 5, 2) := by decide +kernel
theorem d_D_reduce_41 : decode b_D_reduce 41 = .ok (.iaload, 1) := by decide +kernel
theorem d_D_reduce_42 : decode b_D_reduce 42 = .ok (.invokevirtual 74, 3) := by decide +kernel
theorem d_D_reduce_45 : decode b_D_reduce 45 = .ok (.istore 6, 2) := by decide +kernel
theorem d_D_reduce_47 : decode b_D_reduce 47 = .ok (.iload 6, 2) := by decide +kernel
theorem d_D_reduce_49 : decode b_D_reduce 49 = .ok (.ifCond .lt 47, 3) := by decide +kernel
theorem d_D_reduce_52 : decode b_D_reduce 52 = .ok (.aload_n 0, 1) := by decide +kernel
theorem d_D_reduce_53 : decode b_D_reduce 53 = .ok (.getfield 15, 3) := by decide +kernel
theorem d_D_reduce_56 : decode b_D_reduce 56 = .ok (.iload 5, 2) := by decide +kernel
theorem d_D_reduce_58 : decode b_D_reduce 58 = .ok (.iaload, 1) := by decide +kernel
theorem d_D_reduce_59 : decode b_D_reduce 59 = .ok (.aload_n 1, 1) := by decide +kernel
theorem d_D_reduce_60 : decode b_D_reduce 60 = .ok (.getfield 30, 3) := by decide +kernel
theorem d_D_reduce_63 : decode b_D_reduce 63 = .ok (.iload 6, 2) := by decide +kernel
theorem d_D_reduce_65 : decode b_D_reduce 65 = .ok (.iaload, 1) := by decide +kernel
theorem d_D_reduce_66 : decode b_D_reduce 66 = .ok (.isub, 1) := by decide +kernel
theorem d_D_reduce_67 : decode b_D_reduce 67 = .ok (.istore 7, 2) := by decide +kernel
theorem d_D_reduce_69 : decode b_D_reduce 69 = .ok (.aload_n 0, 1) := by decide +kernel
theorem d_D_reduce_70 : decode b_D_reduce 70 = .ok (.aload_n 1, 1) := by decide +kernel
theorem d_D_reduce_71 : decode b_D_reduce 71 = .ok (.getfield 45, 3) := by decide +kernel
theorem d_D_reduce_74 : decode b_D_reduce 74 = .ok (.iload 6, 2) := by decide +kernel
theorem d_D_reduce_76 : decode b_D_reduce 76 = .ok (.aaload, 1) := by decide +kernel
theorem d_D_reduce_77 : decode b_D_reduce 77 = .ok (.sipush 32003, 3) := by decide +kernel
theorem d_D_reduce_80 : decode b_D_reduce 80 = .ok (.aload_n 0, 1) := by decide +kernel
theorem d_D_reduce_81 : decode b_D_reduce 81 = .ok (.getfield 9, 3) := by decide +kernel
theorem d_D_reduce_84 : decode b_D_reduce 84 = .ok (.iload 5, 2) := by decide +kernel
theorem d_D_reduce_86 : decode b_D_reduce 86 = .ok (.iaload, 1) := by decide +kernel
theorem d_D_reduce_87 : decode b_D_reduce 87 = .ok (.isub, 1) := by decide +kernel
theorem d_D_reduce_88 : decode b_D_reduce 88 = .ok (.iload 7, 2) := by decide +kernel
theorem d_D_reduce_90 : decode b_D_reduce 90 = .ok (.invokevirtual 49, 3) := by decide +kernel
theorem d_D_reduce_93 : decode b_D_reduce 93 = .ok (.goto 12, 3) := by decide +kernel
theorem d_D_reduce_96 : decode b_D_reduce 96 = .ok (.iload_n 3, 1) := by decide +kernel
theorem d_D_reduce_97 : decode b_D_reduce 97 = .ok (.ifCond .eq 5, 3) := by decide +kernel
theorem d_D_reduce_100 : decode b_D_reduce 100 = .ok (.iconst 0, 1) := by decide +kernel
theorem d_D_reduce_101 : decode b_D_reduce 101 = .ok (.ireturn, 1) := by decide +kernel
theorem d_D_reduce_102 : decode b_D_reduce 102 = .ok (.iconst 0, 1) := by decide +kernel
theorem d_D_reduce_103 : decode b_D_reduce 103 = .ok (.istore 4, 2) := by decide +kernel
theorem d_D_reduce_105 : decode b_D_reduce 105 = .ok (.iinc 5 (-1), 3) := by decide +kernel
theorem d_D_reduce_108 : decode b_D_reduce 108 = .ok (.goto (-92), 3) := by decide +kernel
theorem d_D_reduce_111 : decode b_D_reduce 111 = .ok (.iload 4, 2) := by decide +kernel
theorem d_D_reduce_113 : decode b_D_reduce 113 = .ok (.ireturn, 1) := by decide +kernel
theorem d_D_wipe_0 : decode b_D_wipe 0 = .ok (.iload_n 1, 1) := by decide +kernel
theorem d_D_wipe_1 : decode b_D_wipe 1 = .ok (.aload_n 0, 1) := by decide +kernel
theorem d_D_wipe_2 : decode b_D_wipe 2 = .ok (.getfield 9, 3) := by decide +kernel
theorem d_D_wipe_5 : decode b_D_wipe 5 = .ok (.arraylength, 1) := by decide +kernel
theorem d_D_wipe_6 : decode b_D_wipe 6 = .ok (.iconst 1, 1) := by decide +kernel
theorem d_D_wipe_7 : decode b_D_wipe 7 = .ok (.isub, 1) := by decide +kernel
theorem d_D_wipe_8 : decode b_D_wipe 8 = .ok (.invokestatic 69, 3) := by decide +kernel
theorem d_D_wipe_11 : decode b_D_wipe 11 = .ok (.istore_n 2, 1) := by decide +kernel
theorem d_D_wipe_12 : decode b_D_wipe 12 = .ok (.iload_n 2, 1) := by decide +kernel
theorem d_D_wipe_13 : decode b_D_wipe 13 = .ok (.ifCond .lt 16, 3) := by decide +kernel
theorem d_D_wipe_16 : decode b_D_wipe 16 = .ok (.aload_n 0, 1) := by decide +kernel
theorem d_D_wipe_17 : decode b_D_wipe 17 = .ok (.getfield 9, 3) := by decide +kernel
theorem d_D_wipe_20 : decode b_D_wipe 20 = .ok (.iload_n 2, 1) := by decide +kernel
theorem d_D_wipe_21 : decode b_D_wipe 21 = .ok (.iconst 0, 1) := by decide +kernel
theorem d_D_wipe_22 : decode b_D_wipe 22 = .ok (.iastore, 1) := by decide +kernel
theorem d_D_wipe_23 : decode b_D_wipe 23 = .ok (.iinc 2 (-1), 3) := by decide +kernel
theorem d_D_wipe_26 : decode b_D_wipe 26 = .ok (.goto (-14), 3) := by decide +kernel
theorem d_D_wipe_29 : decode b_D_wipe 29 = .ok (.return_, 1) := by decide +kernel
set_option maxHeartbeats 4000000 in
set_option maxRecDepth 100000 in
theorem lp_D_wipe {p : Program} {l : Launch} {e : Env} {R : Room} {s : State} {m : MethodId} {args : Array Value} {below : List Frame} {meth : Method} {c : Code} {Q : State → Prop} {D : mp_G} {g : Nat → ClassId} {A : Nat → Prop} {cells slots : Nat} (hx : p.tables.exec = Jvm.exec) (hb : c.code = b_D_wipe) (hml : c.maxLocals = 3) (hg : ∀ w ∈ gw, w.before args s = true) (hown : s.vm.findClass R_D = some m.cls) (hK : mp_K D classes (tys g) s) (hRf : 0 ≤ R.frames) (hRl : 0 ≤ R.locals) (hRc : cells ≤ R.cells) (hRs : slots ≤ R.slots) {B : mp_M} {o ra N T : Nat} {w1 : Value} {Rr : Nat → fF} (hT : T ≤ N) (hN : N ≤ 8000) : ∀ (k : Nat) (S : mp_M) (H : Heap) (locs : List Loc) (ls : Array Slot), k ≤ T → S o = some (11, .inr (5, [.ref ra, w1])) → S ra = some (12, .inl ((g 0), N, .inl (fun j => nI ((wpF k T Rr) j).val))) → (∀ b t e9, B b = some (t, e9) → (t ≠ 12) → S b = some (t, e9)) → mp_I D classes A s.heap S H locs → lv_has ls 3 [(2, .int (nI k + -1)), (0, .ref o)] → (∀ (S : mp_M) (H : Heap) (locs : List Loc) (ls : Array Slot), S o = some (11, .inr (5, [.ref ra, w1])) → S ra = some (12, .inl ((g 0), N, .inl (fun j => nI ((wpF 0 T Rr) j).val))) → (∀ b t e9, B b = some (t, e9) → (t ≠ 12) → S b = some (t, e9)) → mp_I D classes A s.heap S H locs → lv_has ls 3 [(2, .int (nI 0 + -1)), (0, .ref o)] → W p l e R s m args below meth c H locs cells slots Q (F0 m 29 ls [])) → W p l e R s m args below meth c H locs cells slots Q (F0 m 12 ls []) := by
  intro k
  induction k with
  | zero =>
    intro S H locs ls hi h_o h_ra hfr hI hl kx
    refine lv_iload_n hx hb d_D_wipe_12 rfl (lv_at hl 0 rfl) ?_
    refine lv_if_lt (tgt := 29) hx hb d_D_wipe_13 (by decide) (fun _ => ?_) (fun h9 => absurd (by decide) h9)
    exact kx S H locs ls h_o h_ra hfr hI (lv_sub hl [0, 1] rfl)
  | succ k ih =>
    intro S H locs ls hi h_o h_ra hfr hI hl kx
    rw [nI_dec] at hl
    refine lv_iload_n hx hb d_D_wipe_12 rfl (lv_at hl 0 rfl) ?_
    refine lv_if_lt (tgt := 29) hx hb d_D_wipe_13 (by decide) (fun h9 => absurd h9 (nI_pos (by omega))) (fun _ => ?_)
    refine lv_aload_n hx hb d_D_wipe_16 rfl (lv_at hl 1 rfl) ?_
    refine mp_get (C := R_D) (T := F_D) (N := 2) (v := .ref ra) hx hb hg i_D hown hK.va hI h_o rfl 0 (by decide) (hg _ q_184) (fun _ h9 => h9) rfl d_D_wipe_17 ?_
    refine lv_iload_n hx hb d_D_wipe_20 rfl (lv_at hl 0 rfl) ?_
    refine lv_iconst (v := nI 0) hx hb d_D_wipe_21 (by decide) ?_
    refine mp_iast hx hb hK.va hI 0 h_ra rfl (vp_in_nI (show k < N by omega) (by omega)) d_D_wipe_22 (fun S1 H2 locs e_3 hI => ?_)
    have h_ra_o := h_ra
    have e_3 : S1 = va_up S ra (some (12, .inl ((g 0), N, .inl (upd (fun j => nI ((wpF (k + 1) T Rr) j).val) (nI k).toNatClampNeg (nI 0))))) := e_3
    have h_o : S1 o = some (11, .inr (5, [.ref ra, w1])) := by rw [e_3]; exact mp_keep h_o h_ra (by decide)
    have h_ra : S1 ra = some (12, .inl ((g 0), N, .inl (upd (fun j => nI ((wpF (k + 1) T Rr) j).val) (nI k).toNatClampNeg (nI 0)))) := by rw [e_3]; exact mp_us _ _ _
    have hfr : ∀ b t e9, B b = some (t, e9) → (t ≠ 12) → S1 b = some (t, e9) := fun b t e9 h9 k0 => by rw [e_3]; exact mp_keep (hfr b t e9 h9 k0) h_ra_o (by omega)
    have h_ra := h_ra
    rw [nI_clamp (by omega), nIv_up0] at h_ra
    have e9h_ra : (fun j => nI (va_up (wpF (k + 1) T Rr) k 0 j).val) = (fun j => nI (wpF k T Rr j).val) := by rw [wpF_up (by omega)]
    rw [e9h_ra] at h_ra
    refine lv_iinc (v := (nI k + (-1))) (lv' := [(2, .int (nI k + (-1))), (0, .ref o)]) hx hb d_D_wipe_23 hl (k := 0) rfl (rfl) (by decide) rfl (fun ls hl => ?_)
    refine lv_goto (tgt := 12) hx hb d_D_wipe_26 (by decide) ?_
    exact ih S1 H2 locs ls (by omega) h_o h_ra hfr hI (lv_sub hl [0, 1] rfl) kx
set_option maxHeartbeats 4000000 in
set_option maxRecDepth 100000 in
/-- the row is wiped up to a place -/
theorem c_D_wipe (l : Launch) (D : mp_G) (g : Nat → ClassId) (S : mp_M) (sz : Nat) (o ra N T0 : Nat) (w1 : Value) (Rr : Nat → fF) (h_o : S o = some (11, .inr (5, [.ref ra, w1]))) (h_ra : S ra = some (12, .inl ((g 0), N, .inl (fun j => nI (Rr j).val)))) (hT : T0 < N) (hN : N ≤ 8000) : Met l y_D_wipe w_D_wipe ({ frames := 1, cells := 0, slots := 0, locals := 21 }) (va_Pc [.ref o, .int (nI T0)] (mp_B0 D classes (tys g) S sz)) (va_Qv (fun (S1 : mp_M) => S1 ra = some (12, .inl ((g 0), N, .inl (fun j => nI ((wpF 0 (T0 + 1) Rr) j).val))) ∧ (∀ b t e9, S b = some (t, e9) → (t ≠ 12) → S1 b = some (t, e9))) (mp_B1 D classes S sz) (mp_A S sz)) 0 0 (mp_A S sz) := by
  refine Met.ofW (cc := b_D_wipe) (maxL := 3) (ret := none) (by decide) rfl ?_
  intro p e s m args below meth c s₁ B hml hv
  obtain ⟨rfl, hsz, hH, hK⟩ := hv
  have hx := B.exec
  have hb := B.bytes
  have hr := B.returns
  have hts := atoms_spec (ws := w_D_wipe) B.pre
  have hg : ∀ w ∈ gw, w.before _ s = true := fun w h => hts w (List.mem_cons_of_mem _ h)
  have hown : s.vm.findClass R_D = some m.cls := findClass_of_methodNamed B.named
  have hlocks := B.notSynchronized
  subst hsz
  have hI := mp_I.start hH
  have hl := lv_entry ([.ref o, .int (nI T0)]) (n := 3) (Nat.le_of_ble_eq_true rfl)
  rw [lg_entry_eq]
  generalize (lg_sl ([.ref o, .int (nI T0)]) ++ List.replicate (3 - (lg_sl ([.ref o, .int (nI T0)])).length) Slot.unset).toArray = ls at hl ⊢
  have hl : lv_has ls 3 [(0, .ref o), (1, .int (nI T0))] := hl
  have hfr : ∀ b t e9, S b = some (t, e9) → (t ≠ 12) → S b = some (t, e9) := fun _ _ _ h9 _ => h9
  refine lv_iload_n hx hb d_D_wipe_0 rfl (lv_at hl 1 rfl) ?_
  refine lv_aload_n hx hb d_D_wipe_1 rfl (lv_at hl 0 rfl) ?_
  refine mp_get (C := R_D) (T := F_D) (N := 2) (v := .ref ra) hx hb hg i_D hown hK.va hI h_o rfl 0 (by decide) (hg _ q_184) (fun _ h9 => h9) rfl d_D_wipe_2 ?_
  refine mp_alen (v := nI N) hx hb hK.va hI 0 h_ra rfl rfl d_D_wipe_5 ?_
  refine lv_iconst (v := nI 1) hx hb d_D_wipe_6 (by decide) ?_
  refine lv_isub hx hb d_D_wipe_7 ?_
  refine lv_topi (fun v1 ev1 => ?_)
  obtain rfl : v1 = nI (N - 1) := ev1.trans (pk_sub (by omega))
  refine va_mmin hx hb (hml.trans hl.1.symm) hown (hg _ q_346) (hg _ q_76) (hg _ q_4) (hg _ q_77) (Nat.le_of_ble_eq_true rfl) (Nat.le_of_ble_eq_true rfl) (Nat.le_of_ble_eq_true rfl) (Nat.le_of_ble_eq_true rfl) d_D_wipe_8 ?_
  refine lv_topi (fun v2 ev2 => ?_)
  obtain rfl : v2 = nI (min T0 (N - 1)) := ev2.trans (mn_nI (by omega) (by omega))
  refine lv_topi (fun v3 ev3 => ?_)
  obtain rfl : v3 = (nI (T0 + 1) + -1) := ev3.trans (by rw [Nat.min_eq_left (by omega)]; exact (nI_dec T0).symm)
  refine lv_istore_n (lv' := [(2, .int (nI (T0 + 1) + -1)), (0, .ref o), (1, .int (nI T0))]) hx hb d_D_wipe_11 rfl hl (by decide) rfl (fun ls hl => ?_)
  rw [← wpF_s (T0 + 1) Rr] at h_ra
  refine lp_D_wipe (B := S) (o := o) (ra := ra) (N := N) (T := T0 + 1) (w1 := w1) (Rr := Rr) hx hb hml hg hown hK (Nat.le_of_ble_eq_true rfl) (Nat.le_of_ble_eq_true rfl) (Nat.le_of_ble_eq_true rfl) (Nat.le_of_ble_eq_true rfl) (by omega) hN (T0 + 1) S s.heap _ ls (Nat.le_refl _) h_o h_ra hfr hI (lv_sub hl [0, 1] rfl) (fun S4 H5 locs ls j_o j_ra hfr hI hl => ?_)
  refine mp_vret hx hb hr hlocks hI (Nat.le_of_ble_eq_true rfl) (Nat.le_of_ble_eq_true rfl) ?_ d_D_wipe_29
  exact ⟨j_ra, hfr⟩
set_option maxHeartbeats 4000000 in
set_option maxRecDepth 100000 in
theorem lp_D_reduce {p : Program} {l : Launch} {e : Env} {R : Room} {s : State} {m : MethodId} {args : Array Value} {below : List Frame} {meth : Method} {c : Code} {Q : State → Prop} {D : mp_G} {g : Nat → ClassId} {A : Nat → Prop} {cells slots : Nat} (hx : p.tables.exec = Jvm.exec) (hb : c.code = b_D_reduce) (hml : c.maxLocals = 8) (hg : ∀ w ∈ gw, w.before args s = true) (hown : s.vm.findClass R_D = some m.cls) (hK : mp_K D classes (tys g) s) (hRf : 2 ≤ R.frames) (hRl : 48 ≤ R.locals) (hRc : cells ≤ R.cells) (hRs : slots ≤ R.slots) {B : mp_M} {o ra ka lo ma hd n N M : Nat} {me mk mn mcap mz : Nat → Nat} {mkf mnf : Nat → Nat → Int32} {hf kp : Nat → Int32} {h : Nat → m3} {z : Nat → Nat} {mo : Nat → Nat → m3} {co : Nat → Nat → fF} {Rr : Nat → fF} {T : Nat} {fl : Int32} (hB : lsB n h z mo co mcap mz mkf mnf hf) (hFL : FL kp N) (hN : N = tr3 (M + 1)) (hM : M ≤ 27) (hN8 : N ≤ 8000) (hT : T ≤ N) : ∀ (k : Nat) (R1 : Nat → fF) (v4 : Int32) (S : mp_M) (H : Heap) (locs : List Loc) (ls : Array Slot), k ≤ T → (rd n h z mo co k R1 = rd n h z mo co T Rr) → (∀ q, T ≤ q → R1 q = Rr q) → (fl ≠ 0 → v4 = 1 ∧ ∀ q, k ≤ q → q < T → R1 q = 0) → (v4 = 0 ∨ v4 = 1) → S o = some (11, .inr (5, [.ref ra, .ref ka])) → S ra = some (12, .inl ((g 0), N, .inl (fun j => nI (R1 j).val))) → S ka = some (13, .inl ((g 0), N, .inl kp)) → S lo = some (2, .inr (9, [.ref ma, .ref hd, .int (nI n)])) → S ma = some (4, .inl ((g 2), 12, .inr (.inr (.inr (.inr (rfs me 12)))))) → S hd = some (5, .inl ((g 0), 12, .inl hf)) → (yS g 300 12 me mk mn mcap mz mkf mnf S) → (∀ b t e9, B b = some (t, e9) → (t ≠ 12) → S b = some (t, e9)) → mp_I D classes A s.heap S H locs → lv_has ls 8 [(5, .int (nI k + -1)), (4, .int v4), (3, .int fl), (1, .ref lo), (0, .ref o)] → (∀ (R1 : Nat → fF) (v4 : Int32) (S : mp_M) (H : Heap) (locs : List Loc) (ls : Array Slot), (rd n h z mo co 0 R1 = rd n h z mo co T Rr) → (∀ q, T ≤ q → R1 q = Rr q) → (fl ≠ 0 → v4 = 1 ∧ ∀ q, 0 ≤ q → q < T → R1 q = 0) → (v4 = 0 ∨ v4 = 1) → S o = some (11, .inr (5, [.ref ra, .ref ka])) → S ra = some (12, .inl ((g 0), N, .inl (fun j => nI (R1 j).val))) → S ka = some (13, .inl ((g 0), N, .inl kp)) → S lo = some (2, .inr (9, [.ref ma, .ref hd, .int (nI n)])) → S ma = some (4, .inl ((g 2), 12, .inr (.inr (.inr (.inr (rfs me 12)))))) → S hd = some (5, .inl ((g 0), 12, .inl hf)) → (yS g 300 12 me mk mn mcap mz mkf mnf S) → (∀ b t e9, B b = some (t, e9) → (t ≠ 12) → S b = some (t, e9)) → mp_I D classes A s.heap S H locs → lv_has ls 8 [(5, .int (nI 0 + -1)), (4, .int v4), (3, .int fl), (1, .ref lo), (0, .ref o)] → W p l e R s m args below meth c H locs cells slots Q (F0 m 111 ls [])) → (∀ (R1 : Nat → fF) (v4 : Int32) (S : mp_M) (H : Heap) (locs : List Loc) (ls : Array Slot), (∀ q, T ≤ q → R1 q = Rr q) → (fl ≠ 0 ∧ ∃ q, q < T ∧ rd n h z mo co T Rr q ≠ 0) → S o = some (11, .inr (5, [.ref ra, .ref ka])) → S ra = some (12, .inl ((g 0), N, .inl (fun j => nI (R1 j).val))) → S ka = some (13, .inl ((g 0), N, .inl kp)) → S lo = some (2, .inr (9, [.ref ma, .ref hd, .int (nI n)])) → S ma = some (4, .inl ((g 2), 12, .inr (.inr (.inr (.inr (rfs me 12)))))) → S hd = some (5, .inl ((g 0), 12, .inl hf)) → (yS g 300 12 me mk mn mcap mz mkf mnf S) → (∀ b t e9, B b = some (t, e9) → (t ≠ 12) → S b = some (t, e9)) → mp_I D classes A s.heap S H locs → lv_has ls 8 [(0, .ref o)] → W p l e R s m args below meth c H locs cells slots Q (F0 m 100 ls [])) → W p l e R s m args below meth c H locs cells slots Q (F0 m 16 ls []) := by
  intro k
  induction k with
  | zero =>
    intro R1 v4 S H locs ls hi hrd hhi hz1 hv4 h_o h_ra h_ka h_lo h_ma h_hd hY hfr hI hl kx ky
    refine lv_iload hx hb d_D_reduce_16 (lv_at hl 0 rfl) ?_
    refine lv_if_lt (tgt := 111) hx hb d_D_reduce_18 (by decide) (fun _ => ?_) (fun h9 => absurd (by decide) h9)
    exact kx R1 v4 S H locs ls hrd hhi hz1 hv4 h_o h_ra h_ka h_lo h_ma h_hd hY hfr hI (lv_sub hl [0, 1, 2, 3, 4] rfl)
  | succ k ih =>
    intro R1 v4 S H locs ls hi hrd hhi hz1 hv4 h_o h_ra h_ka h_lo h_ma h_hd hY hfr hI hl kx ky
    have hn12 := hB.2.1
    have hdg := Ep_deg (show k < tr3 (M + 1) by omega)
    rw [nI_dec] at hl
    refine lv_iload hx hb d_D_reduce_16 (lv_at hl 0 rfl) ?_
    refine lv_if_lt (tgt := 111) hx hb d_D_reduce_18 (by decide) (fun h9 => absurd h9 (nI_pos (by omega))) (fun _ => ?_)
    refine lv_aload_n hx hb d_D_reduce_21 rfl (lv_at hl 4 rfl) ?_
    refine mp_get (C := R_D) (T := F_D) (N := 2) (v := .ref ra) hx hb hg i_D hown hK.va hI h_o rfl 0 (by decide) (hg _ q_184) (fun _ h9 => h9) rfl d_D_reduce_22 ?_
    refine lv_iload hx hb d_D_reduce_25 (lv_at hl 0 rfl) ?_
    refine mp_iald hx hb hK.va hI 0 h_ra rfl (vp_in_nI (show k < N by omega) (by omega)) d_D_reduce_27 ?_
    refine lv_topi (fun v1 ev1 => ?_)
    obtain rfl : v1 = nI (R1 k).val := ev1.trans (by rw [nI_clamp (by omega)])
    refine lv_if_ne (tgt := 34) hx hb d_D_reduce_28 (by decide) (fun c1 => ?_) (fun c1 => ?_)
    · rw [zI_eq (by omega)] at c1
      refine lv_aload_n hx hb d_D_reduce_34 rfl (lv_at hl 3 rfl) ?_
      refine lv_aload_n hx hb d_D_reduce_35 rfl (lv_at hl 4 rfl) ?_
      refine mp_get (C := R_D) (T := F_D) (N := 2) (v := .ref ka) hx hb hg i_D hown hK.va hI h_o rfl 1 (by decide) (hg _ q_185) (fun _ h9 => h9) rfl d_D_reduce_36 ?_
      refine lv_iload hx hb d_D_reduce_39 (lv_at hl 0 rfl) ?_
      refine mp_iald hx hb hK.va hI 0 h_ka rfl (vp_in_nI (show k < N by omega) (by omega)) d_D_reduce_41 ?_
      refine lv_topi (fun v2 ev2 => ?_)
      obtain rfl : v2 = nI (kN (Ep k).1 (Ep k).2.1 (Ep k).2.2) := ev2.trans (by rw [nI_clamp (by omega)]; exact hFL k (by omega))
      refine mp_calli hI (va_runV (As := [.int (nI (kN (Ep k).1 (Ep k).2.1 (Ep k).2.2))]) (rest := []) ⟨hx, hb, hml, hown, hg⟩ (c_K_firstDividing l D g S _ lo hd n (Ep k).1 (Ep k).2.1 (Ep k).2.2 (.ref ma) hf (fun i => (h i).1) (fun i => (h i).2.1) (fun i => (h i).2.2) h_lo h_hd (lsB_hd hB) hn12 (by omega) (by omega) (by omega)) ⟨(callB_of 1 hg (wd_goodG q_350) rfl rfl rfl (hg _ q_2) (hg _ q_347) (by decide +kernel) ⟨Nat.le_trans (Nat.le_of_ble_eq_true rfl) hRf, Nat.le_trans (Nat.le_of_ble_eq_true rfl) hRl⟩), hg _ q_348, hg _ q_349⟩ (mp_preV (C := R_K) (T := F_K) hI hK h_lo rfl [.int (nI (kN (Ep k).1 (Ep k).2.1 (Ep k).2.2))]) rfl rfl hl.1 rfl (lv_room (Nat.le_of_ble_eq_true rfl)) d_D_reduce_42 ⟨by omega, by omega⟩) (fun r6 S3 H4 locs p_5 hI => ?_)
      obtain ⟨er6, eS7⟩ := p_5
      rw [eS7] at hI
      rcases fd_fi (h := h) (u := Ep k) er6 with ⟨hlt, rfl⟩ | ⟨hlt, rfl⟩
      · have hdv := (fi_sp h (Ep k) n).1 hlt
        obtain ⟨f, ef⟩ : ∃ f, f = fi h (Ep k) n := ⟨_, rfl⟩
        have hl0 := hl
        rw [← ef] at hlt hdv
        rw [← ef]
        obtain ⟨t, et⟩ : ∃ t, t = sb3 (Ep k) (h f) := ⟨_, rfl⟩
        refine lv_istore (lv' := [(6, .int (nI f)), (5, .int (nI k)), (4, .int v4), (3, .int fl), (1, .ref lo), (0, .ref o)]) hx hb d_D_reduce_45 hl (by decide) rfl (fun ls hl => ?_)
        refine lv_iload hx hb d_D_reduce_47 (lv_at hl 0 rfl) ?_
        refine lv_if_lt (tgt := 96) hx hb d_D_reduce_49 (by decide) (fun h9 => absurd h9 (nI_pos (by omega))) (fun _ => ?_)
        refine lv_aload_n hx hb d_D_reduce_52 rfl (lv_at hl 5 rfl) ?_
        refine mp_get (C := R_D) (T := F_D) (N := 2) (v := .ref ka) hx hb hg i_D hown hK.va hI h_o rfl 1 (by decide) (hg _ q_185) (fun _ h9 => h9) rfl d_D_reduce_53 ?_
        refine lv_iload hx hb d_D_reduce_56 (lv_at hl 1 rfl) ?_
        refine mp_iald hx hb hK.va hI 0 h_ka rfl (vp_in_nI (show k < N by omega) (by omega)) d_D_reduce_58 ?_
        refine lv_topi (fun v8 ev8 => ?_)
        obtain rfl : v8 = nI (kT (Ep k)) := ev8.trans (by rw [nI_clamp (by omega)]; exact hFL k (by omega))
        refine lv_aload_n hx hb d_D_reduce_59 rfl (lv_at hl 4 rfl) ?_
        refine mp_getN (C := R_K) (T := F_K) (N := 3) (v := .ref hd) hx hb hg i_K hown hK.va hI h_lo rfl 1 (by decide) (hK.use q_64 rfl) (fun _ h9 => h9) rfl d_D_reduce_60 ?_
        refine lv_iload hx hb d_D_reduce_63 (lv_at hl 0 rfl) ?_
        refine mp_iald hx hb hK.va hI 0 h_hd rfl (vp_in_nI (show f < 12 by omega) (by omega)) d_D_reduce_65 ?_
        refine lv_topi (fun v9 ev9 => ?_)
        obtain rfl : v9 = nI (kT (h f)) := ev9.trans (by rw [nI_clamp (by omega)]; exact (hB.2.2 f hlt).2.2.2.1)
        refine lv_isub hx hb d_D_reduce_66 ?_
        refine lv_topi (fun v10 ev10 => ?_)
        obtain rfl : v10 = nI ((kT (Ep k)) - (kT (h f))) := ev10.trans (pk_sub (kT_le hdv))
        refine lv_topi (fun v11 ev11 => ?_)
        obtain rfl : v11 = nI (kN t.1 t.2.1 t.2.2) := ev11.trans (by rw [et]; exact congrArg nI (kT_sb hdv))
        refine lv_istore (lv' := [(7, .int (nI (kN t.1 t.2.1 t.2.2))), (6, .int (nI f)), (5, .int (nI k)), (4, .int v4), (3, .int fl), (1, .ref lo), (0, .ref o)]) hx hb d_D_reduce_67 hl (by decide) rfl (fun ls hl => ?_)
        refine lv_aload_n hx hb d_D_reduce_69 rfl (lv_at hl 6 rfl) ?_
        refine lv_aload_n hx hb d_D_reduce_70 rfl (lv_at hl 5 rfl) ?_
        refine mp_getN (C := R_K) (T := F_K) (N := 3) (v := .ref ma) hx hb hg i_K hown hK.va hI h_lo rfl 0 (by decide) (hK.use q_62 rfl) (fun _ h9 => h9) rfl d_D_reduce_71 ?_
        refine lv_iload hx hb d_D_reduce_74 (lv_at hl 1 rfl) ?_
        refine mp_aldq (b := me f) hx hb hK.va hI 2 h_ma rfl (vp_in_nI (show f < 12 by omega) (by omega)) (by rw [nI_clamp (by omega)]; exact rfs_at (by omega)) d_D_reduce_76 ?_
        refine lv_sipush (v := nI 32003) hx hb d_D_reduce_77 (by decide) ?_
        refine lv_aload_n hx hb d_D_reduce_80 rfl (lv_at hl 6 rfl) ?_
        refine mp_get (C := R_D) (T := F_D) (N := 2) (v := .ref ra) hx hb hg i_D hown hK.va hI h_o rfl 0 (by decide) (hg _ q_184) (fun _ h9 => h9) rfl d_D_reduce_81 ?_
        refine lv_iload hx hb d_D_reduce_84 (lv_at hl 2 rfl) ?_
        refine mp_iald hx hb hK.va hI 0 h_ra rfl (vp_in_nI (show k < N by omega) (by omega)) d_D_reduce_86 ?_
        refine lv_topi (fun v12 ev12 => ?_)
        obtain rfl : v12 = nI (R1 k).val := ev12.trans (by rw [nI_clamp (by omega)])
        refine lv_isub hx hb d_D_reduce_87 ?_
        refine lv_topi (fun v13 ev13 => ?_)
        obtain rfl : v13 = nI (32003 - ((R1 k).val)) := ev13.trans (pk_sub (by omega))
        refine lv_iload hx hb d_D_reduce_88 (lv_at hl 0 rfl) ?_
        obtain ⟨ay1, ay2, ay3⟩ := hY f (by omega)
        have am := hB.2.2 f hlt
        have ak := lsB_add (t := t) (u := (Ep k)) hB hlt (by rw [et]; exact ad3_sb hdv) (by rw [pl_Ep3]; omega) hM
        rw [← hN] at ak
        refine mp_callv hI (va_runV (As := [.ref (me f), .int (nI (32003 - ((R1 k).val))), .int (nI (kN t.1 t.2.1 t.2.2))]) (rest := []) ⟨hx, hb, hml, hown, hg⟩ (c_D_addMultiple l D g S _ o ra (me f) (mk f) (mn f) (300 + 3 * f) (mcap f) (mz f) N t.1 t.2.1 t.2.2 (32003 - (R1 k).val) (.ref ka) (mkf f) (mnf f) (fun j => (mo f j).1) (fun j => (mo f j).2.1) (fun j => (mo f j).2.2) (fun j => (co f j).val) (fun j => (R1 j).val) h_o h_ra ay1 ay2 ay3 (by omega) ak.1 (by rw [am.1]; exact am.2.1) am.2.2.1 hN8 (by omega) (fun q => (R1 q).isLt)) ⟨(callB_of 3 hg (wd_goodG q_338) rfl rfl rfl (hg _ q_20) (hg _ q_335) (by decide +kernel) ⟨Nat.le_trans (Nat.le_of_ble_eq_true rfl) hRf, Nat.le_trans (Nat.le_of_ble_eq_true rfl) hRl⟩), hg _ q_337, hg _ qs_2⟩ (mp_preV (C := R_D) (T := F_D) hI hK h_o rfl [.ref (me f), .int (nI (32003 - ((R1 k).val))), .int (nI (kN t.1 t.2.1 t.2.2))]) rfl rfl hl.1 rfl (lv_room (Nat.le_of_ble_eq_true rfl)) d_D_reduce_90 ⟨by omega, by omega⟩) (fun S14 H15 locs p_16 hI => ?_)
        obtain ⟨q_ra, fq⟩ := p_16
        have q_ra : S14 ra = some (12, .inl ((g 0), N, .inl (fun j => nI ((aR z mo co t f (-R1 k) R1) j).val))) := by rw [← show fc (32003 - (R1 k).val) = -R1 k from fc_ng _, ← raN_fun (N := N) (z := mz f) am.1 ak.2]; exact q_ra
        have h_o : S14 o = some (11, .inr (5, [.ref ra, .ref ka])) := (fq o (mp_in h_o) (mp_ne h_o h_ra (by omega))).trans h_o
        have h_ka : S14 ka = some (13, .inl ((g 0), N, .inl kp)) := (fq ka (mp_in h_ka) (mp_ne h_ka h_ra (by omega))).trans h_ka
        have h_lo : S14 lo = some (2, .inr (9, [.ref ma, .ref hd, .int (nI n)])) := (fq lo (mp_in h_lo) (mp_ne h_lo h_ra (by omega))).trans h_lo
        have h_ma : S14 ma = some (4, .inl ((g 2), 12, .inr (.inr (.inr (.inr (rfs me 12)))))) := (fq ma (mp_in h_ma) (mp_ne h_ma h_ra (by omega))).trans h_ma
        have h_hd : S14 hd = some (5, .inl ((g 0), 12, .inl hf)) := (fq hd (mp_in h_hd) (mp_ne h_hd h_ra (by omega))).trans h_hd
        have hfr : ∀ b t e9, B b = some (t, e9) → (t ≠ 12) → S14 b = some (t, e9) := fun b t e9 h9 k0 => by have h8 := hfr b t e9 h9 k0; exact (fq b (mp_in h8) (mp_ne h8 h_ra (by omega))).trans h8
        have hY := yS_kept hY (S1 := S14) (fun b t9 e9 hb9 h1 h2 => by have h8 : S14 b = some (t9, e9) := (fq b (mp_in hb9) (mp_ne hb9 h_ra (by omega))).trans hb9; rw [h8, hb9])
        have h_ra := q_ra
        refine lv_goto (tgt := 105) hx hb d_D_reduce_93 (by decide) ?_
        refine lv_iinc (v := (nI k + (-1))) (lv' := [(5, .int (nI k + (-1))), (7, .int (nI (kN t.1 t.2.1 t.2.2))), (6, .int (nI f)), (4, .int v4), (3, .int fl), (1, .ref lo), (0, .ref o)]) hx hb d_D_reduce_105 hl (k := 2) rfl (rfl) (by decide) rfl (fun ls hl => ?_)
        refine lv_goto (tgt := 16) hx hb d_D_reduce_108 (by decide) ?_
        have hat := aR_at hB.1 (R := R1) hlt hdv
        rw [← et] at hat
        exact ih (aR z mo co t f (-R1 k) R1) v4 S14 H15 locs ls (by omega) (by rw [← hrd, rd_go ef hlt, et]) (fun q hq => by rw [hat.2 q (by omega)]; exact hhi q hq) (fun q => ⟨(hz1 q).1, fun j h1 h2 => by by_cases e : j = k; exact (by rw [e]; exact hat.1); exact (by rw [hat.2 j (by omega)]; exact (hz1 q).2 j (by omega) h2)⟩) hv4 h_o h_ra h_ka h_lo h_ma h_hd hY hfr hI (lv_sub hl [0, 3, 4, 5, 6] rfl) kx ky
      · refine lv_istore (lv' := [(6, .int (-1)), (5, .int (nI k)), (4, .int v4), (3, .int fl), (1, .ref lo), (0, .ref o)]) hx hb d_D_reduce_45 hl (by decide) rfl (fun ls hl => ?_)
        refine lv_iload hx hb d_D_reduce_47 (lv_at hl 0 rfl) ?_
        refine lv_if_lt (tgt := 96) hx hb d_D_reduce_49 (by decide) (fun _ => ?_) (fun h9 => absurd (by decide) h9)
        refine lv_iload_n hx hb d_D_reduce_96 rfl (lv_at hl 3 rfl) ?_
        refine lv_if_eq (tgt := 102) hx hb d_D_reduce_97 (by decide) (fun c2 => ?_) (fun c2 => ?_)
        · refine lv_iconst (v := nI 0) hx hb d_D_reduce_102 (by decide) ?_
          refine lv_istore (lv' := [(4, .int (nI 0)), (6, .int (-1)), (5, .int (nI k)), (3, .int fl), (1, .ref lo), (0, .ref o)]) hx hb d_D_reduce_103 hl (by decide) rfl (fun ls hl => ?_)
          refine lv_iinc (v := (nI k + (-1))) (lv' := [(5, .int (nI k + (-1))), (4, .int (nI 0)), (6, .int (-1)), (3, .int fl), (1, .ref lo), (0, .ref o)]) hx hb d_D_reduce_105 hl (k := 2) rfl (rfl) (by decide) rfl (fun ls hl => ?_)
          refine lv_goto (tgt := 16) hx hb d_D_reduce_108 (by decide) ?_
          exact ih R1 (nI 0) S H4 locs ls (by omega) (by rw [← hrd, rd_stay hlt]) hhi (fun q => absurd c2 q) (Or.inl rfl) h_o h_ra h_ka h_lo h_ma h_hd hY hfr hI (lv_sub hl [0, 1, 3, 4, 5] rfl) kx ky
        · exact ky R1 v4 S H4 locs ls hhi ⟨c2, k, by omega, rd_not hB.1 hlt c1 hrd⟩ h_o h_ra h_ka h_lo h_ma h_hd hY hfr hI (lv_sub hl [5] rfl)
    · rw [zI_eq (by omega)] at c1
      refine lv_goto (tgt := 105) hx hb d_D_reduce_31 (by decide) ?_
      refine lv_iinc (v := (nI k + (-1))) (lv' := [(5, .int (nI k + (-1))), (4, .int v4), (3, .int fl), (1, .ref lo), (0, .ref o)]) hx hb d_D_reduce_105 hl (k := 0) rfl (rfl) (by decide) rfl (fun ls hl => ?_)
      refine lv_goto (tgt := 16) hx hb d_D_reduce_108 (by decide) ?_
      exact ih R1 v4 S H locs ls (by omega) (by rw [← hrd, rd_zero c1]) hhi (fun q => ⟨(hz1 q).1, fun j h1 h2 => by by_cases e : j = k; exact (by rw [e]; exact Fin.ext c1); exact (hz1 q).2 j (by omega) h2⟩) hv4 h_o h_ra h_ka h_lo h_ma h_hd hY hfr hI (lv_sub hl [0, 1, 2, 3, 4] rfl) kx ky
set_option maxHeartbeats 4000000 in
set_option maxRecDepth 100000 in
/-- reduction from a place down -/
theorem c_D_reduce (l : Launch) (D : mp_G) (g : Nat → ClassId) (S : mp_M) (sz : Nat) (o ra ka lo ma hd n N M : Nat) (me mk mn mcap mz : Nat → Nat) (mkf mnf : Nat → Nat → Int32) (hf kp : Nat → Int32) (h : Nat → m3) (z : Nat → Nat) (mo : Nat → Nat → m3) (co : Nat → Nat → fF) (Rr : Nat → fF) (T0 : Nat) (fl : Int32) (h_o : S o = some (11, .inr (5, [.ref ra, .ref ka]))) (h_ra : S ra = some (12, .inl ((g 0), N, .inl (fun j => nI (Rr j).val)))) (h_ka : S ka = some (13, .inl ((g 0), N, .inl kp))) (h_lo : S lo = some (2, .inr (9, [.ref ma, .ref hd, .int (nI n)]))) (h_ma : S ma = some (4, .inl ((g 2), 12, .inr (.inr (.inr (.inr (rfs me 12))))))) (h_hd : S hd = some (5, .inl ((g 0), 12, .inl hf))) (hY : yS g 300 12 me mk mn mcap mz mkf mnf S) (hB : lsB n h z mo co mcap mz mkf mnf hf) (hFL : FL kp N) (hN : N = tr3 (M + 1)) (hM : M ≤ 27) (hN8 : N ≤ 8000) (hT : T0 < N) : Met l y_D_reduce w_D_reduce ({ frames := 2, cells := 0, slots := 0, locals := 48 }) (va_Pc [.ref o, .ref lo, .int (nI T0), .int fl] (mp_B0 D classes (tys g) S sz)) (va_Qi (fun (r : Int32) (S1 : mp_M) => ∃ R1 : Nat → fF, S1 ra = some (12, .inl ((g 0), N, .inl (fun j => nI (R1 j).val))) ∧ (∀ q, T0 < q → R1 q = Rr q) ∧ (fl = 0 → R1 = rd n h z mo co (T0 + 1) Rr) ∧ (fl ≠ 0 → (r = 1 ∧ ∀ q, q < T0 + 1 → rd n h z mo co (T0 + 1) Rr q = 0) ∨ (r = 0 ∧ ∃ q, q < T0 + 1 ∧ rd n h z mo co (T0 + 1) Rr q ≠ 0)) ∧ (∀ b t e9, S b = some (t, e9) → (t ≠ 12) → S1 b = some (t, e9))) (mp_B1 D classes S sz) (mp_A S sz)) 0 0 (mp_A S sz) := by
  refine Met.ofW (cc := b_D_reduce) (maxL := 8) (ret := (some .boolean)) (by decide) rfl ?_
  intro p e s m args below meth c s₁ B hml hv
  obtain ⟨rfl, hsz, hH, hK⟩ := hv
  have hx := B.exec
  have hb := B.bytes
  have hr := B.returns
  have hts := atoms_spec (ws := w_D_reduce) B.pre
  have hg : ∀ w ∈ gw, w.before _ s = true := fun w h => hts w (List.mem_cons_of_mem _ h)
  have hown : s.vm.findClass R_D = some m.cls := findClass_of_methodNamed B.named
  have hlocks := B.notSynchronized
  subst hsz
  have hI := mp_I.start hH
  have hl := lv_entry ([.ref o, .ref lo, .int (nI T0), .int fl]) (n := 8) (Nat.le_of_ble_eq_true rfl)
  rw [lg_entry_eq]
  generalize (lg_sl ([.ref o, .ref lo, .int (nI T0), .int fl]) ++ List.replicate (8 - (lg_sl ([.ref o, .ref lo, .int (nI T0), .int fl])).length) Slot.unset).toArray = ls at hl ⊢
  have hl : lv_has ls 8 [(0, .ref o), (1, .ref lo), (2, .int (nI T0)), (3, .int fl)] := hl
  have hfr : ∀ b t e9, S b = some (t, e9) → (t ≠ 12) → S b = some (t, e9) := fun _ _ _ h9 _ => h9
  refine lv_iconst (v := nI 1) hx hb d_D_reduce_0 (by decide) ?_
  refine lv_istore (lv' := [(4, .int (nI 1)), (0, .ref o), (1, .ref lo), (2, .int (nI T0)), (3, .int fl)]) hx hb d_D_reduce_1 hl (by decide) rfl (fun ls hl => ?_)
  refine lv_iload_n hx hb d_D_reduce_3 rfl (lv_at hl 3 rfl) ?_
  refine lv_aload_n hx hb d_D_reduce_4 rfl (lv_at hl 1 rfl) ?_
  refine mp_get (C := R_D) (T := F_D) (N := 2) (v := .ref ra) hx hb hg i_D hown hK.va hI h_o rfl 0 (by decide) (hg _ q_184) (fun _ h9 => h9) rfl d_D_reduce_5 ?_
  refine mp_alen (v := nI N) hx hb hK.va hI 0 h_ra rfl rfl d_D_reduce_8 ?_
  refine lv_iconst (v := nI 1) hx hb d_D_reduce_9 (by decide) ?_
  refine lv_isub hx hb d_D_reduce_10 ?_
  refine lv_topi (fun v1 ev1 => ?_)
  obtain rfl : v1 = nI (N - 1) := ev1.trans (pk_sub (by omega))
  refine va_mmin hx hb (hml.trans hl.1.symm) hown (hg _ q_346) (hg _ q_76) (hg _ q_4) (hg _ q_77) (Nat.le_of_ble_eq_true rfl) (Nat.le_of_ble_eq_true rfl) (Nat.le_of_ble_eq_true rfl) (Nat.le_of_ble_eq_true rfl) d_D_reduce_11 ?_
  refine lv_topi (fun v2 ev2 => ?_)
  obtain rfl : v2 = nI (min T0 (N - 1)) := ev2.trans (mn_nI (by omega) (by omega))
  refine lv_topi (fun v3 ev3 => ?_)
  obtain rfl : v3 = (nI (T0 + 1) + -1) := ev3.trans (by rw [Nat.min_eq_left (by omega)]; exact (nI_dec T0).symm)
  refine lv_istore (lv' := [(5, .int (nI (T0 + 1) + -1)), (4, .int (nI 1)), (0, .ref o), (1, .ref lo), (2, .int (nI T0)), (3, .int fl)]) hx hb d_D_reduce_14 hl (by decide) rfl (fun ls hl => ?_)
  refine lp_D_reduce (B := S) (o := o) (ra := ra) (ka := ka) (lo := lo) (ma := ma) (hd := hd) (n := n) (N := N) (M := M) (me := me) (mk := mk) (mn := mn) (mcap := mcap) (mz := mz) (mkf := mkf) (mnf := mnf) (hf := hf) (kp := kp) (h := h) (z := z) (mo := mo) (co := co) (Rr := Rr) (T := T0 + 1) (fl := fl) hx hb hml hg hown hK (Nat.le_of_ble_eq_true rfl) (Nat.le_of_ble_eq_true rfl) (Nat.le_of_ble_eq_true rfl) (Nat.le_of_ble_eq_true rfl) hB hFL hN hM hN8 (by omega) (T0 + 1) Rr (nI 1) S s.heap _ ls (Nat.le_refl _) rfl (fun _ _ => rfl) (fun _ => ⟨rfl, fun q h1 h2 => absurd h1 (by omega)⟩) (Or.inr rfl) h_o h_ra h_ka h_lo h_ma h_hd hY hfr hI (lv_sub hl [0, 1, 5, 3, 2] rfl) (fun R1 v4 S4 H5 locs ls hrd hhi hz1 hv4 j_o j_ra j_ka j_lo j_ma j_hd hY hfr hI hl => ?_) (fun R1 v4 S9 H9 locs ls hhi hne j_o j_ra j_ka j_lo j_ma j_hd hY hfr hI hl => ?_)
  · refine lv_iload hx hb d_D_reduce_111 (lv_at hl 1 rfl) ?_
    refine mp_zret hx hb hr hlocks hI (Nat.le_of_ble_eq_true rfl) (Nat.le_of_ble_eq_true rfl) ?_ (by rcases hv4 with rfl | rfl <;> decide) d_D_reduce_113
    exact ⟨R1, j_ra, fun q hq => hhi q (by omega), fun _ => hrd, fun hne => Or.inl ⟨(hz1 hne).1, fun q hq => by rw [← hrd]; exact (hz1 hne).2 q (Nat.zero_le q) hq⟩, hfr⟩
  · refine lv_iconst (v := nI 0) hx hb d_D_reduce_100 (by decide) ?_
    refine mp_zret hx hb hr hlocks hI (Nat.le_of_ble_eq_true rfl) (Nat.le_of_ble_eq_true rfl) ?_ (by decide) d_D_reduce_101
    exact ⟨R1, j_ra, fun q hq => hhi q (by omega), fun hz => absurd hz hne.1, fun _ => Or.inr ⟨rfl, hne.2⟩, hfr⟩
