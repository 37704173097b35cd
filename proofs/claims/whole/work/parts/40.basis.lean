def zR : Nat → fF := fun _ => 0
/-- what comes of two heads is reduced to nothing -/
def pvN (n : Nat) (h : Nat → m3) (z : Nat → Nat) (mo : Nat → Nat → m3) (co : Nat → Nat → fF) (i j : Nat) : Prop :=
  ∀ q, q < pl3 (lc3 (h i) (h j)) + 1 → rd n h z mo co (pl3 (lc3 (h i) (h j)) + 1) (aR z mo co (sb3 (lc3 (h i) (h j)) (h j)) j (-1) (aR z mo co (sb3 (lc3 (h i) (h j)) (h i)) i 1 zR)) q = 0
def bas (n : Nat) (h : Nat → m3) (z : Nat → Nat) (mo : Nat → Nat → m3) (co : Nat → Nat → fF) : Prop := ∀ i j, i < j → j < n → sh3 (h i) (h j) → pvN n h z mo co i j
theorem wpF_z {T : Nat} {R : Nat → fF} (h : ∀ q, T < q → R q = 0) : wpF 0 (T + 1) R = zR := by
  funext j; unfold wpF zR
  by_cases e : j < T + 1
  · rw [if_pos ⟨Nat.zero_le j, e⟩]
  · rw [if_neg (fun q => e q.2)]; exact h j (by omega)
theorem lc_dg {nl : Nat} {u v : m3} (hl : nl ≤ 3) (h1 : 1 ≤ nl) (hu : InL nl u) (hv : InL nl v) (eu : e9 u) (ev9 : e9 v) : (lc3 u v).1 + (lc3 u v).2.1 + (lc3 u v).2.2 ≤ 9 * nl := by
  unfold InL at hu hv; unfold e9 at eu ev9; simp only [lc3]; omega
theorem fc_m1 : fc 32002 = -1 := by decide +kernel
theorem rd_more {n : Nat} {h : Nat → m3} {z : Nat → Nat} {mo : Nat → Nat → m3} {co : Nat → Nat → fF} {T : Nat} {R : Nat → fF} (h0 : ∀ q, T ≤ q → R q = 0) : ∀ d, rd n h z mo co (T + d) R = rd n h z mo co T R
  | 0 => rfl
  | d + 1 => by rw [← Nat.add_assoc, rd_zero (by rw [h0 _ (by omega)]; rfl), rd_more h0 d]
theorem rd_nu {n : Nat} {h : Nat → m3} {z : Nat → Nat} {mo : Nat → Nat → m3} {co : Nat → Nat → fF} (hL : mL n h z mo co) {u : m3} {j : Nat} (hf : ¬ fi h (Ep j) n < n) :
    rd n h z mo co (pl3 u + 1) (va_up zR (pl3 u) 1) j = nu n h z mo co j u := by
  have e : va_up zR (pl3 u) 1 = fun q => if q = pl3 u then 1 else 0 := by
    funext q
    by_cases e : q = pl3 u
    · rw [e, mp_us, if_pos rfl]
    · rw [mp_un e, if_neg e]; rfl
  rw [e]
  by_cases hj : j ≤ pl3 u
  · exact rd_unit hL hj hf
  · have h1 := rd_val hL (T := pl3 u + 1 + (j - pl3 u)) (R := fun q => if q = pl3 u then 1 else 0) (j := j) (by omega) hf
    rw [rd_more (fun q hq => by rw [if_neg (by omega)])] at h1
    rw [h1, sm_at (show pl3 u < pl3 u + 1 + (j - pl3 u) by omega) 1 (fun q => nu n h z mo co j (Ep q)), Ep_pl3]; grind
/-- the first i numbers are new -/
def mgF (i : Nat) (a b : Nat → fF) : Nat → fF := fun j => if j < i then a j else b j
theorem mgF_0 (a b : Nat → fF) : mgF 0 a b = b := by funext j; unfold mgF; rw [if_neg (Nat.not_lt_zero j)]
theorem mgF_up (a b : Nat → fF) (i : Nat) : va_up (mgF i a b) i (a i) = mgF (i + 1) a b := by
  funext j
  by_cases e : j = i
  · rw [e, mp_us]; unfold mgF; rw [if_pos (Nat.lt_succ_self i)]
  · rw [mp_un e]; unfold mgF
    by_cases q : j < i
    · rw [if_pos q, if_pos (by omega)]
    · rw [if_neg q, if_neg (by omega)]
theorem mgF_lt {a b : Nat → fF} {i j : Nat} (h : j < i) : mgF i a b j = a j := by unfold mgF; rw [if_pos h]
theorem mgF_ge {a b : Nat → fF} {i j : Nat} (h : ¬ j < i) : mgF i a b j = b j := by unfold mgF; rw [if_neg h]

theorem d_D_isBasis_10 : decode b_D_isBasis 10 = .ok (.iload_n 2, 1) := by decide +kernel
theorem d_D_isBasis_11 : decode b_D_isBasis 11 = .ok (.iconst 1, 1) := by decide +kernel
theorem d_D_isBasis_12 : decode b_D_isBasis 12 = .ok (.iadd, 1) := by decide +kernel
theorem d_D_isBasis_13 : decode b_D_isBasis 13 = .ok (.istore_n 3, 1) := by decide +kernel
theorem d_D_isBasis_14 : decode b_D_isBasis 14 = .ok (.iload_n 3, 1) := by decide +kernel
theorem d_D_isBasis_15 : decode b_D_isBasis 15 = .ok (.aload_n 1, 1) := by decide +kernel
theorem d_D_isBasis_16 : decode b_D_isBasis 16 = .ok (.getfield 24, 3) := by decide +kernel
theorem d_D_isBasis_19 : decode b_D_isBasis 19 = .ok (.if_icmp .ge 39, 3) := by decide +kernel
theorem d_D_isBasis_22 : decode b_D_isBasis 22 = .ok (.aload_n 1, 1) := by decide +kernel
theorem d_D_isBasis_23 : decode b_D_isBasis 23 = .ok (.getfield 30, 3) := by decide +kernel
theorem d_D_isBasis_26 : decode b_D_isBasis 26 = .ok (.iload_n 2, 1) := by decide +kernel
theorem d_D_isBasis_27 : decode b_D_isBasis 27 = .ok (.iaload, 1) := by decide +kernel
theorem d_D_isBasis_28 : decode b_D_isBasis 28 = .ok (.aload_n 1, 1) := by decide +kernel
theorem d_D_isBasis_29 : decode b_D_isBasis 29 = .ok (.getfield 30, 3) := by decide +kernel
theorem d_D_isBasis_32 : decode b_D_isBasis 32 = .ok (.iload_n 3, 1) := by decide +kernel
theorem d_D_isBasis_33 : decode b_D_isBasis 33 = .ok (.iaload, 1) := by decide +kernel
theorem d_D_isBasis_34 : decode b_D_isBasis 34 = .ok (.invokestatic 33, 3) := by decide +kernel
theorem d_D_isBasis_37 : decode b_D_isBasis 37 = .ok (.ifCond .eq 15, 3) := by decide +kernel
theorem d_D_isBasis_40 : decode b_D_isBasis 40 = .ok (.aload_n 0, 1) := by decide +kernel
theorem d_D_isBasis_41 : decode b_D_isBasis 41 = .ok (.aload_n 1, 1) := by decide +kernel
theorem d_D_isBasis_42 : decode b_D_isBasis 42 = .ok (.iload_n 2, 1) := by decide +kernel
theorem d_D_isBasis_43 : decode b_D_isBasis 43 = .ok (.iload_n 3, 1) := by decide +kernel
theorem d_D_isBasis_44 : decode b_D_isBasis 44 = .ok (.invokevirtual 37, 3) := by decide +kernel
theorem d_D_isBasis_47 : decode b_D_isBasis 47 = .ok (.ifCond .ne 5, 3) := by decide +kernel
theorem d_D_isBasis_50 : decode b_D_isBasis 50 = .ok (.iconst 0, 1) := by decide +kernel
theorem d_D_isBasis_51 : decode b_D_isBasis 51 = .ok (.ireturn, 1) := by decide +kernel
theorem d_D_isBasis_52 : decode b_D_isBasis 52 = .ok (.iinc 3 1, 3) := by decide +kernel
theorem d_D_isBasis_55 : decode b_D_isBasis 55 = .ok (.goto (-41), 3) := by decide +kernel
theorem d_D_isBasis_58 : decode b_D_isBasis 58 = .ok (.iinc 2 1, 3) := by decide +kernel
theorem d_D_isBasis_61 : decode b_D_isBasis 61 = .ok (.goto (-59), 3) := by decide +kernel
theorem d_D_pairVanishes_0 : decode b_D_pairVanishes 0 = .ok (.aload_n 1, 1) := by decide +kernel
theorem d_D_pairVanishes_1 : decode b_D_pairVanishes 1 = .ok (.getfield 30, 3) := by decide +kernel
theorem d_D_pairVanishes_4 : decode b_D_pairVanishes 4 = .ok (.iload_n 2, 1) := by decide +kernel
theorem d_D_pairVanishes_5 : decode b_D_pairVanishes 5 = .ok (.iaload, 1) := by decide +kernel
theorem d_D_pairVanishes_6 : decode b_D_pairVanishes 6 = .ok (.aload_n 1, 1) := by decide +kernel
theorem d_D_pairVanishes_7 : decode b_D_pairVanishes 7 = .ok (.getfield 30, 3) := by decide +kernel
theorem d_D_pairVanishes_10 : decode b_D_pairVanishes 10 = .ok (.iload_n 3, 1) := by decide +kernel
theorem d_D_pairVanishes_11 : decode b_D_pairVanishes 11 = .ok (.iaload, 1) := by decide +kernel
theorem d_D_pairVanishes_12 : decode b_D_pairVanishes 12 = .ok (.invokestatic 41, 3) := by decide +kernel
theorem d_D_pairVanishes_15 : decode b_D_pairVanishes 15 = .ok (.istore 4, 2) := by decide +kernel
theorem d_D_pairVanishes_17 : decode b_D_pairVanishes 17 = .ok (.aload_n 0, 1) := by decide +kernel
theorem d_D_pairVanishes_18 : decode b_D_pairVanishes 18 = .ok (.aload_n 1, 1) := by decide +kernel
theorem d_D_pairVanishes_19 : decode b_D_pairVanishes 19 = .ok (.getfield 45, 3) := by decide +kernel
theorem d_D_pairVanishes_22 : decode b_D_pairVanishes 22 = .ok (.iload_n 2, 1) := by decide +kernel
theorem d_D_pairVanishes_23 : decode b_D_pairVanishes 23 = .ok (.aaload, 1) := by decide +kernel
theorem d_D_pairVanishes_24 : decode b_D_pairVanishes 24 = .ok (.iconst 1, 1) := by decide +kernel
theorem d_D_pairVanishes_25 : decode b_D_pairVanishes 25 = .ok (.iload 4, 2) := by decide +kernel
theorem d_D_pairVanishes_27 : decode b_D_pairVanishes 27 = .ok (.aload_n 1, 1) := by decide +kernel
theorem d_D_pairVanishes_28 : decode b_D_pairVanishes 28 = .ok (.getfield 30, 3) := by decide +kernel
theorem d_D_pairVanishes_31 : decode b_D_pairVanishes 31 = .ok (.iload_n 2, 1) := by decide +kernel
theorem d_D_pairVanishes_32 : decode b_D_pairVanishes 32 = .ok (.iaload, 1) := by decide +kernel
theorem d_D_pairVanishes_33 : decode b_D_pairVanishes 33 = .ok (.isub, 1) := by decide +kernel
theorem d_D_pairVanishes_34 : decode b_D_pairVanishes 34 = .ok (.invokevirtual 49, 3) := by decide +kernel
theorem d_D_pairVanishes_37 : decode b_D_pairVanishes 37 = .ok (.aload_n 0, 1) := by decide +kernel
theorem d_D_pairVanishes_38 : decode b_D_pairVanishes 38 = .ok (.aload_n 1, 1) := by decide +kernel
theorem d_D_pairVanishes_39 : decode b_D_pairVanishes 39 = .ok (.getfield 45, 3) := by decide +kernel
theorem d_D_pairVanishes_42 : decode b_D_pairVanishes 42 = .ok (.iload_n 3, 1) := by decide +kernel
theorem d_D_pairVanishes_43 : decode b_D_pairVanishes 43 = .ok (.aaload, 1) := by decide +kernel
theorem d_D_pairVanishes_44 : decode b_D_pairVanishes 44 = .ok (.sipush 32002, 3) := by decide +kernel
theorem d_D_pairVanishes_47 : decode b_D_pairVanishes 47 = .ok (.iload 4, 2) := by decide +kernel
theorem d_D_pairVanishes_49 : decode b_D_pairVanishes 49 = .ok (.aload_n 1, 1) := by decide +kernel
theorem d_D_pairVanishes_50 : decode b_D_pairVanishes 50 = .ok (.getfield 30, 3) := by decide +kernel
theorem d_D_pairVanishes_53 : decode b_D_pairVanishes 53 = .ok (.iload_n 3, 1) := by decide +kernel
theorem d_D_pairVanishes_54 : decode b_D_pairVanishes 54 = .ok (.iaload, 1) := by decide +kernel
theorem d_D_pairVanishes_55 : decode b_D_pairVanishes 55 = .ok (.isub, 1) := by decide +kernel
theorem d_D_pairVanishes_56 : decode b_D_pairVanishes 56 = .ok (.invokevirtual 49, 3) := by decide +kernel
theorem d_D_pairVanishes_59 : decode b_D_pairVanishes 59 = .ok (.iload 4, 2) := by decide +kernel
theorem d_D_pairVanishes_61 : decode b_D_pairVanishes 61 = .ok (.invokestatic 53, 3) := by decide +kernel
theorem d_D_pairVanishes_64 : decode b_D_pairVanishes 64 = .ok (.istore 5, 2) := by decide +kernel
theorem d_D_pairVanishes_66 : decode b_D_pairVanishes 66 = .ok (.aload_n 0, 1) := by decide +kernel
theorem d_D_pairVanishes_67 : decode b_D_pairVanishes 67 = .ok (.aload_n 1, 1) := by decide +kernel
theorem d_D_pairVanishes_68 : decode b_D_pairVanishes 68 = .ok (.iload 5, 2) := by decide +kernel
theorem d_D_pairVanishes_70 : decode b_D_pairVanishes 70 = .ok (.iconst 1, 1) := by decide +kernel
theorem d_D_pairVanishes_71 : decode b_D_pairVanishes 71 = .ok (.invokevirtual 57, 3) := by decide +kernel
theorem d_D_pairVanishes_74 : decode b_D_pairVanishes 74 = .ok (.istore 6, 2) := by decide +kernel
theorem d_D_pairVanishes_76 : decode b_D_pairVanishes 76 = .ok (.aload_n 0, 1) := by decide +kernel
theorem d_D_pairVanishes_77 : decode b_D_pairVanishes 77 = .ok (.iload 5, 2) := by decide +kernel
theorem d_D_pairVanishes_79 : decode b_D_pairVanishes 79 = .ok (.invokevirtual 61, 3) := by decide +kernel
theorem d_D_pairVanishes_82 : decode b_D_pairVanishes 82 = .ok (.iload 6, 2) := by decide +kernel
theorem d_D_pairVanishes_84 : decode b_D_pairVanishes 84 = .ok (.ireturn, 1) := by decide +kernel
theorem d_D_writeReduced_0 : decode b_D_writeReduced 0 = .ok (.iload_n 2, 1) := by decide +kernel
theorem d_D_writeReduced_1 : decode b_D_writeReduced 1 = .ok (.invokestatic 53, 3) := by decide +kernel
theorem d_D_writeReduced_4 : decode b_D_writeReduced 4 = .ok (.istore 5, 2) := by decide +kernel
theorem d_D_writeReduced_6 : decode b_D_writeReduced 6 = .ok (.iload 5, 2) := by decide +kernel
theorem d_D_writeReduced_8 : decode b_D_writeReduced 8 = .ok (.ifCond .lt 13, 3) := by decide +kernel
theorem d_D_writeReduced_11 : decode b_D_writeReduced 11 = .ok (.iload 5, 2) := by decide +kernel
theorem d_D_writeReduced_13 : decode b_D_writeReduced 13 = .ok (.aload_n 0, 1) := by decide +kernel
theorem d_D_writeReduced_14 : decode b_D_writeReduced 14 = .ok (.getfield 9, 3) := by decide +kernel
theorem d_D_writeReduced_17 : decode b_D_writeReduced 17 = .ok (.arraylength, 1) := by decide +kernel
theorem d_D_writeReduced_18 : decode b_D_writeReduced 18 = .ok (.if_icmp .lt 4, 3) := by decide +kernel
theorem d_D_writeReduced_22 : decode b_D_writeReduced 22 = .ok (.aload_n 0, 1) := by decide +kernel
theorem d_D_writeReduced_23 : decode b_D_writeReduced 23 = .ok (.getfield 9, 3) := by decide +kernel
theorem d_D_writeReduced_26 : decode b_D_writeReduced 26 = .ok (.iload 5, 2) := by decide +kernel
theorem d_D_writeReduced_28 : decode b_D_writeReduced 28 = .ok (.iconst 1, 1) := by decide +kernel
theorem d_D_writeReduced_29 : decode b_D_writeReduced 29 = .ok (.iastore, 1) := by decide +kernel
theorem d_D_writeReduced_30 : decode b_D_writeReduced 30 = .ok (.aload_n 0, 1) := by decide +kernel
theorem d_D_writeReduced_31 : decode b_D_writeReduced 31 = .ok (.aload_n 1, 1) := by decide +kernel
theorem d_D_writeReduced_32 : decode b_D_writeReduced 32 = .ok (.iload 5, 2) := by decide +kernel
theorem d_D_writeReduced_34 : decode b_D_writeReduced 34 = .ok (.iconst 0, 1) := by decide +kernel
theorem d_D_writeReduced_35 : decode b_D_writeReduced 35 = .ok (.invokevirtual 57, 3) := by decide +kernel
theorem d_D_writeReduced_38 : decode b_D_writeReduced 38 = .ok (.pop, 1) := by decide +kernel
theorem d_D_writeReduced_39 : decode b_D_writeReduced 39 = .ok (.iconst 0, 1) := by decide +kernel
theorem d_D_writeReduced_40 : decode b_D_writeReduced 40 = .ok (.istore 6, 2) := by decide +kernel
theorem d_D_writeReduced_42 : decode b_D_writeReduced 42 = .ok (.iload 6, 2) := by decide +kernel
theorem d_D_writeReduced_44 : decode b_D_writeReduced 44 = .ok (.aload_n 3, 1) := by decide +kernel
theorem d_D_writeReduced_45 : decode b_D_writeReduced 45 = .ok (.getfield 65, 3) := by decide +kernel
theorem d_D_writeReduced_48 : decode b_D_writeReduced 48 = .ok (.if_icmp .ge 52, 3) := by decide +kernel
theorem d_D_writeReduced_51 : decode b_D_writeReduced 51 = .ok (.aload_n 3, 1) := by decide +kernel
theorem d_D_writeReduced_52 : decode b_D_writeReduced 52 = .ok (.getfield 68, 3) := by decide +kernel
theorem d_D_writeReduced_55 : decode b_D_writeReduced 55 = .ok (.iload 6, 2) := by decide +kernel
theorem d_D_writeReduced_57 : decode b_D_writeReduced 57 = .ok (.iaload, 1) := by decide +kernel
theorem d_D_writeReduced_58 : decode b_D_writeReduced 58 = .ok (.invokestatic 53, 3) := by decide +kernel
theorem d_D_writeReduced_61 : decode b_D_writeReduced 61 = .ok (.istore 7, 2) := by decide +kernel
theorem d_D_writeReduced_63 : decode b_D_writeReduced 63 = .ok (.aload 4, 2) := by decide +kernel
theorem d_D_writeReduced_65 : decode b_D_writeReduced 65 = .ok (.iload 6, 2) := by decide +kernel
theorem d_D_writeReduced_67 : decode b_D_writeReduced 67 = .ok (.iload 7, 2) := by decide +kernel
theorem d_D_writeReduced_69 : decode b_D_writeReduced 69 = .ok (.ifCond .lt 13, 3) := by decide +kernel
theorem d_D_writeReduced_72 : decode b_D_writeReduced 72 = .ok (.iload 7, 2) := by decide +kernel
theorem d_D_writeReduced_74 : decode b_D_writeReduced 74 = .ok (.aload_n 0, 1) := by decide +kernel
theorem d_D_writeReduced_75 : decode b_D_writeReduced 75 = .ok (.getfield 9, 3) := by decide +kernel
theorem d_D_writeReduced_78 : decode b_D_writeReduced 78 = .ok (.arraylength, 1) := by decide +kernel
theorem d_D_writeReduced_79 : decode b_D_writeReduced 79 = .ok (.if_icmp .lt 7, 3) := by decide +kernel
theorem d_D_writeReduced_86 : decode b_D_writeReduced 86 = .ok (.aload_n 0, 1) := by decide +kernel
theorem d_D_writeReduced_87 : decode b_D_writeReduced 87 = .ok (.getfield 9, 3) := by decide +kernel
theorem d_D_writeReduced_90 : decode b_D_writeReduced 90 = .ok (.iload 7, 2) := by decide +kernel
theorem d_D_writeReduced_92 : decode b_D_writeReduced 92 = .ok (.iaload, 1) := by decide +kernel
theorem d_D_writeReduced_93 : decode b_D_writeReduced 93 = .ok (.iastore, 1) := by decide +kernel
theorem d_D_writeReduced_94 : decode b_D_writeReduced 94 = .ok (.iinc 6 1, 3) := by decide +kernel
theorem d_D_writeReduced_97 : decode b_D_writeReduced 97 = .ok (.goto (-55), 3) := by decide +kernel
theorem d_D_writeReduced_100 : decode b_D_writeReduced 100 = .ok (.aload_n 0, 1) := by decide +kernel
theorem d_D_writeReduced_101 : decode b_D_writeReduced 101 = .ok (.iload 5, 2) := by decide +kernel
theorem d_D_writeReduced_103 : decode b_D_writeReduced 103 = .ok (.invokevirtual 61, 3) := by decide +kernel
theorem d_D_writeReduced_106 : decode b_D_writeReduced 106 = .ok (.return_, 1) := by decide +kernel
set_option maxHeartbeats 4000000 in
set_option maxRecDepth 100000 in
/-- what comes of two heads -/
theorem c_D_pairVanishes (l : Launch) (D : mp_G) (g : Nat → ClassId) (S : mp_M) (sz : Nat) (o ra ka lo ma hd n N M : Nat) (me mk mn mcap mz : Nat → Nat) (mkf mnf : Nat → Nat → Int32) (hf kp : Nat → Int32) (h : Nat → m3) (z : Nat → Nat) (mo : Nat → Nat → m3) (co : Nat → Nat → fF) (ii jj : Nat) (h_o : S o = some (11, .inr (5, [.ref ra, .ref ka]))) (h_ra : S ra = some (12, .inl ((g 0), N, .inl (fun j => nI (zR j).val)))) (h_ka : S ka = some (13, .inl ((g 0), N, .inl kp))) (h_lo : S lo = some (2, .inr (9, [.ref ma, .ref hd, .int (nI n)]))) (h_ma : S ma = some (4, .inl ((g 2), 12, .inr (.inr (.inr (.inr (rfs me 12))))))) (h_hd : S hd = some (5, .inl ((g 0), 12, .inl hf))) (hY : yS g 300 12 me mk mn mcap mz mkf mnf S) (hB : lsB n h z mo co mcap mz mkf mnf hf) (hFL : FL kp N) (hN : N = tr3 (M + 1)) (hM : M ≤ 27) (hN8 : N ≤ 8000) (nl : Nat) (hnl : nl ≤ 3) (hn1 : 1 ≤ nl) (hMn : M = 9 * nl) (hIn : ∀ i, i < n → InL nl (h i)) (hi : ii < n) (hj : jj < n) : Met l y_D_pairVanishes w_D_pairVanishes ({ frames := 3, cells := 0, slots := 0, locals := 75 }) (va_Pc [.ref o, .ref lo, .int (nI ii), .int (nI jj)] (mp_B0 D classes (tys g) S sz)) (va_Qi (fun (r : Int32) (S1 : mp_M) => S1 ra = some (12, .inl ((g 0), N, .inl (fun j => nI (zR j).val))) ∧ ((r = 1 ∧ pvN n h z mo co ii jj) ∨ (r = 0 ∧ ¬ pvN n h z mo co ii jj)) ∧ (∀ b t e9, S b = some (t, e9) → (t ≠ 12) → S1 b = some (t, e9))) (mp_B1 D classes S sz) (mp_A S sz)) 0 0 (mp_A S sz) := by
  refine Met.ofW (cc := b_D_pairVanishes) (maxL := 7) (ret := (some .boolean)) (by decide) rfl ?_
  intro p e s m args below meth c s₁ B hml hv
  obtain ⟨rfl, hsz, hH, hK⟩ := hv
  have hx := B.exec
  have hb := B.bytes
  have hr := B.returns
  have hts := atoms_spec (ws := w_D_pairVanishes) B.pre
  have hg : ∀ w ∈ gw, w.before _ s = true := fun w h => hts w (List.mem_cons_of_mem _ h)
  have hown : s.vm.findClass R_D = some m.cls := findClass_of_methodNamed B.named
  have hlocks := B.notSynchronized
  subst hsz
  have hI := mp_I.start hH
  have hl := lv_entry ([.ref o, .ref lo, .int (nI ii), .int (nI jj)]) (n := 7) (Nat.le_of_ble_eq_true rfl)
  rw [lg_entry_eq]
  generalize (lg_sl ([.ref o, .ref lo, .int (nI ii), .int (nI jj)]) ++ List.replicate (7 - (lg_sl ([.ref o, .ref lo, .int (nI ii), .int (nI jj)])).length) Slot.unset).toArray = ls at hl ⊢
  have hl : lv_has ls 7 [(0, .ref o), (1, .ref lo), (2, .int (nI ii)), (3, .int (nI jj))] := hl
  have hfr : ∀ b t e9, S b = some (t, e9) → (t ≠ 12) → S b = some (t, e9) := fun _ _ _ h9 _ => h9
  have hn12 := hB.2.1
  have ai := hB.2.2 ii hi
  have aj := hB.2.2 jj hj
  obtain ⟨ei1, ei2, ei3⟩ := ai.2.2.2.2.1
  obtain ⟨ej1, ej2, ej3⟩ := aj.2.2.2.2.1
  refine lv_aload_n hx hb d_D_pairVanishes_0 rfl (lv_at hl 1 rfl) ?_
  refine mp_getN (C := R_K) (T := F_K) (N := 3) (v := .ref hd) hx hb hg i_K hown hK.va hI h_lo rfl 1 (by decide) (hK.use q_64 rfl) (fun _ h9 => h9) rfl d_D_pairVanishes_1 ?_
  refine lv_iload_n hx hb d_D_pairVanishes_4 rfl (lv_at hl 2 rfl) ?_
  refine mp_iald hx hb hK.va hI 0 h_hd rfl (vp_in_nI (show ii < 12 by omega) (by omega)) d_D_pairVanishes_5 ?_
  refine lv_topi (fun v1 ev1 => ?_)
  obtain rfl : v1 = nI (kN (h ii).1 (h ii).2.1 (h ii).2.2) := ev1.trans (by rw [nI_clamp (by omega)]; exact ai.2.2.2.1)
  refine lv_aload_n hx hb d_D_pairVanishes_6 rfl (lv_at hl 1 rfl) ?_
  refine mp_getN (C := R_K) (T := F_K) (N := 3) (v := .ref hd) hx hb hg i_K hown hK.va hI h_lo rfl 1 (by decide) (hK.use q_64 rfl) (fun _ h9 => h9) rfl d_D_pairVanishes_7 ?_
  refine lv_iload_n hx hb d_D_pairVanishes_10 rfl (lv_at hl 3 rfl) ?_
  refine mp_iald hx hb hK.va hI 0 h_hd rfl (vp_in_nI (show jj < 12 by omega) (by omega)) d_D_pairVanishes_11 ?_
  refine lv_topi (fun v2 ev2 => ?_)
  obtain rfl : v2 = nI (kN (h jj).1 (h jj).2.1 (h jj).2.2) := ev2.trans (by rw [nI_clamp (by omega)]; exact aj.2.2.2.1)
  refine mp_calli hI (va_runS (As := [.int (nI (kN (h ii).1 (h ii).2.1 (h ii).2.2)), .int (nI (kN (h jj).1 (h jj).2.1 (h jj).2.2))]) (rest := []) ⟨hx, hb, hml, hown, hg⟩ (c_W_leastMultiple l D g S _ (h ii).1 (h ii).2.1 (h ii).2.2 (h jj).1 (h jj).2.1 (h jj).2.2 (by omega) (by omega) (by omega) (by omega) (by omega) (by omega)) ⟨(callB_of 2 hg (wd_goodG q_326) rfl rfl rfl (hg _ q_11) (hg _ q_334) (by decide +kernel) ⟨Nat.le_of_ble_eq_true rfl, Nat.le_of_ble_eq_true rfl⟩), hg _ q_325⟩ (mp_pre hI hK [.int (nI (kN (h ii).1 (h ii).2.1 (h ii).2.2)), .int (nI (kN (h jj).1 (h jj).2.1 (h jj).2.2))]) rfl rfl hl.1 rfl (lv_room (Nat.le_of_ble_eq_true rfl)) d_D_pairVanishes_12 ⟨Nat.le_of_ble_eq_true rfl, Nat.le_of_ble_eq_true rfl⟩) (fun r6 S3 H4 locs p_5 hI => ?_)
  obtain ⟨er6, eS7⟩ := p_5
  rw [eS7] at hI
  have er6 : r6 = nI (kN (max (h ii).1 (h jj).1) (max (h ii).2.1 (h jj).2.1) (max (h ii).2.2 (h jj).2.2)) := er6
  subst er6
  obtain ⟨L, eL⟩ : ∃ L, L = lc3 (h ii) (h jj) := ⟨_, rfl⟩
  have hLd : L.1 + L.2.1 + L.2.2 ≤ M := by rw [eL, hMn]; exact lc_dg hnl hn1 (hIn ii hi) (hIn jj hj) ai.2.2.2.2.1 aj.2.2.2.2.1
  have hLp : pl3 L < tr3 (M + 1) := pl_lt hLd
  have d1 : dv3 (h ii) L := by rw [eL]; exact dv3_l1 _ _
  have d2 : dv3 (h jj) L := by rw [eL]; exact dv3_l2 _ _
  obtain ⟨t, et⟩ : ∃ t, t = sb3 L (h ii) := ⟨_, rfl⟩
  obtain ⟨t2, et2⟩ : ∃ t, t = sb3 L (h jj) := ⟨_, rfl⟩
  refine lv_topi (fun v8 ev8 => ?_)
  obtain rfl : v8 = nI (kT L) := ev8.trans (by rw [eL]; rfl)
  refine lv_istore (lv' := [(4, .int (nI (kT L))), (0, .ref o), (1, .ref lo), (2, .int (nI ii)), (3, .int (nI jj))]) hx hb d_D_pairVanishes_15 hl (by decide) rfl (fun ls hl => ?_)
  refine lv_aload_n hx hb d_D_pairVanishes_17 rfl (lv_at hl 1 rfl) ?_
  refine lv_aload_n hx hb d_D_pairVanishes_18 rfl (lv_at hl 2 rfl) ?_
  refine mp_getN (C := R_K) (T := F_K) (N := 3) (v := .ref ma) hx hb hg i_K hown hK.va hI h_lo rfl 0 (by decide) (hK.use q_62 rfl) (fun _ h9 => h9) rfl d_D_pairVanishes_19 ?_
  refine lv_iload_n hx hb d_D_pairVanishes_22 rfl (lv_at hl 3 rfl) ?_
  refine mp_aldq (b := me ii) hx hb hK.va hI 2 h_ma rfl (vp_in_nI (show ii < 12 by omega) (by omega)) (by rw [nI_clamp (by omega)]; exact rfs_at (by omega)) d_D_pairVanishes_23 ?_
  refine lv_iconst (v := nI 1) hx hb d_D_pairVanishes_24 (by decide) ?_
  refine lv_iload hx hb d_D_pairVanishes_25 (lv_at hl 0 rfl) ?_
  refine lv_aload_n hx hb d_D_pairVanishes_27 rfl (lv_at hl 2 rfl) ?_
  refine mp_getN (C := R_K) (T := F_K) (N := 3) (v := .ref hd) hx hb hg i_K hown hK.va hI h_lo rfl 1 (by decide) (hK.use q_64 rfl) (fun _ h9 => h9) rfl d_D_pairVanishes_28 ?_
  refine lv_iload_n hx hb d_D_pairVanishes_31 rfl (lv_at hl 3 rfl) ?_
  refine mp_iald hx hb hK.va hI 0 h_hd rfl (vp_in_nI (show ii < 12 by omega) (by omega)) d_D_pairVanishes_32 ?_
  refine lv_topi (fun v9 ev9 => ?_)
  obtain rfl : v9 = nI (kT (h ii)) := ev9.trans (by rw [nI_clamp (by omega)]; exact ai.2.2.2.1)
  refine lv_isub hx hb d_D_pairVanishes_33 ?_
  refine lv_topi (fun v10 ev10 => ?_)
  obtain rfl : v10 = nI ((kT L) - (kT (h ii))) := ev10.trans (pk_sub (kT_le d1))
  refine lv_topi (fun v11 ev11 => ?_)
  obtain rfl : v11 = nI (kN t.1 t.2.1 t.2.2) := ev11.trans (by rw [et]; exact congrArg nI (kT_sb d1))
  obtain ⟨ay1, ay2, ay3⟩ := hY ii (by omega)
  have am := hB.2.2 ii hi
  have ak := lsB_add (t := t) (u := L) hB hi (by rw [et]; exact ad3_sb d1) hLp hM
  rw [← hN] at ak
  refine mp_callv hI (va_runV (As := [.ref (me ii), .int (nI 1), .int (nI (kN t.1 t.2.1 t.2.2))]) (rest := []) ⟨hx, hb, hml, hown, hg⟩ (c_D_addMultiple l D g S _ o ra (me ii) (mk ii) (mn ii) (300 + 3 * ii) (mcap ii) (mz ii) N t.1 t.2.1 t.2.2 1 (.ref ka) (mkf ii) (mnf ii) (fun j => (mo ii j).1) (fun j => (mo ii j).2.1) (fun j => (mo ii j).2.2) (fun j => (co ii j).val) (fun j => (zR j).val) h_o h_ra ay1 ay2 ay3 (by omega) ak.1 (by rw [am.1]; exact am.2.1) am.2.2.1 hN8 (by omega) (fun q => (zR q).isLt)) ⟨(callB_of 3 hg (wd_goodG q_338) rfl rfl rfl (hg _ q_20) (hg _ q_335) (by decide +kernel) ⟨Nat.le_of_ble_eq_true rfl, Nat.le_of_ble_eq_true rfl⟩), hg _ q_337, hg _ qs_2⟩ (mp_preV (C := R_D) (T := F_D) hI hK h_o rfl [.ref (me ii), .int (nI 1), .int (nI (kN t.1 t.2.1 t.2.2))]) rfl rfl hl.1 rfl (lv_room (Nat.le_of_ble_eq_true rfl)) d_D_pairVanishes_34 ⟨Nat.le_of_ble_eq_true rfl, Nat.le_of_ble_eq_true rfl⟩) (fun S12 H13 locs p_14 hI => ?_)
  obtain ⟨q_ra, fq⟩ := p_14
  have q_ra : S12 ra = some (12, .inl ((g 0), N, .inl (fun j => nI ((aR z mo co t ii 1 zR) j).val))) := by rw [← show fc 1 = 1 from fc_1, ← raN_fun (N := N) (z := mz ii) am.1 ak.2]; exact q_ra
  have h_o : S12 o = some (11, .inr (5, [.ref ra, .ref ka])) := (fq o (mp_in h_o) (mp_ne h_o h_ra (by omega))).trans h_o
  have h_ka : S12 ka = some (13, .inl ((g 0), N, .inl kp)) := (fq ka (mp_in h_ka) (mp_ne h_ka h_ra (by omega))).trans h_ka
  have h_lo : S12 lo = some (2, .inr (9, [.ref ma, .ref hd, .int (nI n)])) := (fq lo (mp_in h_lo) (mp_ne h_lo h_ra (by omega))).trans h_lo
  have h_ma : S12 ma = some (4, .inl ((g 2), 12, .inr (.inr (.inr (.inr (rfs me 12)))))) := (fq ma (mp_in h_ma) (mp_ne h_ma h_ra (by omega))).trans h_ma
  have h_hd : S12 hd = some (5, .inl ((g 0), 12, .inl hf)) := (fq hd (mp_in h_hd) (mp_ne h_hd h_ra (by omega))).trans h_hd
  have hfr : ∀ b t e9, S b = some (t, e9) → (t ≠ 12) → S12 b = some (t, e9) := fun b t e9 h9 k0 => by have h8 := hfr b t e9 h9 k0; exact (fq b (mp_in h8) (mp_ne h8 h_ra (by omega))).trans h8
  have hY := yS_kept hY (S1 := S12) (fun b t9 e9 hb9 h1 h2 => by have h8 : S12 b = some (t9, e9) := (fq b (mp_in hb9) (mp_ne hb9 h_ra (by omega))).trans hb9; rw [h8, hb9])
  have h_ra := q_ra
  refine lv_aload_n hx hb d_D_pairVanishes_37 rfl (lv_at hl 1 rfl) ?_
  refine lv_aload_n hx hb d_D_pairVanishes_38 rfl (lv_at hl 2 rfl) ?_
  refine mp_getN (C := R_K) (T := F_K) (N := 3) (v := .ref ma) hx hb hg i_K hown hK.va hI h_lo rfl 0 (by decide) (hK.use q_62 rfl) (fun _ h9 => h9) rfl d_D_pairVanishes_39 ?_
  refine lv_iload_n hx hb d_D_pairVanishes_42 rfl (lv_at hl 4 rfl) ?_
  refine mp_aldq (b := me jj) hx hb hK.va hI 2 h_ma rfl (vp_in_nI (show jj < 12 by omega) (by omega)) (by rw [nI_clamp (by omega)]; exact rfs_at (by omega)) d_D_pairVanishes_43 ?_
  refine lv_sipush (v := nI 32002) hx hb d_D_pairVanishes_44 (by decide) ?_
  refine lv_iload hx hb d_D_pairVanishes_47 (lv_at hl 0 rfl) ?_
  refine lv_aload_n hx hb d_D_pairVanishes_49 rfl (lv_at hl 2 rfl) ?_
  refine mp_getN (C := R_K) (T := F_K) (N := 3) (v := .ref hd) hx hb hg i_K hown hK.va hI h_lo rfl 1 (by decide) (hK.use q_64 rfl) (fun _ h9 => h9) rfl d_D_pairVanishes_50 ?_
  refine lv_iload_n hx hb d_D_pairVanishes_53 rfl (lv_at hl 4 rfl) ?_
  refine mp_iald hx hb hK.va hI 0 h_hd rfl (vp_in_nI (show jj < 12 by omega) (by omega)) d_D_pairVanishes_54 ?_
  refine lv_topi (fun v16 ev16 => ?_)
  obtain rfl : v16 = nI (kT (h jj)) := ev16.trans (by rw [nI_clamp (by omega)]; exact aj.2.2.2.1)
  refine lv_isub hx hb d_D_pairVanishes_55 ?_
  refine lv_topi (fun v17 ev17 => ?_)
  obtain rfl : v17 = nI ((kT L) - (kT (h jj))) := ev17.trans (pk_sub (kT_le d2))
  refine lv_topi (fun v18 ev18 => ?_)
  obtain rfl : v18 = nI (kN t2.1 t2.2.1 t2.2.2) := ev18.trans (by rw [et2]; exact congrArg nI (kT_sb d2))
  obtain ⟨by1, by2, by3⟩ := hY jj (by omega)
  have bm := hB.2.2 jj hj
  have bk := lsB_add (t := t2) (u := L) hB hj (by rw [et2]; exact ad3_sb d2) hLp hM
  rw [← hN] at bk
  refine mp_callv hI (va_runV (As := [.ref (me jj), .int (nI 32002), .int (nI (kN t2.1 t2.2.1 t2.2.2))]) (rest := []) ⟨hx, hb, hml, hown, hg⟩ (c_D_addMultiple l D g S12 _ o ra (me jj) (mk jj) (mn jj) (300 + 3 * jj) (mcap jj) (mz jj) N t2.1 t2.2.1 t2.2.2 32002 (.ref ka) (mkf jj) (mnf jj) (fun j => (mo jj j).1) (fun j => (mo jj j).2.1) (fun j => (mo jj j).2.2) (fun j => (co jj j).val) (fun j => ((aR z mo co t ii 1 zR) j).val) h_o h_ra by1 by2 by3 (by omega) bk.1 (by rw [bm.1]; exact bm.2.1) bm.2.2.1 hN8 (by omega) (fun q => ((aR z mo co t ii 1 zR) q).isLt)) ⟨(callB_of 3 hg (wd_goodG q_338) rfl rfl rfl (hg _ q_20) (hg _ q_335) (by decide +kernel) ⟨Nat.le_of_ble_eq_true rfl, Nat.le_of_ble_eq_true rfl⟩), hg _ q_337, hg _ qs_2⟩ (mp_preV (C := R_D) (T := F_D) hI hK h_o rfl [.ref (me jj), .int (nI 32002), .int (nI (kN t2.1 t2.2.1 t2.2.2))]) rfl rfl hl.1 rfl (lv_room (Nat.le_of_ble_eq_true rfl)) d_D_pairVanishes_56 ⟨Nat.le_of_ble_eq_true rfl, Nat.le_of_ble_eq_true rfl⟩) (fun S19 H20 locs p_21 hI => ?_)
  obtain ⟨q_ra, fq⟩ := p_21
  have q_ra : S19 ra = some (12, .inl ((g 0), N, .inl (fun j => nI ((aR z mo co t2 jj (-1) (aR z mo co t ii 1 zR)) j).val))) := by rw [← show fc 32002 = -1 from fc_m1, ← raN_fun (N := N) (z := mz jj) bm.1 bk.2]; exact q_ra
  have h_o : S19 o = some (11, .inr (5, [.ref ra, .ref ka])) := (fq o (mp_in h_o) (mp_ne h_o h_ra (by omega))).trans h_o
  have h_ka : S19 ka = some (13, .inl ((g 0), N, .inl kp)) := (fq ka (mp_in h_ka) (mp_ne h_ka h_ra (by omega))).trans h_ka
  have h_lo : S19 lo = some (2, .inr (9, [.ref ma, .ref hd, .int (nI n)])) := (fq lo (mp_in h_lo) (mp_ne h_lo h_ra (by omega))).trans h_lo
  have h_ma : S19 ma = some (4, .inl ((g 2), 12, .inr (.inr (.inr (.inr (rfs me 12)))))) := (fq ma (mp_in h_ma) (mp_ne h_ma h_ra (by omega))).trans h_ma
  have h_hd : S19 hd = some (5, .inl ((g 0), 12, .inl hf)) := (fq hd (mp_in h_hd) (mp_ne h_hd h_ra (by omega))).trans h_hd
  have hfr : ∀ b t e9, S b = some (t, e9) → (t ≠ 12) → S19 b = some (t, e9) := fun b t e9 h9 k0 => by have h8 := hfr b t e9 h9 k0; exact (fq b (mp_in h8) (mp_ne h8 h_ra (by omega))).trans h8
  have hY := yS_kept hY (S1 := S19) (fun b t9 e9 hb9 h1 h2 => by have h8 : S19 b = some (t9, e9) := (fq b (mp_in hb9) (mp_ne hb9 h_ra (by omega))).trans hb9; rw [h8, hb9])
  have h_ra := q_ra
  refine lv_iload hx hb d_D_pairVanishes_59 (lv_at hl 0 rfl) ?_
  refine mp_calli hI (va_runS (As := [.int (nI (kT L))]) (rest := []) ⟨hx, hb, hml, hown, hg⟩ (c_W_place l D g S19 _ L.1 L.2.1 L.2.2 (by omega) (by omega) (by omega)) ⟨(callB_of 1 hg (wd_goodG q_341) rfl rfl rfl (hg _ q_11) (hg _ q_339) (by decide +kernel) ⟨Nat.le_of_ble_eq_true rfl, Nat.le_of_ble_eq_true rfl⟩), hg _ q_340⟩ (mp_pre hI hK [.int (nI (kT L))]) rfl rfl hl.1 rfl (lv_room (Nat.le_of_ble_eq_true rfl)) d_D_pairVanishes_61 ⟨Nat.le_of_ble_eq_true rfl, Nat.le_of_ble_eq_true rfl⟩) (fun r26 S23 H24 locs p_25 hI => ?_)
  obtain ⟨er26, eS27⟩ := p_25
  rw [eS27] at hI
  have er26 : r26 = nI (plN L.1 L.2.1 L.2.2) := er26
  subst er26
  refine lv_topi (fun v28 ev28 => ?_)
  obtain rfl : v28 = nI (pl3 L) := ev28.trans (rfl)
  obtain ⟨R0, eR0⟩ : ∃ R0, R0 = aR z mo co t2 jj (-1) (aR z mo co t ii 1 zR) := ⟨_, rfl⟩
  rw [← eR0] at h_ra
  refine lv_istore (lv' := [(5, .int (nI (pl3 L))), (4, .int (nI (kT L))), (0, .ref o), (1, .ref lo), (2, .int (nI ii)), (3, .int (nI jj))]) hx hb d_D_pairVanishes_64 hl (by decide) rfl (fun ls hl => ?_)
  refine lv_aload_n hx hb d_D_pairVanishes_66 rfl (lv_at hl 2 rfl) ?_
  refine lv_aload_n hx hb d_D_pairVanishes_67 rfl (lv_at hl 3 rfl) ?_
  refine lv_iload hx hb d_D_pairVanishes_68 (lv_at hl 0 rfl) ?_
  refine lv_iconst (v := nI 1) hx hb d_D_pairVanishes_70 (by decide) ?_
  refine mp_calli hI (va_runV (As := [.ref lo, .int (nI (pl3 L)), .int (nI 1)]) (rest := []) ⟨hx, hb, hml, hown, hg⟩ (c_D_reduce l D g S19 _ o ra ka lo ma hd n N M me mk mn mcap mz mkf mnf hf kp h z mo co R0 (pl3 L) (nI 1) h_o h_ra h_ka h_lo h_ma h_hd hY hB hFL hN hM hN8 (by omega)) ⟨(callB_of 3 hg (wd_goodG q_345) rfl rfl rfl (hg _ q_20) (hg _ q_342) (by decide +kernel) ⟨Nat.le_of_ble_eq_true rfl, Nat.le_of_ble_eq_true rfl⟩), hg _ q_344, hg _ qs_3⟩ (mp_preV (C := R_D) (T := F_D) hI hK h_o rfl [.ref lo, .int (nI (pl3 L)), .int (nI 1)]) rfl rfl hl.1 rfl (lv_room (Nat.le_of_ble_eq_true rfl)) d_D_pairVanishes_71 ⟨Nat.le_of_ble_eq_true rfl, Nat.le_of_ble_eq_true rfl⟩) (fun r32 S29 H30 locs p_31 hI => ?_)
  obtain ⟨R1, q_ra, hhi, _, hrr, fq⟩ := p_31
  have hrr := hrr (by decide)
  have h_o : S29 o = some (11, .inr (5, [.ref ra, .ref ka])) := fq o _ _ h_o (by omega)
  have h_ka : S29 ka = some (13, .inl ((g 0), N, .inl kp)) := fq ka _ _ h_ka (by omega)
  have h_lo : S29 lo = some (2, .inr (9, [.ref ma, .ref hd, .int (nI n)])) := fq lo _ _ h_lo (by omega)
  have h_ma : S29 ma = some (4, .inl ((g 2), 12, .inr (.inr (.inr (.inr (rfs me 12)))))) := fq ma _ _ h_ma (by omega)
  have h_hd : S29 hd = some (5, .inl ((g 0), 12, .inl hf)) := fq hd _ _ h_hd (by omega)
  have hfr : ∀ b t e9, S b = some (t, e9) → (t ≠ 12) → S29 b = some (t, e9) := fun b t e9 h9 k0 => by have h8 := hfr b t e9 h9 k0; exact fq b _ _ h8 (by omega)
  have hY := yS_kept hY (S1 := S29) (fun b t9 e9 hb9 h1 h2 => by have h8 : S29 b = some (t9, e9) := fq b _ _ hb9 (by omega); rw [h8, hb9])
  have h_ra := q_ra
  refine lv_istore (lv' := [(6, .int r32), (5, .int (nI (pl3 L))), (4, .int (nI (kT L))), (0, .ref o), (1, .ref lo), (2, .int (nI ii)), (3, .int (nI jj))]) hx hb d_D_pairVanishes_74 hl (by decide) rfl (fun ls hl => ?_)
  refine lv_aload_n hx hb d_D_pairVanishes_76 rfl (lv_at hl 3 rfl) ?_
  refine lv_iload hx hb d_D_pairVanishes_77 (lv_at hl 1 rfl) ?_
  refine mp_callv hI (va_runV (As := [.int (nI (pl3 L))]) (rest := []) ⟨hx, hb, hml, hown, hg⟩ (c_D_wipe l D g S29 _ o ra N (pl3 L) (.ref ka) R1 h_o h_ra (by omega) hN8) ⟨(callB_of 1 hg (wd_goodG q_357) rfl rfl rfl (hg _ q_20) (hg _ q_354) (by decide +kernel) ⟨Nat.le_of_ble_eq_true rfl, Nat.le_of_ble_eq_true rfl⟩), hg _ q_356, hg _ qs_4⟩ (mp_preV (C := R_D) (T := F_D) hI hK h_o rfl [.int (nI (pl3 L))]) rfl rfl hl.1 rfl (lv_room (Nat.le_of_ble_eq_true rfl)) d_D_pairVanishes_79 ⟨Nat.le_of_ble_eq_true rfl, Nat.le_of_ble_eq_true rfl⟩) (fun S33 H34 locs p_35 hI => ?_)
  obtain ⟨q_ra, fq⟩ := p_35
  have hR0 : ∀ q, pl3 L < q → R1 q = 0 := fun q hq => by rw [hhi q hq, eR0, aR_hi hB.1 hj (by rw [et2, ad3_sb d2]; exact hq), aR_hi hB.1 hi (by rw [et, ad3_sb d1]; exact hq)]; rfl
  rw [wpF_z hR0] at q_ra
  have h_o : S33 o = some (11, .inr (5, [.ref ra, .ref ka])) := fq o _ _ h_o (by omega)
  have h_ka : S33 ka = some (13, .inl ((g 0), N, .inl kp)) := fq ka _ _ h_ka (by omega)
  have h_lo : S33 lo = some (2, .inr (9, [.ref ma, .ref hd, .int (nI n)])) := fq lo _ _ h_lo (by omega)
  have h_ma : S33 ma = some (4, .inl ((g 2), 12, .inr (.inr (.inr (.inr (rfs me 12)))))) := fq ma _ _ h_ma (by omega)
  have h_hd : S33 hd = some (5, .inl ((g 0), 12, .inl hf)) := fq hd _ _ h_hd (by omega)
  have hfr : ∀ b t e9, S b = some (t, e9) → (t ≠ 12) → S33 b = some (t, e9) := fun b t e9 h9 k0 => by have h8 := hfr b t e9 h9 k0; exact fq b _ _ h8 (by omega)
  have hY := yS_kept hY (S1 := S33) (fun b t9 e9 hb9 h1 h2 => by have h8 : S33 b = some (t9, e9) := fq b _ _ hb9 (by omega); rw [h8, hb9])
  have h_ra := q_ra
  refine lv_iload hx hb d_D_pairVanishes_82 (lv_at hl 0 rfl) ?_
  have hpv : pvN n h z mo co ii jj ↔ ∀ q, q < pl3 L + 1 → rd n h z mo co (pl3 L + 1) R0 q = 0 := by rw [eR0, et, et2, eL]; rfl
  refine mp_zret hx hb hr hlocks hI (Nat.le_of_ble_eq_true rfl) (Nat.le_of_ble_eq_true rfl) ?_ (by rcases hrr with ⟨k1, _⟩ | ⟨k1, _⟩ <;> rw [k1] <;> decide) d_D_pairVanishes_84
  exact ⟨h_ra, by rcases hrr with ⟨k1, k2⟩ | ⟨k1, q, k2, k3⟩; exact Or.inl ⟨k1, hpv.mpr k2⟩; exact Or.inr ⟨k1, fun w9 => k3 (hpv.mp w9 q k2)⟩, hfr⟩
set_option maxHeartbeats 4000000 in
set_option maxRecDepth 100000 in
theorem lp_D_basisI {p : Program} {l : Launch} {e : Env} {R : Room} {s : State} {m : MethodId} {args : Array Value} {below : List Frame} {meth : Method} {c : Code} {Q : State → Prop} {D : mp_G} {g : Nat → ClassId} {A : Nat → Prop} {cells slots : Nat} (hx : p.tables.exec = Jvm.exec) (hb : c.code = b_D_isBasis) (hml : c.maxLocals = 4) (hg : ∀ w ∈ gw, w.before args s = true) (hown : s.vm.findClass R_D = some m.cls) (hK : mp_K D classes (tys g) s) (hRf : 4 ≤ R.frames) (hRl : 101 ≤ R.locals) (hRc : cells ≤ R.cells) (hRs : slots ≤ R.slots) {B : mp_M} {o ra ka lo ma hd n N M : Nat} {me mk mn mcap mz : Nat → Nat} {mkf mnf : Nat → Nat → Int32} {hf kp : Nat → Int32} {h : Nat → m3} {z : Nat → Nat} {mo : Nat → Nat → m3} {co : Nat → Nat → fF} {ii : Nat} (hB : lsB n h z mo co mcap mz mkf mnf hf) (hFL : FL kp N) (hN : N = tr3 (M + 1)) (hM : M ≤ 27) (hN8 : N ≤ 8000) (nl : Nat) (hnl : nl ≤ 3) (hn1 : 1 ≤ nl) (hMn : M = 9 * nl) (hIn : ∀ i, i < n → InL nl (h i)) (hi9 : ii < n) : ∀ (k : Nat) (jj : Nat) (S : mp_M) (H : Heap) (locs : List Loc) (ls : Array Slot), ii < jj ∧ jj + k = n → (∀ j9, ii < j9 → j9 < jj → sh3 (h ii) (h j9) → pvN n h z mo co ii j9) → S o = some (11, .inr (5, [.ref ra, .ref ka])) → S ra = some (12, .inl ((g 0), N, .inl (fun j => nI (zR j).val))) → S ka = some (13, .inl ((g 0), N, .inl kp)) → S lo = some (2, .inr (9, [.ref ma, .ref hd, .int (nI n)])) → S ma = some (4, .inl ((g 2), 12, .inr (.inr (.inr (.inr (rfs me 12)))))) → S hd = some (5, .inl ((g 0), 12, .inl hf)) → (yS g 300 12 me mk mn mcap mz mkf mnf S) → (∀ b t e9, B b = some (t, e9) → (t ≠ 12) → S b = some (t, e9)) → mp_I D classes A s.heap S H locs → lv_has ls 4 [(3, .int (nI jj)), (2, .int (nI ii)), (1, .ref lo), (0, .ref o)] → (∀ (S : mp_M) (H : Heap) (locs : List Loc) (ls : Array Slot), (∀ j9, ii < j9 → j9 < n → sh3 (h ii) (h j9) → pvN n h z mo co ii j9) → S o = some (11, .inr (5, [.ref ra, .ref ka])) → S ra = some (12, .inl ((g 0), N, .inl (fun j => nI (zR j).val))) → S ka = some (13, .inl ((g 0), N, .inl kp)) → S lo = some (2, .inr (9, [.ref ma, .ref hd, .int (nI n)])) → S ma = some (4, .inl ((g 2), 12, .inr (.inr (.inr (.inr (rfs me 12)))))) → S hd = some (5, .inl ((g 0), 12, .inl hf)) → (yS g 300 12 me mk mn mcap mz mkf mnf S) → (∀ b t e9, B b = some (t, e9) → (t ≠ 12) → S b = some (t, e9)) → mp_I D classes A s.heap S H locs → lv_has ls 4 [(3, .int (nI n)), (2, .int (nI ii)), (1, .ref lo), (0, .ref o)] → W p l e R s m args below meth c H locs cells slots Q (F0 m 58 ls [])) → (∀ (S : mp_M) (H : Heap) (locs : List Loc) (ls : Array Slot), ((¬ bas n h z mo co)) → S o = some (11, .inr (5, [.ref ra, .ref ka])) → S ra = some (12, .inl ((g 0), N, .inl (fun j => nI (zR j).val))) → S ka = some (13, .inl ((g 0), N, .inl kp)) → S lo = some (2, .inr (9, [.ref ma, .ref hd, .int (nI n)])) → S ma = some (4, .inl ((g 2), 12, .inr (.inr (.inr (.inr (rfs me 12)))))) → S hd = some (5, .inl ((g 0), 12, .inl hf)) → (yS g 300 12 me mk mn mcap mz mkf mnf S) → (∀ b t e9, B b = some (t, e9) → (t ≠ 12) → S b = some (t, e9)) → mp_I D classes A s.heap S H locs → lv_has ls 4 [(0, .ref o)] → W p l e R s m args below meth c H locs cells slots Q (F0 m 50 ls [])) → W p l e R s m args below meth c H locs cells slots Q (F0 m 14 ls []) := by
  intro k
  induction k with
  | zero =>
    intro jj S H locs ls hi hdn h_o h_ra h_ka h_lo h_ma h_hd hY hfr hI hl kx ky
    have hn12 := hB.2.1
    obtain ⟨hi8, hi⟩ := hi
    refine lv_iload_n hx hb d_D_isBasis_14 rfl (lv_at hl 0 rfl) ?_
    refine lv_aload_n hx hb d_D_isBasis_15 rfl (lv_at hl 2 rfl) ?_
    refine mp_getN (C := R_K) (T := F_K) (N := 3) (v := .int (nI n)) hx hb hg i_K hown hK.va hI h_lo rfl 2 (by decide) (hK.use q_65 rfl) (fun _ h9 => h9) rfl d_D_isBasis_16 ?_
    refine lv_icmp_ge (tgt := 58) hx hb d_D_isBasis_19 (by decide) (fun _ => ?_) (fun h9 => absurd ((nI_leI (by omega) (by omega)).mpr (by omega)) h9)
    obtain rfl : jj = n := by omega
    exact kx S H locs ls hdn h_o h_ra h_ka h_lo h_ma h_hd hY hfr hI (lv_sub hl [0, 1, 2, 3] rfl)
  | succ k ih =>
    intro jj S H locs ls hi hdn h_o h_ra h_ka h_lo h_ma h_hd hY hfr hI hl kx ky
    obtain ⟨hi8, hi⟩ := hi
    have hn12 := hB.2.1
    refine lv_iload_n hx hb d_D_isBasis_14 rfl (lv_at hl 0 rfl) ?_
    refine lv_aload_n hx hb d_D_isBasis_15 rfl (lv_at hl 2 rfl) ?_
    refine mp_getN (C := R_K) (T := F_K) (N := 3) (v := .int (nI n)) hx hb hg i_K hown hK.va hI h_lo rfl 2 (by decide) (hK.use q_65 rfl) (fun _ h9 => h9) rfl d_D_isBasis_16 ?_
    refine lv_icmp_ge (tgt := 58) hx hb d_D_isBasis_19 (by decide) (fun h9 => absurd h9 (by rw [nI_leI (by omega) (by omega)]; omega)) (fun _ => ?_)
    have ai := hB.2.2 ii hi9
    have aj := hB.2.2 jj (by omega)
    obtain ⟨ei1, ei2, ei3⟩ := ai.2.2.2.2.1
    obtain ⟨ej1, ej2, ej3⟩ := aj.2.2.2.2.1
    refine lv_aload_n hx hb d_D_isBasis_22 rfl (lv_at hl 2 rfl) ?_
    refine mp_getN (C := R_K) (T := F_K) (N := 3) (v := .ref hd) hx hb hg i_K hown hK.va hI h_lo rfl 1 (by decide) (hK.use q_64 rfl) (fun _ h9 => h9) rfl d_D_isBasis_23 ?_
    refine lv_iload_n hx hb d_D_isBasis_26 rfl (lv_at hl 1 rfl) ?_
    refine mp_iald hx hb hK.va hI 0 h_hd rfl (vp_in_nI (show ii < 12 by omega) (by omega)) d_D_isBasis_27 ?_
    refine lv_topi (fun v1 ev1 => ?_)
    obtain rfl : v1 = nI (kN (h ii).1 (h ii).2.1 (h ii).2.2) := ev1.trans (by rw [nI_clamp (by omega)]; exact ai.2.2.2.1)
    refine lv_aload_n hx hb d_D_isBasis_28 rfl (lv_at hl 2 rfl) ?_
    refine mp_getN (C := R_K) (T := F_K) (N := 3) (v := .ref hd) hx hb hg i_K hown hK.va hI h_lo rfl 1 (by decide) (hK.use q_64 rfl) (fun _ h9 => h9) rfl d_D_isBasis_29 ?_
    refine lv_iload_n hx hb d_D_isBasis_32 rfl (lv_at hl 0 rfl) ?_
    refine mp_iald hx hb hK.va hI 0 h_hd rfl (vp_in_nI (show jj < 12 by omega) (by omega)) d_D_isBasis_33 ?_
    refine lv_topi (fun v2 ev2 => ?_)
    obtain rfl : v2 = nI (kN (h jj).1 (h jj).2.1 (h jj).2.2) := ev2.trans (by rw [nI_clamp (by omega)]; exact aj.2.2.2.1)
    refine mp_calli hI (va_runS (As := [.int (nI (kN (h ii).1 (h ii).2.1 (h ii).2.2)), .int (nI (kN (h jj).1 (h jj).2.1 (h jj).2.2))]) (rest := []) ⟨hx, hb, hml, hown, hg⟩ (c_W_shareLetter l D g S _ (h ii).1 (h ii).2.1 (h ii).2.2 (h jj).1 (h jj).2.1 (h jj).2.2 (by omega) (by omega) (by omega) (by omega) (by omega) (by omega)) ⟨(callB_of 2 hg (wd_goodG q_323) rfl rfl rfl (hg _ q_11) (hg _ q_321) (by decide +kernel) ⟨Nat.le_trans (Nat.le_of_ble_eq_true rfl) hRf, Nat.le_trans (Nat.le_of_ble_eq_true rfl) hRl⟩), hg _ q_322⟩ (mp_pre hI hK [.int (nI (kN (h ii).1 (h ii).2.1 (h ii).2.2)), .int (nI (kN (h jj).1 (h jj).2.1 (h jj).2.2))]) rfl rfl hl.1 rfl (lv_room (Nat.le_of_ble_eq_true rfl)) d_D_isBasis_34 ⟨by omega, by omega⟩) (fun r6 S3 H4 locs p_5 hI => ?_)
    obtain ⟨er6, eS7⟩ := p_5
    rw [eS7] at hI
    have er6 : (sh3 (h ii) (h jj) ∧ r6 = 1) ∨ (¬ sh3 (h ii) (h jj) ∧ r6 = 0) := by by_cases q : sh3 (h ii) (h jj); exact Or.inl ⟨q, er6.trans (if_pos q)⟩; exact Or.inr ⟨q, er6.trans (if_neg q)⟩
    rcases er6 with ⟨hsh, rfl⟩ | ⟨hsh, rfl⟩
    · refine lv_if_eq (tgt := 52) hx hb d_D_isBasis_37 (by decide) (fun h9 => absurd h9 (by decide)) (fun _ => ?_)
      refine lv_aload_n hx hb d_D_isBasis_40 rfl (lv_at hl 3 rfl) ?_
      refine lv_aload_n hx hb d_D_isBasis_41 rfl (lv_at hl 2 rfl) ?_
      refine lv_iload_n hx hb d_D_isBasis_42 rfl (lv_at hl 1 rfl) ?_
      refine lv_iload_n hx hb d_D_isBasis_43 rfl (lv_at hl 0 rfl) ?_
      refine mp_calli hI (va_runV (As := [.ref lo, .int (nI ii), .int (nI jj)]) (rest := []) ⟨hx, hb, hml, hown, hg⟩ (c_D_pairVanishes l D g S _ o ra ka lo ma hd n N M me mk mn mcap mz mkf mnf hf kp h z mo co ii jj h_o h_ra h_ka h_lo h_ma h_hd hY hB hFL hN hM hN8 nl hnl hn1 hMn hIn hi9 (by omega)) ⟨(callB_of 3 hg (wd_goodG q_333) rfl rfl rfl (hg _ q_20) (hg _ q_330) (by decide +kernel) ⟨Nat.le_trans (Nat.le_of_ble_eq_true rfl) hRf, Nat.le_trans (Nat.le_of_ble_eq_true rfl) hRl⟩), hg _ q_332, hg _ qs_1⟩ (mp_preV (C := R_D) (T := F_D) hI hK h_o rfl [.ref lo, .int (nI ii), .int (nI jj)]) rfl rfl hl.1 rfl (lv_room (Nat.le_of_ble_eq_true rfl)) d_D_isBasis_44 ⟨by omega, by omega⟩) (fun r11 S8 H9 locs p_10 hI => ?_)
      obtain ⟨q_ra, hpv, fq⟩ := p_10
      have h_o : S8 o = some (11, .inr (5, [.ref ra, .ref ka])) := fq o _ _ h_o (by omega)
      have h_ka : S8 ka = some (13, .inl ((g 0), N, .inl kp)) := fq ka _ _ h_ka (by omega)
      have h_lo : S8 lo = some (2, .inr (9, [.ref ma, .ref hd, .int (nI n)])) := fq lo _ _ h_lo (by omega)
      have h_ma : S8 ma = some (4, .inl ((g 2), 12, .inr (.inr (.inr (.inr (rfs me 12)))))) := fq ma _ _ h_ma (by omega)
      have h_hd : S8 hd = some (5, .inl ((g 0), 12, .inl hf)) := fq hd _ _ h_hd (by omega)
      have hfr : ∀ b t e9, B b = some (t, e9) → (t ≠ 12) → S8 b = some (t, e9) := fun b t e9 h9 k0 => by have h8 := hfr b t e9 h9 k0; exact fq b _ _ h8 (by omega)
      have hY := yS_kept hY (S1 := S8) (fun b t9 e9 hb9 h1 h2 => by have h8 : S8 b = some (t9, e9) := fq b _ _ hb9 (by omega); rw [h8, hb9])
      have h_ra := q_ra
      rcases hpv with ⟨rfl, hpv⟩ | ⟨rfl, hpv⟩
      · refine lv_if_ne (tgt := 52) hx hb d_D_isBasis_47 (by decide) (fun _ => ?_) (fun h9 => absurd h9 (by decide))
        refine lv_iinc (v := nI (jj + 1)) (lv' := [(3, .int (nI (jj + 1))), (2, .int (nI ii)), (1, .ref lo), (0, .ref o)]) hx hb d_D_isBasis_52 hl (k := 0) rfl (nI_1 _) (by decide) rfl (fun ls hl => ?_)
        refine lv_goto (tgt := 14) hx hb d_D_isBasis_55 (by decide) ?_
        exact ih (jj + 1) S8 H9 locs ls ⟨by omega, by omega⟩ (fun j9 h1 h2 h3 => by by_cases e : j9 = jj; exact (by rw [e]; exact hpv); exact hdn j9 h1 (by omega) h3) h_o h_ra h_ka h_lo h_ma h_hd hY hfr hI (lv_sub hl [0, 1, 2, 3] rfl) kx ky
      · refine lv_if_ne (tgt := 52) hx hb d_D_isBasis_47 (by decide) (fun h9 => absurd h9 (by decide)) (fun _ => ?_)
        exact ky S8 H9 locs ls (fun q9 => hpv (q9 ii jj (by omega) (by omega) hsh)) h_o h_ra h_ka h_lo h_ma h_hd hY hfr hI (lv_sub hl [3] rfl)
    · refine lv_if_eq (tgt := 52) hx hb d_D_isBasis_37 (by decide) (fun _ => ?_) (fun h9 => absurd (by decide) h9)
      refine lv_iinc (v := nI (jj + 1)) (lv' := [(3, .int (nI (jj + 1))), (2, .int (nI ii)), (1, .ref lo), (0, .ref o)]) hx hb d_D_isBasis_52 hl (k := 0) rfl (nI_1 _) (by decide) rfl (fun ls hl => ?_)
      refine lv_goto (tgt := 14) hx hb d_D_isBasis_55 (by decide) ?_
      exact ih (jj + 1) S H4 locs ls ⟨by omega, by omega⟩ (fun j9 h1 h2 h3 => by by_cases e : j9 = jj; exact absurd (by rw [← e]; exact h3) hsh; exact hdn j9 h1 (by omega) h3) h_o h_ra h_ka h_lo h_ma h_hd hY hfr hI (lv_sub hl [0, 1, 2, 3] rfl) kx ky
set_option maxHeartbeats 4000000 in
set_option maxRecDepth 100000 in
theorem lp_D_basisO {p : Program} {l : Launch} {e : Env} {R : Room} {s : State} {m : MethodId} {args : Array Value} {below : List Frame} {meth : Method} {c : Code} {Q : State → Prop} {D : mp_G} {g : Nat → ClassId} {A : Nat → Prop} {cells slots : Nat} (hx : p.tables.exec = Jvm.exec) (hb : c.code = b_D_isBasis) (hml : c.maxLocals = 4) (hg : ∀ w ∈ gw, w.before args s = true) (hown : s.vm.findClass R_D = some m.cls) (hK : mp_K D classes (tys g) s) (hRf : 4 ≤ R.frames) (hRl : 101 ≤ R.locals) (hRc : cells ≤ R.cells) (hRs : slots ≤ R.slots) {B : mp_M} {o ra ka lo ma hd n N M : Nat} {me mk mn mcap mz : Nat → Nat} {mkf mnf : Nat → Nat → Int32} {hf kp : Nat → Int32} {h : Nat → m3} {z : Nat → Nat} {mo : Nat → Nat → m3} {co : Nat → Nat → fF} (hB : lsB n h z mo co mcap mz mkf mnf hf) (hFL : FL kp N) (hN : N = tr3 (M + 1)) (hM : M ≤ 27) (hN8 : N ≤ 8000) (nl : Nat) (hnl : nl ≤ 3) (hn1 : 1 ≤ nl) (hMn : M = 9 * nl) (hIn : ∀ i, i < n → InL nl (h i)) : ∀ (k : Nat) (ii : Nat) (S : mp_M) (H : Heap) (locs : List Loc) (ls : Array Slot), ii + k = n → (∀ a9 b9, a9 < b9 → b9 < n → a9 < ii → sh3 (h a9) (h b9) → pvN n h z mo co a9 b9) → S o = some (11, .inr (5, [.ref ra, .ref ka])) → S ra = some (12, .inl ((g 0), N, .inl (fun j => nI (zR j).val))) → S ka = some (13, .inl ((g 0), N, .inl kp)) → S lo = some (2, .inr (9, [.ref ma, .ref hd, .int (nI n)])) → S ma = some (4, .inl ((g 2), 12, .inr (.inr (.inr (.inr (rfs me 12)))))) → S hd = some (5, .inl ((g 0), 12, .inl hf)) → (yS g 300 12 me mk mn mcap mz mkf mnf S) → (∀ b t e9, B b = some (t, e9) → (t ≠ 12) → S b = some (t, e9)) → mp_I D classes A s.heap S H locs → lv_has ls 4 [(2, .int (nI ii)), (1, .ref lo), (0, .ref o)] → (∀ (S : mp_M) (H : Heap) (locs : List Loc) (ls : Array Slot), (∀ a9 b9, a9 < b9 → b9 < n → a9 < n → sh3 (h a9) (h b9) → pvN n h z mo co a9 b9) → S o = some (11, .inr (5, [.ref ra, .ref ka])) → S ra = some (12, .inl ((g 0), N, .inl (fun j => nI (zR j).val))) → S ka = some (13, .inl ((g 0), N, .inl kp)) → S lo = some (2, .inr (9, [.ref ma, .ref hd, .int (nI n)])) → S ma = some (4, .inl ((g 2), 12, .inr (.inr (.inr (.inr (rfs me 12)))))) → S hd = some (5, .inl ((g 0), 12, .inl hf)) → (yS g 300 12 me mk mn mcap mz mkf mnf S) → (∀ b t e9, B b = some (t, e9) → (t ≠ 12) → S b = some (t, e9)) → mp_I D classes A s.heap S H locs → lv_has ls 4 [(2, .int (nI n)), (1, .ref lo), (0, .ref o)] → W p l e R s m args below meth c H locs cells slots Q (F0 m 64 ls [])) → (∀ (S : mp_M) (H : Heap) (locs : List Loc) (ls : Array Slot), ((¬ bas n h z mo co)) → S o = some (11, .inr (5, [.ref ra, .ref ka])) → S ra = some (12, .inl ((g 0), N, .inl (fun j => nI (zR j).val))) → S ka = some (13, .inl ((g 0), N, .inl kp)) → S lo = some (2, .inr (9, [.ref ma, .ref hd, .int (nI n)])) → S ma = some (4, .inl ((g 2), 12, .inr (.inr (.inr (.inr (rfs me 12)))))) → S hd = some (5, .inl ((g 0), 12, .inl hf)) → (yS g 300 12 me mk mn mcap mz mkf mnf S) → (∀ b t e9, B b = some (t, e9) → (t ≠ 12) → S b = some (t, e9)) → mp_I D classes A s.heap S H locs → lv_has ls 4 [(0, .ref o)] → W p l e R s m args below meth c H locs cells slots Q (F0 m 50 ls [])) → W p l e R s m args below meth c H locs cells slots Q (F0 m 2 ls []) := by
  intro k
  induction k with
  | zero =>
    intro ii S H locs ls hi hdo h_o h_ra h_ka h_lo h_ma h_hd hY hfr hI hl kx ky
    have hn12 := hB.2.1
    refine lv_iload_n hx hb d_D_isBasis_2 rfl (lv_at hl 0 rfl) ?_
    refine lv_aload_n hx hb d_D_isBasis_3 rfl (lv_at hl 1 rfl) ?_
    refine mp_getN (C := R_K) (T := F_K) (N := 3) (v := .int (nI n)) hx hb hg i_K hown hK.va hI h_lo rfl 2 (by decide) (hK.use q_65 rfl) (fun _ h9 => h9) rfl d_D_isBasis_4 ?_
    refine lv_icmp_ge (tgt := 64) hx hb d_D_isBasis_7 (by decide) (fun _ => ?_) (fun h9 => absurd ((nI_leI (by omega) (by omega)).mpr (by omega)) h9)
    obtain rfl : ii = n := by omega
    exact kx S H locs ls hdo h_o h_ra h_ka h_lo h_ma h_hd hY hfr hI (lv_sub hl [0, 1, 2] rfl)
  | succ k ih =>
    intro ii S H locs ls hi hdo h_o h_ra h_ka h_lo h_ma h_hd hY hfr hI hl kx ky
    have hn12 := hB.2.1
    refine lv_iload_n hx hb d_D_isBasis_2 rfl (lv_at hl 0 rfl) ?_
    refine lv_aload_n hx hb d_D_isBasis_3 rfl (lv_at hl 1 rfl) ?_
    refine mp_getN (C := R_K) (T := F_K) (N := 3) (v := .int (nI n)) hx hb hg i_K hown hK.va hI h_lo rfl 2 (by decide) (hK.use q_65 rfl) (fun _ h9 => h9) rfl d_D_isBasis_4 ?_
    refine lv_icmp_ge (tgt := 64) hx hb d_D_isBasis_7 (by decide) (fun h9 => absurd h9 (by rw [nI_leI (by omega) (by omega)]; omega)) (fun _ => ?_)
    refine lv_iload_n hx hb d_D_isBasis_10 rfl (lv_at hl 0 rfl) ?_
    refine lv_iconst (v := nI 1) hx hb d_D_isBasis_11 (by decide) ?_
    refine lv_iadd hx hb d_D_isBasis_12 ?_
    refine lv_topi (fun v1 ev1 => ?_)
    obtain rfl : v1 = nI (ii + 1) := ev1.trans (nI_add _ _)
    refine lv_istore_n (lv' := [(3, .int (nI (ii + 1))), (2, .int (nI ii)), (1, .ref lo), (0, .ref o)]) hx hb d_D_isBasis_13 rfl hl (by decide) rfl (fun ls hl => ?_)
    refine lp_D_basisI (B := B) (o := o) (ra := ra) (ka := ka) (lo := lo) (ma := ma) (hd := hd) (n := n) (N := N) (M := M) (me := me) (mk := mk) (mn := mn) (mcap := mcap) (mz := mz) (mkf := mkf) (mnf := mnf) (hf := hf) (kp := kp) (h := h) (z := z) (mo := mo) (co := co) (ii := ii) hx hb hml hg hown hK (Nat.le_trans (Nat.le_of_ble_eq_true rfl) hRf) (Nat.le_trans (Nat.le_of_ble_eq_true rfl) hRl) (by omega) (by omega) hB hFL hN hM hN8 nl hnl hn1 hMn hIn (by omega) (n - (ii + 1)) (ii + 1) S H _ ls ⟨by omega, by omega⟩ (fun j9 h1 h2 => absurd h1 (by omega)) h_o h_ra h_ka h_lo h_ma h_hd hY hfr hI (lv_sub hl [0, 1, 2, 3] rfl) (fun S2 H3 locs ls hdi j_o j_ra j_ka j_lo j_ma j_hd hY hfr hI hl => ?_) (fun S9 H9 locs ls hno j_o j_ra j_ka j_lo j_ma j_hd hY hfr hI hl => ky S9 H9 locs ls hno j_o j_ra j_ka j_lo j_ma j_hd hY hfr hI hl)
    refine lv_iinc (v := nI (ii + 1)) (lv' := [(2, .int (nI (ii + 1))), (3, .int (nI n)), (1, .ref lo), (0, .ref o)]) hx hb d_D_isBasis_58 hl (k := 1) rfl (nI_1 _) (by decide) rfl (fun ls hl => ?_)
    refine lv_goto (tgt := 2) hx hb d_D_isBasis_61 (by decide) ?_
    exact ih (ii + 1) S2 H3 locs ls (by omega) (fun a9 b9 h1 h2 h3 h4 => by by_cases e : a9 = ii; exact (by rw [e]; exact hdi b9 (by omega) h2 (by rw [← e]; exact h4)); exact hdo a9 b9 h1 h2 (by omega) h4) j_o j_ra j_ka j_lo j_ma j_hd hY hfr hI (lv_sub hl [0, 2, 3] rfl) kx ky
set_option maxHeartbeats 4000000 in
set_option maxRecDepth 100000 in
/-- whether the list is a basis -/
theorem c_D_isBasis (l : Launch) (D : mp_G) (g : Nat → ClassId) (S : mp_M) (sz : Nat) (o ra ka lo ma hd n N M : Nat) (me mk mn mcap mz : Nat → Nat) (mkf mnf : Nat → Nat → Int32) (hf kp : Nat → Int32) (h : Nat → m3) (z : Nat → Nat) (mo : Nat → Nat → m3) (co : Nat → Nat → fF) (h_o : S o = some (11, .inr (5, [.ref ra, .ref ka]))) (h_ra : S ra = some (12, .inl ((g 0), N, .inl (fun j => nI (zR j).val)))) (h_ka : S ka = some (13, .inl ((g 0), N, .inl kp))) (h_lo : S lo = some (2, .inr (9, [.ref ma, .ref hd, .int (nI n)]))) (h_ma : S ma = some (4, .inl ((g 2), 12, .inr (.inr (.inr (.inr (rfs me 12))))))) (h_hd : S hd = some (5, .inl ((g 0), 12, .inl hf))) (hY : yS g 300 12 me mk mn mcap mz mkf mnf S) (hB : lsB n h z mo co mcap mz mkf mnf hf) (hFL : FL kp N) (hN : N = tr3 (M + 1)) (hM : M ≤ 27) (hN8 : N ≤ 8000) (nl : Nat) (hnl : nl ≤ 3) (hn1 : 1 ≤ nl) (hMn : M = 9 * nl) (hIn : ∀ i, i < n → InL nl (h i)) : Met l y_D_isBasis w_D_isBasis ({ frames := 4, cells := 0, slots := 0, locals := 101 }) (va_Pc [.ref o, .ref lo] (mp_B0 D classes (tys g) S sz)) (va_Qi (fun (r : Int32) (S1 : mp_M) => S1 ra = some (12, .inl ((g 0), N, .inl (fun j => nI (zR j).val))) ∧ ((r = 1 ∧ bas n h z mo co) ∨ (r = 0 ∧ ¬ bas n h z mo co)) ∧ (∀ b t e9, S b = some (t, e9) → (t ≠ 12) → S1 b = some (t, e9))) (mp_B1 D classes S sz) (mp_A S sz)) 0 0 (mp_A S sz) := by
  refine Met.ofW (cc := b_D_isBasis) (maxL := 4) (ret := (some .boolean)) (by decide) rfl ?_
  intro p e s m args below meth c s₁ B hml hv
  obtain ⟨rfl, hsz, hH, hK⟩ := hv
  have hx := B.exec
  have hb := B.bytes
  have hr := B.returns
  have hts := atoms_spec (ws := w_D_isBasis) B.pre
  have hg : ∀ w ∈ gw, w.before _ s = true := fun w h => hts w (List.mem_cons_of_mem _ h)
  have hown : s.vm.findClass R_D = some m.cls := findClass_of_methodNamed B.named
  have hlocks := B.notSynchronized
  subst hsz
  have hI := mp_I.start hH
  have hl := lv_entry ([.ref o, .ref lo]) (n := 4) (Nat.le_of_ble_eq_true rfl)
  rw [lg_entry_eq]
  generalize (lg_sl ([.ref o, .ref lo]) ++ List.replicate (4 - (lg_sl ([.ref o, .ref lo])).length) Slot.unset).toArray = ls at hl ⊢
  have hl : lv_has ls 4 [(0, .ref o), (1, .ref lo)] := hl
  have hfr : ∀ b t e9, S b = some (t, e9) → (t ≠ 12) → S b = some (t, e9) := fun _ _ _ h9 _ => h9
  have hn12 := hB.2.1
  refine lv_iconst (v := nI 0) hx hb d_D_isBasis_0 (by decide) ?_
  refine lv_istore_n (lv' := [(2, .int (nI 0)), (0, .ref o), (1, .ref lo)]) hx hb d_D_isBasis_1 rfl hl (by decide) rfl (fun ls hl => ?_)
  refine lp_D_basisO (B := S) (o := o) (ra := ra) (ka := ka) (lo := lo) (ma := ma) (hd := hd) (n := n) (N := N) (M := M) (me := me) (mk := mk) (mn := mn) (mcap := mcap) (mz := mz) (mkf := mkf) (mnf := mnf) (hf := hf) (kp := kp) (h := h) (z := z) (mo := mo) (co := co) hx hb hml hg hown hK (Nat.le_of_ble_eq_true rfl) (Nat.le_of_ble_eq_true rfl) (Nat.le_of_ble_eq_true rfl) (Nat.le_of_ble_eq_true rfl) hB hFL hN hM hN8 nl hnl hn1 hMn hIn n 0 S s.heap _ ls (by omega) (fun a9 b9 h1 h2 h3 => absurd h3 (Nat.not_lt_zero _)) h_o h_ra h_ka h_lo h_ma h_hd hY hfr hI (lv_sub hl [0, 2, 1] rfl) (fun S1 H2 locs ls hdo j_o j_ra j_ka j_lo j_ma j_hd hY hfr hI hl => ?_) (fun S9 H9 locs ls hno j_o j_ra j_ka j_lo j_ma j_hd hY hfr hI hl => ?_)
  · refine lv_iconst (v := nI 1) hx hb d_D_isBasis_64 (by decide) ?_
    refine mp_zret hx hb hr hlocks hI (Nat.le_of_ble_eq_true rfl) (Nat.le_of_ble_eq_true rfl) ?_ (by decide) d_D_isBasis_65
    exact ⟨j_ra, Or.inl ⟨rfl, fun ii jj h1 h2 h3 => hdo ii jj h1 h2 (by omega) h3⟩, hfr⟩
  · refine lv_iconst (v := nI 0) hx hb d_D_isBasis_50 (by decide) ?_
    refine mp_zret hx hb hr hlocks hI (Nat.le_of_ble_eq_true rfl) (Nat.le_of_ble_eq_true rfl) ?_ (by decide) d_D_isBasis_51
    exact ⟨j_ra, Or.inr ⟨rfl, hno⟩, hfr⟩
set_option maxHeartbeats 4000000 in
set_option maxRecDepth 100000 in
theorem lp_D_write {p : Program} {l : Launch} {e : Env} {R : Room} {s : State} {m : MethodId} {args : Array Value} {below : List Frame} {meth : Method} {c : Code} {Q : State → Prop} {D : mp_G} {g : Nat → ClassId} {A : Nat → Prop} {cells slots : Nat} (hx : p.tables.exec = Jvm.exec) (hb : c.code = b_D_writeReduced) (hml : c.maxLocals = 8) (hg : ∀ w ∈ gw, w.before args s = true) (hown : s.vm.findClass R_D = some m.cls) (hK : mp_K D classes (tys g) s) (hRf : 3 ≤ R.frames) (hRl : 75 ≤ R.locals) (hRc : cells ≤ R.cells) (hRs : slots ≤ R.slots) {B : mp_M} {o ra ka lo ma hd n N M : Nat} {me mk mn mcap mz : Nat → Nat} {mkf mnf : Nat → Nat → Int32} {hf kp : Nat → Int32} {h : Nat → m3} {z : Nat → Nat} {mo : Nat → Nat → m3} {co : Nat → Nat → fF} {qo ky ia sz9 TI : Nat} {u : m3} {y0 y3 y4 y5 y6 y7 y8 y9 y10 y11 : Value} {kq : Nat → Int32} {lf : Nat → m3} {I0 : Nat → fF} (hB : lsB n h z mo co mcap mz mkf mnf hf) (hFL : FL kp N) (hN : N = tr3 (M + 1)) (hM : M ≤ 27) (hN8 : N ≤ 8000) (hu : pl3 u < N) (hsz : sz9 ≤ 16) (hTI : 400 ≤ TI) (hq : ∀ k, k < sz9 → kq k = nI (kN (lf k).1 (lf k).2.1 (lf k).2.2) ∧ pl3 (lf k) < N ∧ ¬ fi h (lf k) n < n) : ∀ (k : Nat) (i : Nat) (S : mp_M) (H : Heap) (locs : List Loc) (ls : Array Slot), i + k = sz9 → S o = some (11, .inr (5, [.ref ra, .ref ka])) → S ra = some (12, .inl ((g 0), N, .inl (fun j => nI ((rd n h z mo co (pl3 u + 1) (va_up zR (pl3 u) 1)) j).val))) → S ka = some (13, .inl ((g 0), N, .inl kp)) → S lo = some (2, .inr (9, [.ref ma, .ref hd, .int (nI n)])) → S ma = some (4, .inl ((g 2), 12, .inr (.inr (.inr (.inr (rfs me 12)))))) → S hd = some (5, .inl ((g 0), 12, .inl hf)) → S qo = some (14, .inr (4, [y0, .ref ky, .int (nI sz9), y3, y4, y5, y6, y7, y8, y9, y10, y11])) → S ky = some (15, .inl ((g 0), 16, .inl kq)) → S ia = some (TI, .inl ((g 0), 16, .inl (fun j => nI ((mgF i (fun k => nu n h z mo co (pl3 (lf k)) u) I0) j).val))) → (yS g 300 12 me mk mn mcap mz mkf mnf S) → (∀ b t e9, B b = some (t, e9) → (t ≠ 12) → (t ≠ TI) → S b = some (t, e9)) → mp_I D classes A s.heap S H locs → lv_has ls 8 [(6, .int (nI i)), (5, .int (nI (pl3 u))), (4, .ref ia), (3, .ref qo), (0, .ref o)] → (∀ (S : mp_M) (H : Heap) (locs : List Loc) (ls : Array Slot), S o = some (11, .inr (5, [.ref ra, .ref ka])) → S ra = some (12, .inl ((g 0), N, .inl (fun j => nI ((rd n h z mo co (pl3 u + 1) (va_up zR (pl3 u) 1)) j).val))) → S ka = some (13, .inl ((g 0), N, .inl kp)) → S lo = some (2, .inr (9, [.ref ma, .ref hd, .int (nI n)])) → S ma = some (4, .inl ((g 2), 12, .inr (.inr (.inr (.inr (rfs me 12)))))) → S hd = some (5, .inl ((g 0), 12, .inl hf)) → S qo = some (14, .inr (4, [y0, .ref ky, .int (nI sz9), y3, y4, y5, y6, y7, y8, y9, y10, y11])) → S ky = some (15, .inl ((g 0), 16, .inl kq)) → S ia = some (TI, .inl ((g 0), 16, .inl (fun j => nI ((mgF sz9 (fun k => nu n h z mo co (pl3 (lf k)) u) I0) j).val))) → (yS g 300 12 me mk mn mcap mz mkf mnf S) → (∀ b t e9, B b = some (t, e9) → (t ≠ 12) → (t ≠ TI) → S b = some (t, e9)) → mp_I D classes A s.heap S H locs → lv_has ls 8 [(6, .int (nI sz9)), (5, .int (nI (pl3 u))), (4, .ref ia), (3, .ref qo), (0, .ref o)] → W p l e R s m args below meth c H locs cells slots Q (F0 m 100 ls [])) → W p l e R s m args below meth c H locs cells slots Q (F0 m 42 ls []) := by
  intro k
  induction k with
  | zero =>
    intro i S H locs ls hi h_o h_ra h_ka h_lo h_ma h_hd h_qo h_ky h_ia hY hfr hI hl kx
    refine lv_iload hx hb d_D_writeReduced_42 (lv_at hl 0 rfl) ?_
    refine lv_aload_n hx hb d_D_writeReduced_44 rfl (lv_at hl 3 rfl) ?_
    refine mp_getN (C := R_Q) (T := F_Q) (N := 12) (v := .int (nI sz9)) hx hb hg i_Q hown hK.va hI h_qo rfl 2 (by decide) (hK.use q_222 rfl) (fun _ h9 => h9) rfl d_D_writeReduced_45 ?_
    refine lv_icmp_ge (tgt := 100) hx hb d_D_writeReduced_48 (by decide) (fun _ => ?_) (fun h9 => absurd ((nI_leI (by omega) (by omega)).mpr (by omega)) h9)
    obtain rfl : i = sz9 := by omega
    exact kx S H locs ls h_o h_ra h_ka h_lo h_ma h_hd h_qo h_ky h_ia hY hfr hI (lv_sub hl [0, 1, 2, 3, 4] rfl)
  | succ k ih =>
    intro i S H locs ls hi h_o h_ra h_ka h_lo h_ma h_hd h_qo h_ky h_ia hY hfr hI hl kx
    refine lv_iload hx hb d_D_writeReduced_42 (lv_at hl 0 rfl) ?_
    refine lv_aload_n hx hb d_D_writeReduced_44 rfl (lv_at hl 3 rfl) ?_
    refine mp_getN (C := R_Q) (T := F_Q) (N := 12) (v := .int (nI sz9)) hx hb hg i_Q hown hK.va hI h_qo rfl 2 (by decide) (hK.use q_222 rfl) (fun _ h9 => h9) rfl d_D_writeReduced_45 ?_
    refine lv_icmp_ge (tgt := 100) hx hb d_D_writeReduced_48 (by decide) (fun h9 => absurd h9 (by rw [nI_leI (by omega) (by omega)]; omega)) (fun _ => ?_)
    obtain ⟨k1, k2, k3⟩ := hq i (by omega)
    have hdg := m3_deg k2 hN
    refine lv_aload_n hx hb d_D_writeReduced_51 rfl (lv_at hl 3 rfl) ?_
    refine mp_getN (C := R_Q) (T := F_Q) (N := 12) (v := .ref ky) hx hb hg i_Q hown hK.va hI h_qo rfl 1 (by decide) (hK.use q_219 rfl) (fun _ h9 => h9) rfl d_D_writeReduced_52 ?_
    refine lv_iload hx hb d_D_writeReduced_55 (lv_at hl 0 rfl) ?_
    refine mp_iald hx hb hK.va hI 0 h_ky rfl (vp_in_nI (show i < 16 by omega) (by omega)) d_D_writeReduced_57 ?_
    refine lv_topi (fun v1 ev1 => ?_)
    obtain rfl : v1 = nI (kN (lf i).1 (lf i).2.1 (lf i).2.2) := ev1.trans (by rw [nI_clamp (by omega)]; exact k1)
    refine mp_calli hI (va_runS (As := [.int (nI (kN (lf i).1 (lf i).2.1 (lf i).2.2))]) (rest := []) ⟨hx, hb, hml, hown, hg⟩ (c_W_place l D g S _ (lf i).1 (lf i).2.1 (lf i).2.2 (by omega) (by omega) (by omega)) ⟨(callB_of 1 hg (wd_goodG q_341) rfl rfl rfl (hg _ q_11) (hg _ q_339) (by decide +kernel) ⟨Nat.le_trans (Nat.le_of_ble_eq_true rfl) hRf, Nat.le_trans (Nat.le_of_ble_eq_true rfl) hRl⟩), hg _ q_340⟩ (mp_pre hI hK [.int (nI (kN (lf i).1 (lf i).2.1 (lf i).2.2))]) rfl rfl hl.1 rfl (lv_room (Nat.le_of_ble_eq_true rfl)) d_D_writeReduced_58 ⟨by omega, by omega⟩) (fun r5 S2 H3 locs p_4 hI => ?_)
    obtain ⟨er5, eS6⟩ := p_4
    rw [eS6] at hI
    have er5 : r5 = nI (plN (lf i).1 (lf i).2.1 (lf i).2.2) := er5
    subst er5
    refine lv_topi (fun v7 ev7 => ?_)
    obtain rfl : v7 = nI (pl3 (lf i)) := ev7.trans (rfl)
    refine lv_istore (lv' := [(7, .int (nI (pl3 (lf i)))), (6, .int (nI i)), (5, .int (nI (pl3 u))), (4, .ref ia), (3, .ref qo), (0, .ref o)]) hx hb d_D_writeReduced_61 hl (by decide) rfl (fun ls hl => ?_)
    refine lv_aload hx hb d_D_writeReduced_63 (lv_at hl 3 rfl) ?_
    refine lv_iload hx hb d_D_writeReduced_65 (lv_at hl 1 rfl) ?_
    refine lv_iload hx hb d_D_writeReduced_67 (lv_at hl 0 rfl) ?_
    refine lv_if_lt (tgt := 82) hx hb d_D_writeReduced_69 (by decide) (fun h9 => absurd h9 (nI_pos (by omega))) (fun _ => ?_)
    refine lv_iload hx hb d_D_writeReduced_72 (lv_at hl 0 rfl) ?_
    refine lv_aload_n hx hb d_D_writeReduced_74 rfl (lv_at hl 5 rfl) ?_
    refine mp_get (C := R_D) (T := F_D) (N := 2) (v := .ref ra) hx hb hg i_D hown hK.va hI h_o rfl 0 (by decide) (hg _ q_184) (fun _ h9 => h9) rfl d_D_writeReduced_75 ?_
    refine mp_alen (v := nI N) hx hb hK.va hI 0 h_ra rfl rfl d_D_writeReduced_78 ?_
    refine lv_icmp_lt (tgt := 86) hx hb d_D_writeReduced_79 (by decide) (fun _ => ?_) (fun h9 => absurd ((nI_ltI (by omega) (by omega)).mpr (by omega)) h9)
    refine lv_aload_n hx hb d_D_writeReduced_86 rfl (lv_at hl 5 rfl) ?_
    refine mp_get (C := R_D) (T := F_D) (N := 2) (v := .ref ra) hx hb hg i_D hown hK.va hI h_o rfl 0 (by decide) (hg _ q_184) (fun _ h9 => h9) rfl d_D_writeReduced_87 ?_
    refine lv_iload hx hb d_D_writeReduced_90 (lv_at hl 0 rfl) ?_
    refine mp_iald hx hb hK.va hI 0 h_ra rfl (vp_in_nI (show pl3 (lf i) < N by omega) (by omega)) d_D_writeReduced_92 ?_
    refine lv_topi (fun v8 ev8 => ?_)
    obtain rfl : v8 = nI ((rd n h z mo co (pl3 u + 1) (va_up zR (pl3 u) 1)) (pl3 (lf i))).val := ev8.trans (by rw [nI_clamp (by omega)])
    refine lv_topi (fun v9 ev9 => ?_)
    obtain rfl : v9 = nI ((fun k => nu n h z mo co (pl3 (lf k)) u) i).val := ev9.trans (by rw [rd_nu hB.1 (by rw [Ep_pl3]; exact k3)])
    refine mp_iast hx hb hK.va hI 0 h_ia rfl (vp_in_nI (show i < 16 by omega) (by omega)) d_D_writeReduced_93 (fun S10 H11 locs e_12 hI => ?_)
    have h_ia_o := h_ia
    have e_12 : S10 = va_up S ia (some (TI, .inl ((g 0), 16, .inl (upd (fun j => nI ((mgF i (fun k => nu n h z mo co (pl3 (lf k)) u) I0) j).val) (nI i).toNatClampNeg (nI ((fun k => nu n h z mo co (pl3 (lf k)) u) i).val))))) := e_12
    have h_ia_o := h_ia
    have h_o : S10 o = some (11, .inr (5, [.ref ra, .ref ka])) := by rw [e_12]; exact mp_keep h_o h_ia (by omega)
    have h_ra : S10 ra = some (12, .inl ((g 0), N, .inl (fun j => nI ((rd n h z mo co (pl3 u + 1) (va_up zR (pl3 u) 1)) j).val))) := by rw [e_12]; exact mp_keep h_ra h_ia (by omega)
    have h_ka : S10 ka = some (13, .inl ((g 0), N, .inl kp)) := by rw [e_12]; exact mp_keep h_ka h_ia (by omega)
    have h_lo : S10 lo = some (2, .inr (9, [.ref ma, .ref hd, .int (nI n)])) := by rw [e_12]; exact mp_keep h_lo h_ia (by omega)
    have h_ma : S10 ma = some (4, .inl ((g 2), 12, .inr (.inr (.inr (.inr (rfs me 12)))))) := by rw [e_12]; exact mp_keep h_ma h_ia (by omega)
    have h_hd : S10 hd = some (5, .inl ((g 0), 12, .inl hf)) := by rw [e_12]; exact mp_keep h_hd h_ia (by omega)
    have h_qo : S10 qo = some (14, .inr (4, [y0, .ref ky, .int (nI sz9), y3, y4, y5, y6, y7, y8, y9, y10, y11])) := by rw [e_12]; exact mp_keep h_qo h_ia (by omega)
    have h_ky : S10 ky = some (15, .inl ((g 0), 16, .inl kq)) := by rw [e_12]; exact mp_keep h_ky h_ia (by omega)
    have h_ia : S10 ia = some (TI, .inl ((g 0), 16, .inl (upd (fun j => nI ((mgF i (fun k => nu n h z mo co (pl3 (lf k)) u) I0) j).val) (nI i).toNatClampNeg (nI ((fun k => nu n h z mo co (pl3 (lf k)) u) i).val)))) := by rw [e_12]; exact mp_us _ _ _
    have hY := yS_kept hY (S1 := S10) (fun b t9 e9 hb9 h1 h2 => by rw [e_12]; exact mp_un (mp_ne hb9 h_ia_o (by omega)))
    have hfr : ∀ b t e9, B b = some (t, e9) → (t ≠ 12) → (t ≠ TI) → S10 b = some (t, e9) := fun b t e9 h9 k0 k1 => by rw [e_12]; exact mp_keep (hfr b t e9 h9 k0 k1) h_ia_o (by omega)
    rw [nI_clamp (by omega), nIv_up] at h_ia
    have e9h_ia : (fun j => nI (va_up (mgF i (fun k => nu n h z mo co (pl3 (lf k)) u) I0) i ((fun k => nu n h z mo co (pl3 (lf k)) u) i) j).val) = (fun j => nI (mgF (i + 1) (fun k => nu n h z mo co (pl3 (lf k)) u) I0 j).val) := by rw [mgF_up]
    rw [e9h_ia] at h_ia
    refine lv_iinc (v := nI (i + 1)) (lv' := [(6, .int (nI (i + 1))), (7, .int (nI (pl3 (lf i)))), (5, .int (nI (pl3 u))), (4, .ref ia), (3, .ref qo), (0, .ref o)]) hx hb d_D_writeReduced_94 hl (k := 1) rfl (nI_1 _) (by decide) rfl (fun ls hl => ?_)
    refine lv_goto (tgt := 42) hx hb d_D_writeReduced_97 (by decide) ?_
    exact ih (i + 1) S10 H11 locs ls (by omega) h_o h_ra h_ka h_lo h_ma h_hd h_qo h_ky h_ia hY hfr hI (lv_sub hl [0, 2, 3, 4, 5] rfl) kx
set_option maxHeartbeats 4000000 in
set_option maxRecDepth 100000 in
/-- what a power is reduced to -/
theorem c_D_writeReduced (l : Launch) (D : mp_G) (g : Nat → ClassId) (S : mp_M) (sz : Nat) (o ra ka lo ma hd n N M : Nat) (me mk mn mcap mz : Nat → Nat) (mkf mnf : Nat → Nat → Int32) (hf kp : Nat → Int32) (h : Nat → m3) (z : Nat → Nat) (mo : Nat → Nat → m3) (co : Nat → Nat → fF) (qo ky ia sz9 TI : Nat) (u : m3) (y0 y3 y4 y5 y6 y7 y8 y9 y10 y11 : Value) (kq : Nat → Int32) (lf : Nat → m3) (I0 : Nat → fF) (h_o : S o = some (11, .inr (5, [.ref ra, .ref ka]))) (h_ra : S ra = some (12, .inl ((g 0), N, .inl (fun j => nI (zR j).val)))) (h_ka : S ka = some (13, .inl ((g 0), N, .inl kp))) (h_lo : S lo = some (2, .inr (9, [.ref ma, .ref hd, .int (nI n)]))) (h_ma : S ma = some (4, .inl ((g 2), 12, .inr (.inr (.inr (.inr (rfs me 12))))))) (h_hd : S hd = some (5, .inl ((g 0), 12, .inl hf))) (h_qo : S qo = some (14, .inr (4, [y0, .ref ky, .int (nI sz9), y3, y4, y5, y6, y7, y8, y9, y10, y11]))) (h_ky : S ky = some (15, .inl ((g 0), 16, .inl kq))) (h_ia : S ia = some (TI, .inl ((g 0), 16, .inl (fun j => nI (I0 j).val)))) (hY : yS g 300 12 me mk mn mcap mz mkf mnf S) (hB : lsB n h z mo co mcap mz mkf mnf hf) (hFL : FL kp N) (hN : N = tr3 (M + 1)) (hM : M ≤ 27) (hN8 : N ≤ 8000) (hu : pl3 u < N) (hsz : sz9 ≤ 16) (hTI : 400 ≤ TI) (hq : ∀ k, k < sz9 → kq k = nI (kN (lf k).1 (lf k).2.1 (lf k).2.2) ∧ pl3 (lf k) < N ∧ ¬ fi h (lf k) n < n) : Met l y_D_writeReduced w_D_writeReduced ({ frames := 3, cells := 0, slots := 0, locals := 75 }) (va_Pc [.ref o, .ref lo, .int (nI (kN u.1 u.2.1 u.2.2)), .ref qo, .ref ia] (mp_B0 D classes (tys g) S sz)) (va_Qv (fun (S1 : mp_M) => S1 ra = some (12, .inl ((g 0), N, .inl (fun j => nI (zR j).val))) ∧ S1 ia = some (TI, .inl ((g 0), 16, .inl (fun j => nI (mgF sz9 (fun k => nu n h z mo co (pl3 (lf k)) u) I0 j).val))) ∧ (∀ b t e9, S b = some (t, e9) → (t ≠ 12) → (t ≠ TI) → S1 b = some (t, e9))) (mp_B1 D classes S sz) (mp_A S sz)) 0 0 (mp_A S sz) := by
  refine Met.ofW (cc := b_D_writeReduced) (maxL := 8) (ret := none) (by decide) rfl ?_
  intro p e s m args below meth c s₁ B hml hv
  obtain ⟨rfl, hsz, hH, hK⟩ := hv
  have hx := B.exec
  have hb := B.bytes
  have hr := B.returns
  have hts := atoms_spec (ws := w_D_writeReduced) B.pre
  have hg : ∀ w ∈ gw, w.before _ s = true := fun w h => hts w (List.mem_cons_of_mem _ h)
  have hown : s.vm.findClass R_D = some m.cls := findClass_of_methodNamed B.named
  have hlocks := B.notSynchronized
  subst hsz
  have hI := mp_I.start hH
  have hl := lv_entry ([.ref o, .ref lo, .int (nI (kN u.1 u.2.1 u.2.2)), .ref qo, .ref ia]) (n := 8) (Nat.le_of_ble_eq_true rfl)
  rw [lg_entry_eq]
  generalize (lg_sl ([.ref o, .ref lo, .int (nI (kN u.1 u.2.1 u.2.2)), .ref qo, .ref ia]) ++ List.replicate (8 - (lg_sl ([.ref o, .ref lo, .int (nI (kN u.1 u.2.1 u.2.2)), .ref qo, .ref ia])).length) Slot.unset).toArray = ls at hl ⊢
  have hl : lv_has ls 8 [(0, .ref o), (1, .ref lo), (2, .int (nI (kN u.1 u.2.1 u.2.2))), (3, .ref qo), (4, .ref ia)] := hl
  have hfr : ∀ b t e9, S b = some (t, e9) → (t ≠ 12) → (t ≠ TI) → S b = some (t, e9) := fun _ _ _ h9 _ _ => h9
  have hdu := m3_deg hu hN
  refine lv_iload_n hx hb d_D_writeReduced_0 rfl (lv_at hl 2 rfl) ?_
  refine mp_calli hI (va_runS (As := [.int (nI (kN u.1 u.2.1 u.2.2))]) (rest := []) ⟨hx, hb, hml, hown, hg⟩ (c_W_place l D g S _ u.1 u.2.1 u.2.2 (by omega) (by omega) (by omega)) ⟨(callB_of 1 hg (wd_goodG q_341) rfl rfl rfl (hg _ q_11) (hg _ q_339) (by decide +kernel) ⟨Nat.le_of_ble_eq_true rfl, Nat.le_of_ble_eq_true rfl⟩), hg _ q_340⟩ (mp_pre hI hK [.int (nI (kN u.1 u.2.1 u.2.2))]) rfl rfl hl.1 rfl (lv_room (Nat.le_of_ble_eq_true rfl)) d_D_writeReduced_1 ⟨Nat.le_of_ble_eq_true rfl, Nat.le_of_ble_eq_true rfl⟩) (fun r4 S1 H2 locs p_3 hI => ?_)
  obtain ⟨er4, eS5⟩ := p_3
  rw [eS5] at hI
  have er4 : r4 = nI (plN u.1 u.2.1 u.2.2) := er4
  subst er4
  refine lv_topi (fun v6 ev6 => ?_)
  obtain rfl : v6 = nI (pl3 u) := ev6.trans (rfl)
  refine lv_istore (lv' := [(5, .int (nI (pl3 u))), (0, .ref o), (1, .ref lo), (2, .int (nI (kN u.1 u.2.1 u.2.2))), (3, .ref qo), (4, .ref ia)]) hx hb d_D_writeReduced_4 hl (by decide) rfl (fun ls hl => ?_)
  refine lv_iload hx hb d_D_writeReduced_6 (lv_at hl 0 rfl) ?_
  refine lv_if_lt (tgt := 21) hx hb d_D_writeReduced_8 (by decide) (fun h9 => absurd h9 (nI_pos (by omega))) (fun _ => ?_)
  refine lv_iload hx hb d_D_writeReduced_11 (lv_at hl 0 rfl) ?_
  refine lv_aload_n hx hb d_D_writeReduced_13 rfl (lv_at hl 1 rfl) ?_
  refine mp_get (C := R_D) (T := F_D) (N := 2) (v := .ref ra) hx hb hg i_D hown hK.va hI h_o rfl 0 (by decide) (hg _ q_184) (fun _ h9 => h9) rfl d_D_writeReduced_14 ?_
  refine mp_alen (v := nI N) hx hb hK.va hI 0 h_ra rfl rfl d_D_writeReduced_17 ?_
  refine lv_icmp_lt (tgt := 22) hx hb d_D_writeReduced_18 (by decide) (fun _ => ?_) (fun h9 => absurd ((nI_ltI (by omega) (by omega)).mpr (by omega)) h9)
  refine lv_aload_n hx hb d_D_writeReduced_22 rfl (lv_at hl 1 rfl) ?_
  refine mp_get (C := R_D) (T := F_D) (N := 2) (v := .ref ra) hx hb hg i_D hown hK.va hI h_o rfl 0 (by decide) (hg _ q_184) (fun _ h9 => h9) rfl d_D_writeReduced_23 ?_
  refine lv_iload hx hb d_D_writeReduced_26 (lv_at hl 0 rfl) ?_
  refine lv_iconst (v := nI 1) hx hb d_D_writeReduced_28 (by decide) ?_
  refine mp_iast hx hb hK.va hI 0 h_ra rfl (vp_in_nI (show pl3 u < N by omega) (by omega)) d_D_writeReduced_29 (fun S7 H8 locs e_9 hI => ?_)
  have h_ra_o := h_ra
  have e_9 : S7 = va_up S ra (some (12, .inl ((g 0), N, .inl (upd (fun j => nI (zR j).val) (nI (pl3 u)).toNatClampNeg (nI 1))))) := e_9
  have h_ra_o := h_ra
  have h_o : S7 o = some (11, .inr (5, [.ref ra, .ref ka])) := by rw [e_9]; exact mp_keep h_o h_ra (by decide)
  have h_ka : S7 ka = some (13, .inl ((g 0), N, .inl kp)) := by rw [e_9]; exact mp_keep h_ka h_ra (by decide)
  have h_lo : S7 lo = some (2, .inr (9, [.ref ma, .ref hd, .int (nI n)])) := by rw [e_9]; exact mp_keep h_lo h_ra (by decide)
  have h_ma : S7 ma = some (4, .inl ((g 2), 12, .inr (.inr (.inr (.inr (rfs me 12)))))) := by rw [e_9]; exact mp_keep h_ma h_ra (by decide)
  have h_hd : S7 hd = some (5, .inl ((g 0), 12, .inl hf)) := by rw [e_9]; exact mp_keep h_hd h_ra (by decide)
  have h_qo : S7 qo = some (14, .inr (4, [y0, .ref ky, .int (nI sz9), y3, y4, y5, y6, y7, y8, y9, y10, y11])) := by rw [e_9]; exact mp_keep h_qo h_ra (by decide)
  have h_ky : S7 ky = some (15, .inl ((g 0), 16, .inl kq)) := by rw [e_9]; exact mp_keep h_ky h_ra (by decide)
  have h_ia : S7 ia = some (TI, .inl ((g 0), 16, .inl (fun j => nI (I0 j).val))) := by rw [e_9]; exact mp_keep h_ia h_ra (by omega)
  have h_ra : S7 ra = some (12, .inl ((g 0), N, .inl (upd (fun j => nI (zR j).val) (nI (pl3 u)).toNatClampNeg (nI 1)))) := by rw [e_9]; exact mp_us _ _ _
  have hY := yS_kept hY (S1 := S7) (fun b t9 e9 hb9 h1 h2 => by rw [e_9]; exact mp_un (mp_ne hb9 h_ra_o (by omega)))
  have hfr : ∀ b t e9, S b = some (t, e9) → (t ≠ 12) → (t ≠ TI) → S7 b = some (t, e9) := fun b t e9 h9 k0 k1 => by rw [e_9]; exact mp_keep (hfr b t e9 h9 k0 k1) h_ra_o (by omega)
  have h_ra := h_ra
  rw [nI_clamp (by omega), nIv_up1] at h_ra
  refine lv_aload_n hx hb d_D_writeReduced_30 rfl (lv_at hl 1 rfl) ?_
  refine lv_aload_n hx hb d_D_writeReduced_31 rfl (lv_at hl 2 rfl) ?_
  refine lv_iload hx hb d_D_writeReduced_32 (lv_at hl 0 rfl) ?_
  refine lv_iconst (v := nI 0) hx hb d_D_writeReduced_34 (by decide) ?_
  refine mp_calli hI (va_runV (As := [.ref lo, .int (nI (pl3 u)), .int (nI 0)]) (rest := []) ⟨hx, hb, hml, hown, hg⟩ (c_D_reduce l D g S7 _ o ra ka lo ma hd n N M me mk mn mcap mz mkf mnf hf kp h z mo co (va_up zR (pl3 u) 1) (pl3 u) (nI 0) h_o h_ra h_ka h_lo h_ma h_hd hY hB hFL hN hM hN8 hu) ⟨(callB_of 3 hg (wd_goodG q_345) rfl rfl rfl (hg _ q_20) (hg _ q_342) (by decide +kernel) ⟨Nat.le_of_ble_eq_true rfl, Nat.le_of_ble_eq_true rfl⟩), hg _ q_344, hg _ qs_3⟩ (mp_preV (C := R_D) (T := F_D) hI hK h_o rfl [.ref lo, .int (nI (pl3 u)), .int (nI 0)]) rfl rfl hl.1 rfl (lv_room (Nat.le_of_ble_eq_true rfl)) d_D_writeReduced_35 ⟨Nat.le_of_ble_eq_true rfl, Nat.le_of_ble_eq_true rfl⟩) (fun r13 S10 H11 locs p_12 hI => ?_)
  obtain ⟨R1, q_ra, hhi, hrr, _, fq⟩ := p_12
  obtain rfl := hrr rfl
  have h_o : S10 o = some (11, .inr (5, [.ref ra, .ref ka])) := fq o _ _ h_o (by omega)
  have h_ka : S10 ka = some (13, .inl ((g 0), N, .inl kp)) := fq ka _ _ h_ka (by omega)
  have h_lo : S10 lo = some (2, .inr (9, [.ref ma, .ref hd, .int (nI n)])) := fq lo _ _ h_lo (by omega)
  have h_ma : S10 ma = some (4, .inl ((g 2), 12, .inr (.inr (.inr (.inr (rfs me 12)))))) := fq ma _ _ h_ma (by omega)
  have h_hd : S10 hd = some (5, .inl ((g 0), 12, .inl hf)) := fq hd _ _ h_hd (by omega)
  have h_qo : S10 qo = some (14, .inr (4, [y0, .ref ky, .int (nI sz9), y3, y4, y5, y6, y7, y8, y9, y10, y11])) := fq qo _ _ h_qo (by omega)
  have h_ky : S10 ky = some (15, .inl ((g 0), 16, .inl kq)) := fq ky _ _ h_ky (by omega)
  have h_ia : S10 ia = some (TI, .inl ((g 0), 16, .inl (fun j => nI (I0 j).val))) := fq ia _ _ h_ia (by omega)
  have hfr : ∀ b t e9, S b = some (t, e9) → (t ≠ 12) → (t ≠ TI) → S10 b = some (t, e9) := fun b t e9 h9 k0 k1 => by have h8 := hfr b t e9 h9 k0 k1; exact fq b _ _ h8 (by omega)
  have hY := yS_kept hY (S1 := S10) (fun b t9 e9 hb9 h1 h2 => by have h8 : S10 b = some (t9, e9) := fq b _ _ hb9 (by omega); rw [h8, hb9])
  have h_ra := q_ra
  refine lv_pop hx hb d_D_writeReduced_38 rfl ?_
  refine lv_iconst (v := nI 0) hx hb d_D_writeReduced_39 (by decide) ?_
  refine lv_istore (lv' := [(6, .int (nI 0)), (5, .int (nI (pl3 u))), (0, .ref o), (1, .ref lo), (2, .int (nI (kN u.1 u.2.1 u.2.2))), (3, .ref qo), (4, .ref ia)]) hx hb d_D_writeReduced_40 hl (by decide) rfl (fun ls hl => ?_)
  rw [← mgF_0 (fun k => nu n h z mo co (pl3 (lf k)) u) I0] at h_ia
  refine lp_D_write (B := S) (o := o) (ra := ra) (ka := ka) (lo := lo) (ma := ma) (hd := hd) (n := n) (N := N) (M := M) (me := me) (mk := mk) (mn := mn) (mcap := mcap) (mz := mz) (mkf := mkf) (mnf := mnf) (hf := hf) (kp := kp) (h := h) (z := z) (mo := mo) (co := co) (qo := qo) (ky := ky) (ia := ia) (sz9 := sz9) (TI := TI) (u := u) (y0 := y0) (y3 := y3) (y4 := y4) (y5 := y5) (y6 := y6) (y7 := y7) (y8 := y8) (y9 := y9) (y10 := y10) (y11 := y11) (kq := kq) (lf := lf) (I0 := I0) hx hb hml hg hown hK (Nat.le_of_ble_eq_true rfl) (Nat.le_of_ble_eq_true rfl) (Nat.le_of_ble_eq_true rfl) (Nat.le_of_ble_eq_true rfl) hB hFL hN hM hN8 hu hsz hTI hq sz9 0 S10 H11 _ ls (by omega) h_o h_ra h_ka h_lo h_ma h_hd h_qo h_ky h_ia hY hfr hI (lv_sub hl [0, 1, 6, 5, 2] rfl) (fun S14 H15 locs ls j_o j_ra j_ka j_lo j_ma j_hd j_qo j_ky j_ia hY hfr hI hl => ?_)
  refine lv_aload_n hx hb d_D_writeReduced_100 rfl (lv_at hl 4 rfl) ?_
  refine lv_iload hx hb d_D_writeReduced_101 (lv_at hl 1 rfl) ?_
  refine mp_callv hI (va_runV (As := [.int (nI (pl3 u))]) (rest := []) ⟨hx, hb, hml, hown, hg⟩ (c_D_wipe l D g S14 _ o ra N (pl3 u) (.ref ka) (rd n h z mo co (pl3 u + 1) (va_up zR (pl3 u) 1)) j_o j_ra hu hN8) ⟨(callB_of 1 hg (wd_goodG q_357) rfl rfl rfl (hg _ q_20) (hg _ q_354) (by decide +kernel) ⟨Nat.le_of_ble_eq_true rfl, Nat.le_of_ble_eq_true rfl⟩), hg _ q_356, hg _ qs_4⟩ (mp_preV (C := R_D) (T := F_D) hI hK j_o rfl [.int (nI (pl3 u))]) rfl rfl hl.1 rfl (lv_room (Nat.le_of_ble_eq_true rfl)) d_D_writeReduced_103 ⟨Nat.le_of_ble_eq_true rfl, Nat.le_of_ble_eq_true rfl⟩) (fun S16 H17 locs p_18 hI => ?_)
  obtain ⟨q_ra, fq⟩ := p_18
  rw [wpF_z (fun q hq => by rw [hhi q hq, mp_un (by omega)]; rfl)] at q_ra
  have j_o : S16 o = some (11, .inr (5, [.ref ra, .ref ka])) := fq o _ _ j_o (by omega)
  have j_ka : S16 ka = some (13, .inl ((g 0), N, .inl kp)) := fq ka _ _ j_ka (by omega)
  have j_lo : S16 lo = some (2, .inr (9, [.ref ma, .ref hd, .int (nI n)])) := fq lo _ _ j_lo (by omega)
  have j_ma : S16 ma = some (4, .inl ((g 2), 12, .inr (.inr (.inr (.inr (rfs me 12)))))) := fq ma _ _ j_ma (by omega)
  have j_hd : S16 hd = some (5, .inl ((g 0), 12, .inl hf)) := fq hd _ _ j_hd (by omega)
  have j_qo : S16 qo = some (14, .inr (4, [y0, .ref ky, .int (nI sz9), y3, y4, y5, y6, y7, y8, y9, y10, y11])) := fq qo _ _ j_qo (by omega)
  have j_ky : S16 ky = some (15, .inl ((g 0), 16, .inl kq)) := fq ky _ _ j_ky (by omega)
  have j_ia : S16 ia = some (TI, .inl ((g 0), 16, .inl (fun j => nI ((mgF sz9 (fun k => nu n h z mo co (pl3 (lf k)) u) I0) j).val))) := fq ia _ _ j_ia (by omega)
  have hfr : ∀ b t e9, S b = some (t, e9) → (t ≠ 12) → (t ≠ TI) → S16 b = some (t, e9) := fun b t e9 h9 k0 k1 => by have h8 := hfr b t e9 h9 k0 k1; exact fq b _ _ h8 (by omega)
  have hY := yS_kept hY (S1 := S16) (fun b t9 e9 hb9 h1 h2 => by have h8 : S16 b = some (t9, e9) := fq b _ _ hb9 (by omega); rw [h8, hb9])
  refine mp_vret hx hb hr hlocks hI (Nat.le_of_ble_eq_true rfl) (Nat.le_of_ble_eq_true rfl) ?_ d_D_writeReduced_106
  exact ⟨q_ra, j_ia, hfr⟩
