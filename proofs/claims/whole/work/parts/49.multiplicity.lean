/-- a letter's table as a matrix -/
def ptM (PT : Nat → Nat → fF) (l : Nat) : Nat → Nat → fF := fun i k => PT (16 * l + k) i
theorem mlt_mv {PT : Nat → Nat → fF} {l s : Nat} {u : Nat → fF} {j : Nat} (hj : j < s) : mltF PT l s u j = mvt s (ptM PT l) u j := by
  rw [mvt_in hj]; unfold mltF ptM; exact sm_cg (fun k _ => by grind)
theorem ip_cg {s : Nat} {b u v : Nat → fF} (h : ∀ j, j < s → u j = v j) : sm s (fun i => b i * u i) = sm s (fun i => b i * v i) := sm_cg (fun i hi => by rw [h i hi])
theorem spn_upv {s n : Nat} {ρ : Nat → Nat → fF} {pv : Nat → Nat} (h : spn s n ρ pv) {v : Nat → fF} {p : Nat} (hp : p < s) (hw : tkO ρ pv n v p ≠ 0) : spn s (n + 1) (va_up ρ n (nrm (tkO ρ pv n v) p)) (va_up pv n p) := by
  have h1 := spn_up h hp hw
  intro r hr
  have h2 := h1 r hr
  by_cases e : r = n
  · subst e
    rw [mp_us, mp_us]
    simp only [if_true] at h2
    refine ⟨h2.1, h2.2.1, fun q hq => ?_⟩
    have := h2.2.2 q hq
    rw [if_neg (by omega)] at this
    rw [mp_un (by omega)]; exact this
  · rw [mp_un e, mp_un e]
    simp only [if_neg e] at h2
    refine ⟨h2.1, h2.2.1, fun q hq => ?_⟩
    have := h2.2.2 q hq
    rw [if_neg (by omega)] at this
    rw [mp_un (by omega)]; exact this
theorem spn_bv {s n : Nat} {ρ : Nat → Nat → fF} {pv : Nat → Nat} {v : Nat → fF} {p : Nat} (hw : tkO ρ pv n v p ≠ 0) (b : Nat → fF) :
    (∀ a, a < n + 1 → sm s (fun i => b i * va_up ρ n (nrm (tkO ρ pv n v) p) a i) = 0) ↔ ((∀ a, a < n → sm s (fun i => b i * ρ a i) = 0) ∧ sm s (fun i => b i * v i) = 0) := by
  rw [← spn_b (s := s) hw b]
  constructor
  · intro h a ha
    have := h a ha
    by_cases e : a = n
    · simp only [if_pos e]; rw [e, mp_us] at this; exact this
    · simp only [if_neg e]; rw [mp_un e] at this; exact this
  · intro h a ha
    have := h a ha
    by_cases e : a = n
    · simp only [if_pos e] at this; rw [e, mp_us]; exact this
    · simp only [if_neg e] at this; rw [mp_un e]; exact this
theorem spn_b0 {s n : Nat} {ρ : Nat → Nat → fF} {pv : Nat → Nat} {v : Nat → fF} (hz : fnz (tkO ρ pv n v) s = s) (b : Nat → fF) (h : ∀ a, a < n → sm s (fun i => b i * ρ a i) = 0) : sm s (fun i => b i * v i) = 0 := by
  rw [← tkO_b (pv := pv) v n h]
  have h1 := (fnz_sp (tkO ρ pv n v) s).2
  rw [hz] at h1
  exact sm_z (fun i hi => by rw [h1 i hi]; grind)
theorem amf_and {O : Prop} {i : Nat} {P : Nat → Prop} : ((O ∧ ∀ r, r < i → P r) ∧ P i) ↔ (O ∧ ∀ r, r < i + 1 → P r) := by
  constructor
  · rintro ⟨⟨h1, h2⟩, h3⟩
    refine ⟨h1, fun r hr => ?_⟩
    by_cases e : r = i
    · rw [e]; exact h3
    · exact h2 r (by omega)
  · rintro ⟨h1, h2⟩
    exact ⟨⟨h1, fun r hr => h2 r (by omega)⟩, h2 i (Nat.lt_succ_self i)⟩
theorem mA_0 {s k : Nat} (hk : k < s) : sO s k = eK 0 k := by unfold sO; rw [if_pos (by omega)]
theorem mA_st {s i k : Nat} {M : Nat → Nat → fF} {z : fF} {Fa : Nat → fF} (hF : ∀ k, k < s → Fa k = itr (mvt s (mzt M z)) i (eK 0) k) (hk : k < s) : mvt s M Fa k + (-z) * Fa k = itr (mvt s (mzt M z)) (i + 1) (eK 0) k := by
  show _ = mvt s (mzt M z) (itr (mvt s (mzt M z)) i (eK 0)) k
  rw [mzt_v hk, ← hF k hk, mvt_in hk, mvt_in hk, sm_cg (fun j hj => by rw [hF j hj])]; grind
theorem mA_and {n : Nat} {P : Nat → Nat → Prop} {s : Nat} : ((∀ l, l < n → ∀ r, r < s → P l r) ∧ ∀ r, r < s → P n r) ↔ ∀ l, l < n + 1 → ∀ r, r < s → P l r := by
  constructor
  · rintro ⟨h1, h2⟩ l hl r hr
    by_cases e : l = n
    · rw [e]; exact h2 r hr
    · exact h1 l (by omega) r hr
  · intro h
    exact ⟨fun l hl => h l (by omega), h n (Nat.lt_succ_self n)⟩

theorem d_Q_addMultiplesOfFactor_0 : decode b_Q_addMultiplesOfFactor 0 = .ok (.aload_n 0, 1) := by decide +kernel
theorem d_Q_addMultiplesOfFactor_1 : decode b_Q_addMultiplesOfFactor 1 = .ok (.getfield 29, 3) := by decide +kernel
theorem d_Q_addMultiplesOfFactor_4 : decode b_Q_addMultiplesOfFactor 4 = .ok (.iconst 0, 1) := by decide +kernel
theorem d_Q_addMultiplesOfFactor_5 : decode b_Q_addMultiplesOfFactor 5 = .ok (.aload_n 0, 1) := by decide +kernel
theorem d_Q_addMultiplesOfFactor_6 : decode b_Q_addMultiplesOfFactor 6 = .ok (.getfield 26, 3) := by decide +kernel
theorem d_Q_addMultiplesOfFactor_9 : decode b_Q_addMultiplesOfFactor 9 = .ok (.iconst 0, 1) := by decide +kernel
theorem d_Q_addMultiplesOfFactor_10 : decode b_Q_addMultiplesOfFactor 10 = .ok (.aaload, 1) := by decide +kernel
theorem d_Q_addMultiplesOfFactor_11 : decode b_Q_addMultiplesOfFactor 11 = .ok (.iconst 0, 1) := by decide +kernel
theorem d_Q_addMultiplesOfFactor_12 : decode b_Q_addMultiplesOfFactor 12 = .ok (.aload_n 0, 1) := by decide +kernel
theorem d_Q_addMultiplesOfFactor_13 : decode b_Q_addMultiplesOfFactor 13 = .ok (.getfield 54, 3) := by decide +kernel
theorem d_Q_addMultiplesOfFactor_16 : decode b_Q_addMultiplesOfFactor 16 = .ok (.invokestatic 99, 3) := by decide +kernel
theorem d_Q_addMultiplesOfFactor_19 : decode b_Q_addMultiplesOfFactor 19 = .ok (.iconst 1, 1) := by decide +kernel
theorem d_Q_addMultiplesOfFactor_20 : decode b_Q_addMultiplesOfFactor 20 = .ok (.istore_n 1, 1) := by decide +kernel
theorem d_Q_addMultiplesOfFactor_21 : decode b_Q_addMultiplesOfFactor 21 = .ok (.iload_n 1, 1) := by decide +kernel
theorem d_Q_addMultiplesOfFactor_22 : decode b_Q_addMultiplesOfFactor 22 = .ok (.aload_n 0, 1) := by decide +kernel
theorem d_Q_addMultiplesOfFactor_23 : decode b_Q_addMultiplesOfFactor 23 = .ok (.getfield 54, 3) := by decide +kernel
theorem d_Q_addMultiplesOfFactor_26 : decode b_Q_addMultiplesOfFactor 26 = .ok (.if_icmp .ge 36, 3) := by decide +kernel
theorem d_Q_addMultiplesOfFactor_29 : decode b_Q_addMultiplesOfFactor 29 = .ok (.aload_n 0, 1) := by decide +kernel
theorem d_Q_addMultiplesOfFactor_30 : decode b_Q_addMultiplesOfFactor 30 = .ok (.aload_n 0, 1) := by decide +kernel
theorem d_Q_addMultiplesOfFactor_31 : decode b_Q_addMultiplesOfFactor 31 = .ok (.getfield 23, 3) := by decide +kernel
theorem d_Q_addMultiplesOfFactor_34 : decode b_Q_addMultiplesOfFactor 34 = .ok (.iload_n 1, 1) := by decide +kernel
theorem d_Q_addMultiplesOfFactor_35 : decode b_Q_addMultiplesOfFactor 35 = .ok (.iaload, 1) := by decide +kernel
theorem d_Q_addMultiplesOfFactor_36 : decode b_Q_addMultiplesOfFactor 36 = .ok (.aload_n 0, 1) := by decide +kernel
theorem d_Q_addMultiplesOfFactor_37 : decode b_Q_addMultiplesOfFactor 37 = .ok (.getfield 26, 3) := by decide +kernel
theorem d_Q_addMultiplesOfFactor_40 : decode b_Q_addMultiplesOfFactor 40 = .ok (.aload_n 0, 1) := by decide +kernel
theorem d_Q_addMultiplesOfFactor_41 : decode b_Q_addMultiplesOfFactor 41 = .ok (.getfield 20, 3) := by decide +kernel
theorem d_Q_addMultiplesOfFactor_44 : decode b_Q_addMultiplesOfFactor 44 = .ok (.iload_n 1, 1) := by decide +kernel
theorem d_Q_addMultiplesOfFactor_45 : decode b_Q_addMultiplesOfFactor 45 = .ok (.iaload, 1) := by decide +kernel
theorem d_Q_addMultiplesOfFactor_46 : decode b_Q_addMultiplesOfFactor 46 = .ok (.aaload, 1) := by decide +kernel
theorem d_Q_addMultiplesOfFactor_47 : decode b_Q_addMultiplesOfFactor 47 = .ok (.aload_n 0, 1) := by decide +kernel
theorem d_Q_addMultiplesOfFactor_48 : decode b_Q_addMultiplesOfFactor 48 = .ok (.getfield 26, 3) := by decide +kernel
theorem d_Q_addMultiplesOfFactor_51 : decode b_Q_addMultiplesOfFactor 51 = .ok (.iload_n 1, 1) := by decide +kernel
theorem d_Q_addMultiplesOfFactor_52 : decode b_Q_addMultiplesOfFactor 52 = .ok (.aaload, 1) := by decide +kernel
theorem d_Q_addMultiplesOfFactor_53 : decode b_Q_addMultiplesOfFactor 53 = .ok (.invokevirtual 115, 3) := by decide +kernel
theorem d_Q_addMultiplesOfFactor_56 : decode b_Q_addMultiplesOfFactor 56 = .ok (.iinc 1 1, 3) := by decide +kernel
theorem d_Q_addMultiplesOfFactor_59 : decode b_Q_addMultiplesOfFactor 59 = .ok (.goto (-38), 3) := by decide +kernel
theorem d_Q_addMultiplesOfFactor_62 : decode b_Q_addMultiplesOfFactor 62 = .ok (.iconst 0, 1) := by decide +kernel
theorem d_Q_addMultiplesOfFactor_63 : decode b_Q_addMultiplesOfFactor 63 = .ok (.istore_n 1, 1) := by decide +kernel
theorem d_Q_addMultiplesOfFactor_64 : decode b_Q_addMultiplesOfFactor 64 = .ok (.iload_n 1, 1) := by decide +kernel
theorem d_Q_addMultiplesOfFactor_65 : decode b_Q_addMultiplesOfFactor 65 = .ok (.aload_n 0, 1) := by decide +kernel
theorem d_Q_addMultiplesOfFactor_66 : decode b_Q_addMultiplesOfFactor 66 = .ok (.getfield 54, 3) := by decide +kernel
theorem d_Q_addMultiplesOfFactor_69 : decode b_Q_addMultiplesOfFactor 69 = .ok (.if_icmp .ge 27, 3) := by decide +kernel
theorem d_Q_addMultiplesOfFactor_72 : decode b_Q_addMultiplesOfFactor 72 = .ok (.aload_n 0, 1) := by decide +kernel
theorem d_Q_addMultiplesOfFactor_73 : decode b_Q_addMultiplesOfFactor 73 = .ok (.getfield 47, 3) := by decide +kernel
theorem d_Q_addMultiplesOfFactor_76 : decode b_Q_addMultiplesOfFactor 76 = .ok (.aload_n 0, 1) := by decide +kernel
theorem d_Q_addMultiplesOfFactor_77 : decode b_Q_addMultiplesOfFactor 77 = .ok (.getfield 26, 3) := by decide +kernel
theorem d_Q_addMultiplesOfFactor_80 : decode b_Q_addMultiplesOfFactor 80 = .ok (.iload_n 1, 1) := by decide +kernel
theorem d_Q_addMultiplesOfFactor_81 : decode b_Q_addMultiplesOfFactor 81 = .ok (.aaload, 1) := by decide +kernel
theorem d_Q_addMultiplesOfFactor_82 : decode b_Q_addMultiplesOfFactor 82 = .ok (.aload_n 0, 1) := by decide +kernel
theorem d_Q_addMultiplesOfFactor_83 : decode b_Q_addMultiplesOfFactor 83 = .ok (.getfield 54, 3) := by decide +kernel
theorem d_Q_addMultiplesOfFactor_86 : decode b_Q_addMultiplesOfFactor 86 = .ok (.invokevirtual 105, 3) := by decide +kernel
theorem d_Q_addMultiplesOfFactor_89 : decode b_Q_addMultiplesOfFactor 89 = .ok (.pop, 1) := by decide +kernel
theorem d_Q_addMultiplesOfFactor_90 : decode b_Q_addMultiplesOfFactor 90 = .ok (.iinc 1 1, 3) := by decide +kernel
theorem d_Q_addMultiplesOfFactor_93 : decode b_Q_addMultiplesOfFactor 93 = .ok (.goto (-29), 3) := by decide +kernel
theorem d_Q_addMultiplesOfFactor_96 : decode b_Q_addMultiplesOfFactor 96 = .ok (.return_, 1) := by decide +kernel
theorem d_Q_multiplicityAt_0 : decode b_Q_multiplicityAt 0 = .ok (.aload_n 0, 1) := by decide +kernel
theorem d_Q_multiplicityAt_1 : decode b_Q_multiplicityAt 1 = .ok (.getfield 47, 3) := by decide +kernel
theorem d_Q_multiplicityAt_4 : decode b_Q_multiplicityAt 4 = .ok (.iconst 0, 1) := by decide +kernel
theorem d_Q_multiplicityAt_5 : decode b_Q_multiplicityAt 5 = .ok (.putfield 94, 3) := by decide +kernel
theorem d_Q_multiplicityAt_8 : decode b_Q_multiplicityAt 8 = .ok (.iconst 0, 1) := by decide +kernel
theorem d_Q_multiplicityAt_9 : decode b_Q_multiplicityAt 9 = .ok (.istore_n 2, 1) := by decide +kernel
theorem d_Q_multiplicityAt_10 : decode b_Q_multiplicityAt 10 = .ok (.iload_n 2, 1) := by decide +kernel
theorem d_Q_multiplicityAt_11 : decode b_Q_multiplicityAt 11 = .ok (.aload_n 0, 1) := by decide +kernel
theorem d_Q_multiplicityAt_12 : decode b_Q_multiplicityAt 12 = .ok (.getfield 50, 3) := by decide +kernel
theorem d_Q_multiplicityAt_15 : decode b_Q_multiplicityAt 15 = .ok (.if_icmp .ge 108, 3) := by decide +kernel
theorem d_Q_multiplicityAt_18 : decode b_Q_multiplicityAt 18 = .ok (.iload_n 2, 1) := by decide +kernel
theorem d_Q_multiplicityAt_19 : decode b_Q_multiplicityAt 19 = .ok (.aload_n 1, 1) := by decide +kernel
theorem d_Q_multiplicityAt_20 : decode b_Q_multiplicityAt 20 = .ok (.arraylength, 1) := by decide +kernel
theorem d_Q_multiplicityAt_21 : decode b_Q_multiplicityAt 21 = .ok (.if_icmp .ge 102, 3) := by decide +kernel
theorem d_Q_multiplicityAt_24 : decode b_Q_multiplicityAt 24 = .ok (.aload_n 0, 1) := by decide +kernel
theorem d_Q_multiplicityAt_25 : decode b_Q_multiplicityAt 25 = .ok (.aload_n 0, 1) := by decide +kernel
theorem d_Q_multiplicityAt_26 : decode b_Q_multiplicityAt 26 = .ok (.getfield 29, 3) := by decide +kernel
theorem d_Q_multiplicityAt_29 : decode b_Q_multiplicityAt 29 = .ok (.invokevirtual 95, 3) := by decide +kernel
theorem d_Q_multiplicityAt_32 : decode b_Q_multiplicityAt 32 = .ok (.iconst 0, 1) := by decide +kernel
theorem d_Q_multiplicityAt_33 : decode b_Q_multiplicityAt 33 = .ok (.istore_n 3, 1) := by decide +kernel
theorem d_Q_multiplicityAt_34 : decode b_Q_multiplicityAt 34 = .ok (.iload_n 3, 1) := by decide +kernel
theorem d_Q_multiplicityAt_35 : decode b_Q_multiplicityAt 35 = .ok (.aload_n 0, 1) := by decide +kernel
theorem d_Q_multiplicityAt_36 : decode b_Q_multiplicityAt 36 = .ok (.getfield 54, 3) := by decide +kernel
theorem d_Q_multiplicityAt_39 : decode b_Q_multiplicityAt 39 = .ok (.if_icmp .ge 74, 3) := by decide +kernel
theorem d_Q_multiplicityAt_42 : decode b_Q_multiplicityAt 42 = .ok (.aload_n 0, 1) := by decide +kernel
theorem d_Q_multiplicityAt_43 : decode b_Q_multiplicityAt 43 = .ok (.iload_n 2, 1) := by decide +kernel
theorem d_Q_multiplicityAt_44 : decode b_Q_multiplicityAt 44 = .ok (.aload_n 0, 1) := by decide +kernel
theorem d_Q_multiplicityAt_45 : decode b_Q_multiplicityAt 45 = .ok (.getfield 29, 3) := by decide +kernel
theorem d_Q_multiplicityAt_48 : decode b_Q_multiplicityAt 48 = .ok (.aload_n 0, 1) := by decide +kernel
theorem d_Q_multiplicityAt_49 : decode b_Q_multiplicityAt 49 = .ok (.getfield 32, 3) := by decide +kernel
theorem d_Q_multiplicityAt_52 : decode b_Q_multiplicityAt 52 = .ok (.invokevirtual 115, 3) := by decide +kernel
theorem d_Q_multiplicityAt_55 : decode b_Q_multiplicityAt 55 = .ok (.iconst 0, 1) := by decide +kernel
theorem d_Q_multiplicityAt_56 : decode b_Q_multiplicityAt 56 = .ok (.istore 4, 2) := by decide +kernel
theorem d_Q_multiplicityAt_58 : decode b_Q_multiplicityAt 58 = .ok (.iload 4, 2) := by decide +kernel
theorem d_Q_multiplicityAt_60 : decode b_Q_multiplicityAt 60 = .ok (.aload_n 0, 1) := by decide +kernel
theorem d_Q_multiplicityAt_61 : decode b_Q_multiplicityAt 61 = .ok (.getfield 54, 3) := by decide +kernel
theorem d_Q_multiplicityAt_64 : decode b_Q_multiplicityAt 64 = .ok (.if_icmp .ge 43, 3) := by decide +kernel
theorem d_Q_multiplicityAt_67 : decode b_Q_multiplicityAt 67 = .ok (.aload_n 0, 1) := by decide +kernel
theorem d_Q_multiplicityAt_68 : decode b_Q_multiplicityAt 68 = .ok (.getfield 29, 3) := by decide +kernel
theorem d_Q_multiplicityAt_71 : decode b_Q_multiplicityAt 71 = .ok (.iload 4, 2) := by decide +kernel
theorem d_Q_multiplicityAt_73 : decode b_Q_multiplicityAt 73 = .ok (.aload_n 0, 1) := by decide +kernel
theorem d_Q_multiplicityAt_74 : decode b_Q_multiplicityAt 74 = .ok (.getfield 32, 3) := by decide +kernel
theorem d_Q_multiplicityAt_77 : decode b_Q_multiplicityAt 77 = .ok (.iload 4, 2) := by decide +kernel
theorem d_Q_multiplicityAt_79 : decode b_Q_multiplicityAt 79 = .ok (.iaload, 1) := by decide +kernel
theorem d_Q_multiplicityAt_80 : decode b_Q_multiplicityAt 80 = .ok (.sipush 32003, 3) := by decide +kernel
theorem d_Q_multiplicityAt_83 : decode b_Q_multiplicityAt 83 = .ok (.aload_n 1, 1) := by decide +kernel
theorem d_Q_multiplicityAt_84 : decode b_Q_multiplicityAt 84 = .ok (.iload_n 2, 1) := by decide +kernel
theorem d_Q_multiplicityAt_85 : decode b_Q_multiplicityAt 85 = .ok (.iaload, 1) := by decide +kernel
theorem d_Q_multiplicityAt_86 : decode b_Q_multiplicityAt 86 = .ok (.isub, 1) := by decide +kernel
theorem d_Q_multiplicityAt_87 : decode b_Q_multiplicityAt 87 = .ok (.aload_n 0, 1) := by decide +kernel
theorem d_Q_multiplicityAt_88 : decode b_Q_multiplicityAt 88 = .ok (.getfield 29, 3) := by decide +kernel
theorem d_Q_multiplicityAt_91 : decode b_Q_multiplicityAt 91 = .ok (.iload 4, 2) := by decide +kernel
theorem d_Q_multiplicityAt_93 : decode b_Q_multiplicityAt 93 = .ok (.iaload, 1) := by decide +kernel
theorem d_Q_multiplicityAt_94 : decode b_Q_multiplicityAt 94 = .ok (.imul, 1) := by decide +kernel
theorem d_Q_multiplicityAt_95 : decode b_Q_multiplicityAt 95 = .ok (.iadd, 1) := by decide +kernel
theorem d_Q_multiplicityAt_96 : decode b_Q_multiplicityAt 96 = .ok (.sipush 32003, 3) := by decide +kernel
theorem d_Q_multiplicityAt_99 : decode b_Q_multiplicityAt 99 = .ok (.irem, 1) := by decide +kernel
theorem d_Q_multiplicityAt_100 : decode b_Q_multiplicityAt 100 = .ok (.iastore, 1) := by decide +kernel
theorem d_Q_multiplicityAt_101 : decode b_Q_multiplicityAt 101 = .ok (.iinc 4 1, 3) := by decide +kernel
theorem d_Q_multiplicityAt_104 : decode b_Q_multiplicityAt 104 = .ok (.goto (-46), 3) := by decide +kernel
theorem d_Q_multiplicityAt_107 : decode b_Q_multiplicityAt 107 = .ok (.iinc 3 1, 3) := by decide +kernel
theorem d_Q_multiplicityAt_110 : decode b_Q_multiplicityAt 110 = .ok (.goto (-76), 3) := by decide +kernel
theorem d_Q_multiplicityAt_113 : decode b_Q_multiplicityAt 113 = .ok (.aload_n 0, 1) := by decide +kernel
theorem d_Q_multiplicityAt_114 : decode b_Q_multiplicityAt 114 = .ok (.invokevirtual 119, 3) := by decide +kernel
theorem d_Q_multiplicityAt_117 : decode b_Q_multiplicityAt 117 = .ok (.iinc 2 1, 3) := by decide +kernel
theorem d_Q_multiplicityAt_120 : decode b_Q_multiplicityAt 120 = .ok (.goto (-110), 3) := by decide +kernel
theorem d_Q_multiplicityAt_123 : decode b_Q_multiplicityAt 123 = .ok (.aload_n 0, 1) := by decide +kernel
theorem d_Q_multiplicityAt_124 : decode b_Q_multiplicityAt 124 = .ok (.getfield 54, 3) := by decide +kernel
theorem d_Q_multiplicityAt_127 : decode b_Q_multiplicityAt 127 = .ok (.aload_n 0, 1) := by decide +kernel
theorem d_Q_multiplicityAt_128 : decode b_Q_multiplicityAt 128 = .ok (.getfield 47, 3) := by decide +kernel
theorem d_Q_multiplicityAt_131 : decode b_Q_multiplicityAt 131 = .ok (.getfield 94, 3) := by decide +kernel
theorem d_Q_multiplicityAt_134 : decode b_Q_multiplicityAt 134 = .ok (.isub, 1) := by decide +kernel
theorem d_Q_multiplicityAt_135 : decode b_Q_multiplicityAt 135 = .ok (.ireturn, 1) := by decide +kernel
set_option maxHeartbeats 4000000 in
set_option maxRecDepth 100000 in
theorem lp_Q_amf1 {p : Program} {l : Launch} {e : Env} {R : Room} {s : State} {m : MethodId} {args : Array Value} {below : List Frame} {meth : Method} {c : Code} {Q : State → Prop} {D : mp_G} {g : Nat → ClassId} {A : Nat → Prop} {cells slots : Nat} (hx : p.tables.exec = Jvm.exec) (hb : c.code = b_Q_addMultiplesOfFactor) (hml : c.maxLocals = 2) (hg : ∀ w ∈ gw, w.before args s = true) (hown : s.vm.findClass R_Q = some m.cls) (hK : mp_K D classes (tys g) s) (hRf : 3 ≤ R.frames) (hRl : 71 ≤ R.locals) (hRc : cells ≤ R.cells) (hRs : slots ≤ R.slots) {B : mp_M} {qo pr lw ll mu fa so rq rp s9 : Nat} {q0 q1 q8 q9 q10 : Value} {PT : Nat → Nat → fF} {lwf llf : Nat → Nat} {Fa : Nat → fF} {G9 : Nat → Nat → fF} {n9 : Nat} {ρ : Nat → Nat → fF} {pv : Nat → Nat} (hs : s9 ≤ 16) (hG0 : ∀ j, j < s9 → Fa j = G9 0 j) (hlow : ∀ k, 0 < k → k < s9 → lwf k < k ∧ llf k < 3) (hGs : ∀ k, 0 < k → k < s9 → ∀ j, j < s9 → mltF PT (llf k) s9 (G9 (lwf k)) j = G9 k j) : ∀ (k : Nat) (i : Nat) (MU : Nat → Nat → fF) (S : mp_M) (H : Heap) (locs : List Loc) (ls : Array Slot), i + k = max 1 s9 → (0 < i) → (∀ r, r < i → ∀ j, j < s9 → MU r j = G9 r j) → (∀ r, trn 16 (MU r)) → S qo = some (14, .inr (4, [q0, q1, .int (nI s9), .ref pr, .ref lw, .ref ll, .ref mu, .ref fa, q8, q9, q10, .ref so])) → S pr = some (16, .inl ((g 1), 48, .inr (.inr (.inr (.inr (rfs (fun ii => pr + 1 + ii) 48)))))) → S lw = some (17, .inl ((g 0), 16, .inl (fun j => nI (lwf j)))) → S ll = some (18, .inl ((g 0), 16, .inl (fun j => nI (llf j)))) → S mu = some (19, .inl ((g 1), 16, .inr (.inr (.inr (.inr (rfs (fun ii => mu + 1 + ii) 16)))))) → S fa = some (20, .inl ((g 0), 16, .inl (fun j => nI (Fa j).val))) → S so = some (26, .inr (8, [.ref rq, .ref rp, .int (nI n9)])) → S rq = some (27, .inl ((g 1), 16, .inr (.inr (.inr (.inr (rfs (fun ii => rq + 1 + ii) 16)))))) → S rp = some (28, .inl ((g 0), 16, .inl (fun j => nI (pv j)))) → (rS g 400 48 16 (fun ii => pr + 1 + ii) (fun ii j => nI (PT ii j).val) S) → (rS g 450 16 16 (fun ii => mu + 1 + ii) (fun ii j => nI (MU ii j).val) S) → (rS g 490 16 16 (fun ii => rq + 1 + ii) (fun ii j => nI (ρ ii j).val) S) → (∀ b t e9, B b = some (t, e9) → (t < 450 ∨ 466 ≤ t) → (t ≠ 26) → (t ≠ 28) → (t < 490 ∨ 506 ≤ t) → S b = some (t, e9)) → mp_I D classes A s.heap S H locs → lv_has ls 2 [(1, .int (nI i)), (0, .ref qo)] → (∀ (MU : Nat → Nat → fF) (S : mp_M) (H : Heap) (locs : List Loc) (ls : Array Slot), (0 < (max 1 s9)) → (∀ r, r < (max 1 s9) → ∀ j, j < s9 → MU r j = G9 r j) → (∀ r, trn 16 (MU r)) → S qo = some (14, .inr (4, [q0, q1, .int (nI s9), .ref pr, .ref lw, .ref ll, .ref mu, .ref fa, q8, q9, q10, .ref so])) → S pr = some (16, .inl ((g 1), 48, .inr (.inr (.inr (.inr (rfs (fun ii => pr + 1 + ii) 48)))))) → S lw = some (17, .inl ((g 0), 16, .inl (fun j => nI (lwf j)))) → S ll = some (18, .inl ((g 0), 16, .inl (fun j => nI (llf j)))) → S mu = some (19, .inl ((g 1), 16, .inr (.inr (.inr (.inr (rfs (fun ii => mu + 1 + ii) 16)))))) → S fa = some (20, .inl ((g 0), 16, .inl (fun j => nI (Fa j).val))) → S so = some (26, .inr (8, [.ref rq, .ref rp, .int (nI n9)])) → S rq = some (27, .inl ((g 1), 16, .inr (.inr (.inr (.inr (rfs (fun ii => rq + 1 + ii) 16)))))) → S rp = some (28, .inl ((g 0), 16, .inl (fun j => nI (pv j)))) → (rS g 400 48 16 (fun ii => pr + 1 + ii) (fun ii j => nI (PT ii j).val) S) → (rS g 450 16 16 (fun ii => mu + 1 + ii) (fun ii j => nI (MU ii j).val) S) → (rS g 490 16 16 (fun ii => rq + 1 + ii) (fun ii j => nI (ρ ii j).val) S) → (∀ b t e9, B b = some (t, e9) → (t < 450 ∨ 466 ≤ t) → (t ≠ 26) → (t ≠ 28) → (t < 490 ∨ 506 ≤ t) → S b = some (t, e9)) → mp_I D classes A s.heap S H locs → lv_has ls 2 [(1, .int (nI (max 1 s9))), (0, .ref qo)] → W p l e R s m args below meth c H locs cells slots Q (F0 m 62 ls [])) → W p l e R s m args below meth c H locs cells slots Q (F0 m 21 ls []) := by
  intro k
  induction k with
  | zero =>
    intro i MU S H locs ls hi h0i hMU tM h_qo h_pr h_lw h_ll h_mu h_fa h_so h_rq h_rp hP hM hR hfr hI hl kx
    refine lv_iload_n hx hb d_Q_addMultiplesOfFactor_21 rfl (lv_at hl 0 rfl) ?_
    refine lv_aload_n hx hb d_Q_addMultiplesOfFactor_22 rfl (lv_at hl 1 rfl) ?_
    refine mp_get (C := R_Q) (T := F_Q) (N := 12) (v := .int (nI s9)) hx hb hg i_Q hown hK.va hI h_qo rfl 2 (by decide) (hg _ q_221) (fun _ h9 => h9) rfl d_Q_addMultiplesOfFactor_23 ?_
    refine lv_icmp_ge (tgt := 62) hx hb d_Q_addMultiplesOfFactor_26 (by decide) (fun _ => ?_) (fun h9 => absurd ((nI_leI (by omega) (by omega)).mpr (by omega)) h9)
    obtain rfl : i = max 1 s9 := by omega
    exact kx MU S H locs ls h0i hMU tM h_qo h_pr h_lw h_ll h_mu h_fa h_so h_rq h_rp hP hM hR hfr hI (lv_sub hl [0, 1] rfl)
  | succ k ih =>
    intro i MU S H locs ls hi h0i hMU tM h_qo h_pr h_lw h_ll h_mu h_fa h_so h_rq h_rp hP hM hR hfr hI hl kx
    refine lv_iload_n hx hb d_Q_addMultiplesOfFactor_21 rfl (lv_at hl 0 rfl) ?_
    refine lv_aload_n hx hb d_Q_addMultiplesOfFactor_22 rfl (lv_at hl 1 rfl) ?_
    refine mp_get (C := R_Q) (T := F_Q) (N := 12) (v := .int (nI s9)) hx hb hg i_Q hown hK.va hI h_qo rfl 2 (by decide) (hg _ q_221) (fun _ h9 => h9) rfl d_Q_addMultiplesOfFactor_23 ?_
    refine lv_icmp_ge (tgt := 62) hx hb d_Q_addMultiplesOfFactor_26 (by decide) (fun h9 => absurd h9 (by rw [nI_leI (by omega) (by omega)]; omega)) (fun _ => ?_)
    obtain ⟨l1, l2⟩ := hlow i h0i (by omega)
    have h_ra : S (mu + 1 + lwf i) = some ((450 + lwf i), .inl ((g 0), 16, .inl (fun j => nI ((MU (lwf i)) j).val))) := hM (lwf i) (by omega)
    have h_rb : S (mu + 1 + i) = some ((450 + i), .inl ((g 0), 16, .inl (fun j => nI ((MU i) j).val))) := hM i (by omega)
    refine lv_aload_n hx hb d_Q_addMultiplesOfFactor_29 rfl (lv_at hl 1 rfl) ?_
    refine lv_aload_n hx hb d_Q_addMultiplesOfFactor_30 rfl (lv_at hl 1 rfl) ?_
    refine mp_get (C := R_Q) (T := F_Q) (N := 12) (v := .ref ll) hx hb hg i_Q hown hK.va hI h_qo rfl 5 (by decide) (hg _ q_226) (fun _ h9 => h9) rfl d_Q_addMultiplesOfFactor_31 ?_
    refine lv_iload_n hx hb d_Q_addMultiplesOfFactor_34 rfl (lv_at hl 0 rfl) ?_
    refine mp_iald hx hb hK.va hI 0 h_ll rfl (vp_in_nI (show i < 16 by omega) (by omega)) d_Q_addMultiplesOfFactor_35 ?_
    refine lv_topi (fun v1 ev1 => ?_)
    obtain rfl : v1 = nI (llf i) := ev1.trans (by rw [nI_clamp (by omega)])
    refine lv_aload_n hx hb d_Q_addMultiplesOfFactor_36 rfl (lv_at hl 1 rfl) ?_
    refine mp_get (C := R_Q) (T := F_Q) (N := 12) (v := .ref mu) hx hb hg i_Q hown hK.va hI h_qo rfl 6 (by decide) (hg _ q_227) (fun _ h9 => h9) rfl d_Q_addMultiplesOfFactor_37 ?_
    refine lv_aload_n hx hb d_Q_addMultiplesOfFactor_40 rfl (lv_at hl 1 rfl) ?_
    refine mp_get (C := R_Q) (T := F_Q) (N := 12) (v := .ref lw) hx hb hg i_Q hown hK.va hI h_qo rfl 4 (by decide) (hg _ q_225) (fun _ h9 => h9) rfl d_Q_addMultiplesOfFactor_41 ?_
    refine lv_iload_n hx hb d_Q_addMultiplesOfFactor_44 rfl (lv_at hl 0 rfl) ?_
    refine mp_iald hx hb hK.va hI 0 h_lw rfl (vp_in_nI (show i < 16 by omega) (by omega)) d_Q_addMultiplesOfFactor_45 ?_
    refine lv_topi (fun v2 ev2 => ?_)
    obtain rfl : v2 = nI (lwf i) := ev2.trans (by rw [nI_clamp (by omega)])
    refine mp_ald2 (b := mu + 1 + (lwf i)) hx hb hK.va hI 1 h_mu rfl (vp_in_nI (show lwf i < 16 by omega) (by omega)) (by rw [nI_clamp (by omega)]; exact rfs_at (by omega)) d_Q_addMultiplesOfFactor_46 ?_
    refine lv_aload_n hx hb d_Q_addMultiplesOfFactor_47 rfl (lv_at hl 1 rfl) ?_
    refine mp_get (C := R_Q) (T := F_Q) (N := 12) (v := .ref mu) hx hb hg i_Q hown hK.va hI h_qo rfl 6 (by decide) (hg _ q_227) (fun _ h9 => h9) rfl d_Q_addMultiplesOfFactor_48 ?_
    refine lv_iload_n hx hb d_Q_addMultiplesOfFactor_51 rfl (lv_at hl 0 rfl) ?_
    refine mp_ald2 (b := mu + 1 + i) hx hb hK.va hI 1 h_mu rfl (vp_in_nI (show i < 16 by omega) (by omega)) (by rw [nI_clamp (by omega)]; exact rfs_at (by omega)) d_Q_addMultiplesOfFactor_52 ?_
    refine mp_callv hI (va_runV (As := [.int (nI (llf i)), .ref (mu + 1 + (lwf i)), .ref (mu + 1 + i)]) (rest := []) ⟨hx, hb, hml, hown, hg⟩ (c_Q_multiply l D g S _ qo pr (mu + 1 + lwf i) (mu + 1 + i) (450 + lwf i) (450 + i) s9 (llf i) q0 q1 (.ref lw) (.ref ll) (.ref mu) (.ref fa) q8 q9 q10 (.ref so) PT (MU (lwf i)) (MU i) h_qo h_pr h_ra h_rb hP (by omega) hs l2) ⟨(callB_of 3 hg (wd_goodG q_427) rfl rfl rfl (hg _ q_21) (hg _ q_424) (by decide +kernel) ⟨Nat.le_trans (Nat.le_of_ble_eq_true rfl) hRf, Nat.le_trans (Nat.le_of_ble_eq_true rfl) hRl⟩), hg _ q_426, hg _ qs_10⟩ (mp_preV (C := R_Q) (T := F_Q) hI hK h_qo rfl [.int (nI (llf i)), .ref (mu + 1 + (lwf i)), .ref (mu + 1 + i)]) rfl rfl hl.1 rfl (lv_room (Nat.le_of_ble_eq_true rfl)) d_Q_addMultiplesOfFactor_53 ⟨by omega, by omega⟩) (fun S3 H4 locs p_5 hI => ?_)
    obtain ⟨q_rb, fq⟩ := p_5
    have hM0 := hM
    have h_qo : S3 qo = some (14, .inr (4, [q0, q1, .int (nI s9), .ref pr, .ref lw, .ref ll, .ref mu, .ref fa, q8, q9, q10, .ref so])) := fq qo _ _ h_qo (by omega)
    have h_pr : S3 pr = some (16, .inl ((g 1), 48, .inr (.inr (.inr (.inr (rfs (fun ii => pr + 1 + ii) 48)))))) := fq pr _ _ h_pr (by omega)
    have h_lw : S3 lw = some (17, .inl ((g 0), 16, .inl (fun j => nI (lwf j)))) := fq lw _ _ h_lw (by omega)
    have h_ll : S3 ll = some (18, .inl ((g 0), 16, .inl (fun j => nI (llf j)))) := fq ll _ _ h_ll (by omega)
    have h_mu : S3 mu = some (19, .inl ((g 1), 16, .inr (.inr (.inr (.inr (rfs (fun ii => mu + 1 + ii) 16)))))) := fq mu _ _ h_mu (by omega)
    have h_fa : S3 fa = some (20, .inl ((g 0), 16, .inl (fun j => nI (Fa j).val))) := fq fa _ _ h_fa (by omega)
    have h_so : S3 so = some (26, .inr (8, [.ref rq, .ref rp, .int (nI n9)])) := fq so _ _ h_so (by omega)
    have h_rq : S3 rq = some (27, .inl ((g 1), 16, .inr (.inr (.inr (.inr (rfs (fun ii => rq + 1 + ii) 16)))))) := fq rq _ _ h_rq (by omega)
    have h_rp : S3 rp = some (28, .inl ((g 0), 16, .inl (fun j => nI (pv j)))) := fq rp _ _ h_rp (by omega)
    have hfr : ∀ b t e9, B b = some (t, e9) → (t < 450 ∨ 466 ≤ t) → (t ≠ 26) → (t ≠ 28) → (t < 490 ∨ 506 ≤ t) → S3 b = some (t, e9) := fun b t e9 h9 k0 k1 k2 k3 => by have h8 := hfr b t e9 h9 k0 k1 k2 k3; exact fq b _ _ h8 (by omega)
    have hP := rS_kept hP (S1 := S3) (fun b t9 e9 hb9 h1 h2 => by have h8 : S3 b = some (t9, e9) := fq b _ _ hb9 (by omega); rw [h8, hb9])
    have hR := rS_kept hR (S1 := S3) (fun b t9 e9 hb9 h1 h2 => by have h8 : S3 b = some (t9, e9) := fq b _ _ hb9 (by omega); rw [h8, hb9])
    have hM : rS g 450 16 16 (fun ii => mu + 1 + ii) (fun ii j => nI ((va_up MU i (mgF s9 (mltF PT (llf i) s9 (MU (lwf i))) (MU i))) ii j).val) S3 := rS_up hM0 q_rb (fun j hj hne e9 h9 => fq _ _ _ h9 (by omega))
    refine lv_iinc (v := nI (i + 1)) (lv' := [(1, .int (nI (i + 1))), (0, .ref qo)]) hx hb d_Q_addMultiplesOfFactor_56 hl (k := 0) rfl (nI_1 _) (by decide) rfl (fun ls hl => ?_)
    refine lv_goto (tgt := 21) hx hb d_Q_addMultiplesOfFactor_59 (by decide) ?_
    exact ih (i + 1) (va_up MU i (mgF s9 (mltF PT (llf i) s9 (MU (lwf i))) (MU i))) S3 H4 locs ls (by omega) (Nat.succ_pos i) (fun r hr j hj => by by_cases q : r = i; exact (by rw [q, mp_us, mgF_lt hj, mlt_cg (hMU (lwf i) (by omega)), hGs i h0i (by omega) j hj]); exact (by rw [mp_un q]; exact hMU r (by omega) j hj)) (va_upt tM (mg_t16 hs (tM i))) h_qo h_pr h_lw h_ll h_mu h_fa h_so h_rq h_rp hP hM hR hfr hI (lv_sub hl [0, 1] rfl) kx
set_option maxHeartbeats 4000000 in
set_option maxRecDepth 100000 in
theorem lp_Q_amf2 {p : Program} {l : Launch} {e : Env} {R : Room} {s : State} {m : MethodId} {args : Array Value} {below : List Frame} {meth : Method} {c : Code} {Q : State → Prop} {D : mp_G} {g : Nat → ClassId} {A : Nat → Prop} {cells slots : Nat} (hx : p.tables.exec = Jvm.exec) (hb : c.code = b_Q_addMultiplesOfFactor) (hml : c.maxLocals = 2) (hg : ∀ w ∈ gw, w.before args s = true) (hown : s.vm.findClass R_Q = some m.cls) (hK : mp_K D classes (tys g) s) (hRf : 3 ≤ R.frames) (hRl : 71 ≤ R.locals) (hRc : cells ≤ R.cells) (hRs : slots ≤ R.slots) {B : mp_M} {qo pr lw ll mu fa so rq rp s9 : Nat} {q0 q1 q8 q9 q10 : Value} {PT : Nat → Nat → fF} {lwf llf : Nat → Nat} {Fa : Nat → fF} {G9 : Nat → Nat → fF} {O9 : (Nat → fF) → Prop} (hs : s9 ≤ 16) (hG0 : ∀ j, j < s9 → Fa j = G9 0 j) (hlow : ∀ k, 0 < k → k < s9 → lwf k < k ∧ llf k < 3) (hGs : ∀ k, 0 < k → k < s9 → ∀ j, j < s9 → mltF PT (llf k) s9 (G9 (lwf k)) j = G9 k j) : ∀ (k : Nat) (i : Nat) (MU : Nat → Nat → fF) (n9 : Nat) (ρ : Nat → Nat → fF) (pv : Nat → Nat) (S : mp_M) (H : Heap) (locs : List Loc) (ls : Array Slot), i + k = s9 → (n9 ≤ 16) → (spn s9 n9 ρ pv) → (∀ r, trn 16 (ρ r)) → (∀ r, i ≤ r → r < s9 → ∀ j, j < s9 → MU r j = G9 r j) → (∀ r, trn 16 (MU r)) → (∀ bb : Nat → fF, (∀ a, a < n9 → sm s9 (fun i => bb i * ρ a i) = 0) ↔ (O9 bb ∧ ∀ r, r < i → sm s9 (fun i => bb i * G9 r i) = 0)) → S qo = some (14, .inr (4, [q0, q1, .int (nI s9), .ref pr, .ref lw, .ref ll, .ref mu, .ref fa, q8, q9, q10, .ref so])) → S pr = some (16, .inl ((g 1), 48, .inr (.inr (.inr (.inr (rfs (fun ii => pr + 1 + ii) 48)))))) → S lw = some (17, .inl ((g 0), 16, .inl (fun j => nI (lwf j)))) → S ll = some (18, .inl ((g 0), 16, .inl (fun j => nI (llf j)))) → S mu = some (19, .inl ((g 1), 16, .inr (.inr (.inr (.inr (rfs (fun ii => mu + 1 + ii) 16)))))) → S fa = some (20, .inl ((g 0), 16, .inl (fun j => nI (Fa j).val))) → S so = some (26, .inr (8, [.ref rq, .ref rp, .int (nI n9)])) → S rq = some (27, .inl ((g 1), 16, .inr (.inr (.inr (.inr (rfs (fun ii => rq + 1 + ii) 16)))))) → S rp = some (28, .inl ((g 0), 16, .inl (fun j => nI (pv j)))) → (rS g 400 48 16 (fun ii => pr + 1 + ii) (fun ii j => nI (PT ii j).val) S) → (rS g 450 16 16 (fun ii => mu + 1 + ii) (fun ii j => nI (MU ii j).val) S) → (rS g 490 16 16 (fun ii => rq + 1 + ii) (fun ii j => nI (ρ ii j).val) S) → (∀ b t e9, B b = some (t, e9) → (t < 450 ∨ 466 ≤ t) → (t ≠ 26) → (t ≠ 28) → (t < 490 ∨ 506 ≤ t) → S b = some (t, e9)) → mp_I D classes A s.heap S H locs → lv_has ls 2 [(1, .int (nI i)), (0, .ref qo)] → (∀ (MU : Nat → Nat → fF) (n9 : Nat) (ρ : Nat → Nat → fF) (pv : Nat → Nat) (S : mp_M) (H : Heap) (locs : List Loc) (ls : Array Slot), (n9 ≤ 16) → (spn s9 n9 ρ pv) → (∀ r, trn 16 (ρ r)) → (∀ r, s9 ≤ r → r < s9 → ∀ j, j < s9 → MU r j = G9 r j) → (∀ r, trn 16 (MU r)) → (∀ bb : Nat → fF, (∀ a, a < n9 → sm s9 (fun s9 => bb s9 * ρ a s9) = 0) ↔ (O9 bb ∧ ∀ r, r < s9 → sm s9 (fun s9 => bb s9 * G9 r s9) = 0)) → S qo = some (14, .inr (4, [q0, q1, .int (nI s9), .ref pr, .ref lw, .ref ll, .ref mu, .ref fa, q8, q9, q10, .ref so])) → S pr = some (16, .inl ((g 1), 48, .inr (.inr (.inr (.inr (rfs (fun ii => pr + 1 + ii) 48)))))) → S lw = some (17, .inl ((g 0), 16, .inl (fun j => nI (lwf j)))) → S ll = some (18, .inl ((g 0), 16, .inl (fun j => nI (llf j)))) → S mu = some (19, .inl ((g 1), 16, .inr (.inr (.inr (.inr (rfs (fun ii => mu + 1 + ii) 16)))))) → S fa = some (20, .inl ((g 0), 16, .inl (fun j => nI (Fa j).val))) → S so = some (26, .inr (8, [.ref rq, .ref rp, .int (nI n9)])) → S rq = some (27, .inl ((g 1), 16, .inr (.inr (.inr (.inr (rfs (fun ii => rq + 1 + ii) 16)))))) → S rp = some (28, .inl ((g 0), 16, .inl (fun j => nI (pv j)))) → (rS g 400 48 16 (fun ii => pr + 1 + ii) (fun ii j => nI (PT ii j).val) S) → (rS g 450 16 16 (fun ii => mu + 1 + ii) (fun ii j => nI (MU ii j).val) S) → (rS g 490 16 16 (fun ii => rq + 1 + ii) (fun ii j => nI (ρ ii j).val) S) → (∀ b t e9, B b = some (t, e9) → (t < 450 ∨ 466 ≤ t) → (t ≠ 26) → (t ≠ 28) → (t < 490 ∨ 506 ≤ t) → S b = some (t, e9)) → mp_I D classes A s.heap S H locs → lv_has ls 2 [(1, .int (nI s9)), (0, .ref qo)] → W p l e R s m args below meth c H locs cells slots Q (F0 m 96 ls [])) → W p l e R s m args below meth c H locs cells slots Q (F0 m 64 ls []) := by
  intro k
  induction k with
  | zero =>
    intro i MU n9 ρ pv S H locs ls hi hn9 hsp tρ hMU tM heq h_qo h_pr h_lw h_ll h_mu h_fa h_so h_rq h_rp hP hM hR hfr hI hl kx
    refine lv_iload_n hx hb d_Q_addMultiplesOfFactor_64 rfl (lv_at hl 0 rfl) ?_
    refine lv_aload_n hx hb d_Q_addMultiplesOfFactor_65 rfl (lv_at hl 1 rfl) ?_
    refine mp_get (C := R_Q) (T := F_Q) (N := 12) (v := .int (nI s9)) hx hb hg i_Q hown hK.va hI h_qo rfl 2 (by decide) (hg _ q_221) (fun _ h9 => h9) rfl d_Q_addMultiplesOfFactor_66 ?_
    refine lv_icmp_ge (tgt := 96) hx hb d_Q_addMultiplesOfFactor_69 (by decide) (fun _ => ?_) (fun h9 => absurd ((nI_leI (by omega) (by omega)).mpr (by omega)) h9)
    obtain rfl : i = s9 := by omega
    exact kx MU n9 ρ pv S H locs ls hn9 hsp tρ hMU tM heq h_qo h_pr h_lw h_ll h_mu h_fa h_so h_rq h_rp hP hM hR hfr hI (lv_sub hl [0, 1] rfl)
  | succ k ih =>
    intro i MU n9 ρ pv S H locs ls hi hn9 hsp tρ hMU tM heq h_qo h_pr h_lw h_ll h_mu h_fa h_so h_rq h_rp hP hM hR hfr hI hl kx
    have tM0 := tM
    refine lv_iload_n hx hb d_Q_addMultiplesOfFactor_64 rfl (lv_at hl 0 rfl) ?_
    refine lv_aload_n hx hb d_Q_addMultiplesOfFactor_65 rfl (lv_at hl 1 rfl) ?_
    refine mp_get (C := R_Q) (T := F_Q) (N := 12) (v := .int (nI s9)) hx hb hg i_Q hown hK.va hI h_qo rfl 2 (by decide) (hg _ q_221) (fun _ h9 => h9) rfl d_Q_addMultiplesOfFactor_66 ?_
    refine lv_icmp_ge (tgt := 96) hx hb d_Q_addMultiplesOfFactor_69 (by decide) (fun h9 => absurd h9 (by rw [nI_leI (by omega) (by omega)]; omega)) (fun _ => ?_)
    have h_rb : S (mu + 1 + i) = some ((450 + i), .inl ((g 0), 16, .inl (fun j => nI ((MU i) j).val))) := hM i (by omega)
    refine lv_aload_n hx hb d_Q_addMultiplesOfFactor_72 rfl (lv_at hl 1 rfl) ?_
    refine mp_get (C := R_Q) (T := F_Q) (N := 12) (v := .ref so) hx hb hg i_Q hown hK.va hI h_qo rfl 11 (by decide) (hg _ q_232) (fun _ h9 => h9) rfl d_Q_addMultiplesOfFactor_73 ?_
    refine lv_aload_n hx hb d_Q_addMultiplesOfFactor_76 rfl (lv_at hl 1 rfl) ?_
    refine mp_get (C := R_Q) (T := F_Q) (N := 12) (v := .ref mu) hx hb hg i_Q hown hK.va hI h_qo rfl 6 (by decide) (hg _ q_227) (fun _ h9 => h9) rfl d_Q_addMultiplesOfFactor_77 ?_
    refine lv_iload_n hx hb d_Q_addMultiplesOfFactor_80 rfl (lv_at hl 0 rfl) ?_
    refine mp_ald2 (b := mu + 1 + i) hx hb hK.va hI 1 h_mu rfl (vp_in_nI (show i < 16 by omega) (by omega)) (by rw [nI_clamp (by omega)]; exact rfs_at (by omega)) d_Q_addMultiplesOfFactor_81 ?_
    refine lv_aload_n hx hb d_Q_addMultiplesOfFactor_82 rfl (lv_at hl 1 rfl) ?_
    refine mp_get (C := R_Q) (T := F_Q) (N := 12) (v := .int (nI s9)) hx hb hg i_Q hown hK.va hI h_qo rfl 2 (by decide) (hg _ q_221) (fun _ h9 => h9) rfl d_Q_addMultiplesOfFactor_83 ?_
    refine mp_calli hI (va_runV (As := [.ref (mu + 1 + i), .int (nI s9)]) (rest := []) ⟨hx, hb, hml, hown, hg⟩ (c_N_add l D g S _ so rq rp (mu + 1 + i) 26 490 (450 + i) 16 pv ρ (MU i) n9 s9 h_so h_rq h_rp h_rb hR (by omega) (by decide) hn9 hs hs hsp tρ (tM i)) ⟨(callB_of 2 hg (wd_goodG q_403) rfl rfl rfl (hg _ q_22) (hg _ q_400) (by decide +kernel) ⟨Nat.le_trans (Nat.le_of_ble_eq_true rfl) hRf, Nat.le_trans (Nat.le_of_ble_eq_true rfl) hRl⟩), hg _ q_401, hg _ q_402⟩ (mp_preV (C := R_N) (T := F_N) hI hK h_so rfl [.ref (mu + 1 + i), .int (nI s9)]) rfl rfl hl.1 rfl (lv_room (Nat.le_of_ble_eq_true rfl)) d_Q_addMultiplesOfFactor_86 ⟨by omega, by omega⟩) (fun r4 S1 H2 locs p_3 hI => ?_)
    obtain ⟨q_rb, hres, fq⟩ := p_3
    have hM0 := hM
    have h_qo : S1 qo = some (14, .inr (4, [q0, q1, .int (nI s9), .ref pr, .ref lw, .ref ll, .ref mu, .ref fa, q8, q9, q10, .ref so])) := fq qo _ _ h_qo (by omega) (by omega) (by omega) (by omega)
    have h_pr : S1 pr = some (16, .inl ((g 1), 48, .inr (.inr (.inr (.inr (rfs (fun ii => pr + 1 + ii) 48)))))) := fq pr _ _ h_pr (by omega) (by omega) (by omega) (by omega)
    have h_lw : S1 lw = some (17, .inl ((g 0), 16, .inl (fun j => nI (lwf j)))) := fq lw _ _ h_lw (by omega) (by omega) (by omega) (by omega)
    have h_ll : S1 ll = some (18, .inl ((g 0), 16, .inl (fun j => nI (llf j)))) := fq ll _ _ h_ll (by omega) (by omega) (by omega) (by omega)
    have h_mu : S1 mu = some (19, .inl ((g 1), 16, .inr (.inr (.inr (.inr (rfs (fun ii => mu + 1 + ii) 16)))))) := fq mu _ _ h_mu (by omega) (by omega) (by omega) (by omega)
    have h_fa : S1 fa = some (20, .inl ((g 0), 16, .inl (fun j => nI (Fa j).val))) := fq fa _ _ h_fa (by omega) (by omega) (by omega) (by omega)
    have h_rq : S1 rq = some (27, .inl ((g 1), 16, .inr (.inr (.inr (.inr (rfs (fun ii => rq + 1 + ii) 16)))))) := fq rq _ _ h_rq (by omega) (by omega) (by omega) (by omega)
    have hfr : ∀ b t e9, B b = some (t, e9) → (t < 450 ∨ 466 ≤ t) → (t ≠ 26) → (t ≠ 28) → (t < 490 ∨ 506 ≤ t) → S1 b = some (t, e9) := fun b t e9 h9 k0 k1 k2 k3 => by have h8 := hfr b t e9 h9 k0 k1 k2 k3; exact fq b _ _ h8 (by omega) (by omega) (by omega) (by omega)
    have hP := rS_kept hP (S1 := S1) (fun b t9 e9 hb9 h1 h2 => by have h8 : S1 b = some (t9, e9) := fq b _ _ hb9 (by omega) (by omega) (by omega) (by omega); rw [h8, hb9])
    have hM : rS g 450 16 16 (fun ii => mu + 1 + ii) (fun ii j => nI ((va_up MU i (tkO ρ pv n9 (MU i))) ii j).val) S1 := rS_up hM0 q_rb (fun j hj hne e9 h9 => fq _ _ _ h9 (by omega) (by omega) (by omega) (by omega))
    have tM := va_upt tM (tkO_t (pv := pv) tρ (tM i) n9) (n := i)
    have hgi : ∀ bb : Nat → fF, sm s9 (fun j => bb j * MU i j) = sm s9 (fun j => bb j * G9 i j) := fun bb => ip_cg (hMU i (Nat.le_refl i) (by omega))
    rcases hres with ⟨rfl, hfz, hn16, h_so, h_rp, hR⟩ | ⟨rfl, hfz, h_so, h_rp, hR⟩
    · have hnz := (fnz_sp (tkO ρ pv n9 (MU i)) s9).1 hfz
      refine lv_pop hx hb d_Q_addMultiplesOfFactor_89 rfl ?_
      refine lv_iinc (v := nI (i + 1)) (lv' := [(1, .int (nI (i + 1))), (0, .ref qo)]) hx hb d_Q_addMultiplesOfFactor_90 hl (k := 0) rfl (nI_1 _) (by decide) rfl (fun ls hl => ?_)
      refine lv_goto (tgt := 64) hx hb d_Q_addMultiplesOfFactor_93 (by decide) ?_
      exact ih (i + 1) (va_up MU i (tkO ρ pv n9 (MU i))) (n9 + 1) (va_up ρ n9 (nrm (tkO ρ pv n9 (MU i)) (fnz (tkO ρ pv n9 (MU i)) s9))) (va_up pv n9 (fnz (tkO ρ pv n9 (MU i)) s9)) S1 H2 locs ls (by omega) (by omega) (spn_upv hsp hfz hnz) (va_upt tρ (nrm_t (tkO_t tρ (tM0 i) n9))) (fun r hr h2 j hj => by rw [mp_un (by omega)]; exact hMU r (by omega) h2 j hj) tM (fun bb => by rw [spn_bv hnz bb, heq bb, hgi bb]; exact amf_and) h_qo h_pr h_lw h_ll h_mu h_fa h_so h_rq h_rp hP hM hR hfr hI (lv_sub hl [0, 1] rfl) kx
    · refine lv_pop hx hb d_Q_addMultiplesOfFactor_89 rfl ?_
      refine lv_iinc (v := nI (i + 1)) (lv' := [(1, .int (nI (i + 1))), (0, .ref qo)]) hx hb d_Q_addMultiplesOfFactor_90 hl (k := 0) rfl (nI_1 _) (by decide) rfl (fun ls hl => ?_)
      refine lv_goto (tgt := 64) hx hb d_Q_addMultiplesOfFactor_93 (by decide) ?_
      exact ih (i + 1) (va_up MU i (tkO ρ pv n9 (MU i))) n9 ρ pv S1 H2 locs ls (by omega) hn9 hsp tρ (fun r hr h2 j hj => by rw [mp_un (by omega)]; exact hMU r (by omega) h2 j hj) tM (fun bb => ⟨fun h9 => amf_and.mp ⟨(heq bb).mp h9, by rw [← hgi bb]; exact spn_b0 hfz bb h9⟩, fun h9 => (heq bb).mpr (amf_and.mpr h9).1⟩) h_qo h_pr h_lw h_ll h_mu h_fa h_so h_rq h_rp hP hM hR hfr hI (lv_sub hl [0, 1] rfl) kx
set_option maxHeartbeats 4000000 in
set_option maxRecDepth 100000 in
/-- the multiples of the factor -/
theorem c_Q_amf (l : Launch) (D : mp_G) (g : Nat → ClassId) (S : mp_M) (sz : Nat) (qo pr lw ll mu fa so rq rp s9 : Nat) (q0 q1 q8 q9 q10 : Value) (PT : Nat → Nat → fF) (lwf llf : Nat → Nat) (Fa : Nat → fF) (G9 : Nat → Nat → fF) (n9 : Nat) (MU ρ : Nat → Nat → fF) (pv : Nat → Nat) (h_qo : S qo = some (14, .inr (4, [q0, q1, .int (nI s9), .ref pr, .ref lw, .ref ll, .ref mu, .ref fa, q8, q9, q10, .ref so]))) (h_pr : S pr = some (16, .inl ((g 1), 48, .inr (.inr (.inr (.inr (rfs (fun ii => pr + 1 + ii) 48))))))) (h_lw : S lw = some (17, .inl ((g 0), 16, .inl (fun j => nI (lwf j))))) (h_ll : S ll = some (18, .inl ((g 0), 16, .inl (fun j => nI (llf j))))) (h_mu : S mu = some (19, .inl ((g 1), 16, .inr (.inr (.inr (.inr (rfs (fun ii => mu + 1 + ii) 16))))))) (h_fa : S fa = some (20, .inl ((g 0), 16, .inl (fun j => nI (Fa j).val)))) (h_so : S so = some (26, .inr (8, [.ref rq, .ref rp, .int (nI n9)]))) (h_rq : S rq = some (27, .inl ((g 1), 16, .inr (.inr (.inr (.inr (rfs (fun ii => rq + 1 + ii) 16))))))) (h_rp : S rp = some (28, .inl ((g 0), 16, .inl (fun j => nI (pv j))))) (hP : rS g 400 48 16 (fun ii => pr + 1 + ii) (fun ii j => nI (PT ii j).val) S) (hM : rS g 450 16 16 (fun ii => mu + 1 + ii) (fun ii j => nI (MU ii j).val) S) (hR : rS g 490 16 16 (fun ii => rq + 1 + ii) (fun ii j => nI (ρ ii j).val) S) (hs : s9 ≤ 16) (hG0 : ∀ j, j < s9 → Fa j = G9 0 j) (hlow : ∀ k, 0 < k → k < s9 → lwf k < k ∧ llf k < 3) (hGs : ∀ k, 0 < k → k < s9 → ∀ j, j < s9 → mltF PT (llf k) s9 (G9 (lwf k)) j = G9 k j) (tF : trn 16 Fa) (hn9 : n9 ≤ 16) (hsp : spn s9 n9 ρ pv) (tρ : ∀ r, trn 16 (ρ r)) (tM : ∀ r, trn 16 (MU r)) : Met l y_Q_addMultiplesOfFactor w_Q_addMultiplesOfFactor ({ frames := 3, cells := 0, slots := 0, locals := 71 }) (va_Pc [.ref qo] (mp_B0 D classes (tys g) S sz)) (va_Qv (fun (S1 : mp_M) => ∃ (n1 : Nat) (MU1 ρ1 : Nat → Nat → fF) (p1 : Nat → Nat), n1 ≤ 16 ∧ spn s9 n1 ρ1 p1 ∧ (∀ r, trn 16 (ρ1 r)) ∧ (∀ r, trn 16 (MU1 r)) ∧ (∀ bb : Nat → fF, (∀ a, a < n1 → sm s9 (fun i => bb i * ρ1 a i) = 0) ↔ ((∀ a, a < n9 → sm s9 (fun i => bb i * ρ a i) = 0) ∧ ∀ r, r < s9 → sm s9 (fun i => bb i * G9 r i) = 0)) ∧ S1 so = some (26, .inr (8, [.ref rq, .ref rp, .int (nI n1)])) ∧ S1 rp = some (28, .inl ((g 0), 16, .inl (fun j => nI (p1 j)))) ∧ (rS g 450 16 16 (fun ii => mu + 1 + ii) (fun ii j => nI (MU1 ii j).val) S1) ∧ (rS g 490 16 16 (fun ii => rq + 1 + ii) (fun ii j => nI (ρ1 ii j).val) S1) ∧ (∀ b t e9, S b = some (t, e9) → (t < 450 ∨ 466 ≤ t) → (t ≠ 26) → (t ≠ 28) → (t < 490 ∨ 506 ≤ t) → S1 b = some (t, e9))) (mp_B1 D classes S sz) (mp_A S sz)) 0 0 (mp_A S sz) := by
  refine Met.ofW (cc := b_Q_addMultiplesOfFactor) (maxL := 2) (ret := none) (by decide) rfl ?_
  intro p e s m args below meth c s₁ B hml hv
  obtain ⟨rfl, hsz, hH, hK⟩ := hv
  have hx := B.exec
  have hb := B.bytes
  have hr := B.returns
  have hts := atoms_spec (ws := w_Q_addMultiplesOfFactor) B.pre
  have hg : ∀ w ∈ gw, w.before _ s = true := fun w h => hts w (List.mem_cons_of_mem _ h)
  have hown : s.vm.findClass R_Q = some m.cls := findClass_of_methodNamed B.named
  have hlocks := B.notSynchronized
  subst hsz
  have hI := mp_I.start hH
  have hl := lv_entry ([.ref qo]) (n := 2) (Nat.le_of_ble_eq_true rfl)
  rw [lg_entry_eq]
  generalize (lg_sl ([.ref qo]) ++ List.replicate (2 - (lg_sl ([.ref qo])).length) Slot.unset).toArray = ls at hl ⊢
  have hl : lv_has ls 2 [(0, .ref qo)] := hl
  have hfr : ∀ b t e9, S b = some (t, e9) → (t < 450 ∨ 466 ≤ t) → (t ≠ 26) → (t ≠ 28) → (t < 490 ∨ 506 ≤ t) → S b = some (t, e9) := fun _ _ _ h9 _ _ _ _ => h9
  have h_rb : S (mu + 1 + 0) = some ((450 + 0), .inl ((g 0), 16, .inl (fun j => nI ((MU 0) j).val))) := hM 0 (by omega)
  refine lv_aload_n hx hb d_Q_addMultiplesOfFactor_0 rfl (lv_at hl 0 rfl) ?_
  refine mp_get (C := R_Q) (T := F_Q) (N := 12) (v := .ref fa) hx hb hg i_Q hown hK.va hI h_qo rfl 7 (by decide) (hg _ q_228) (fun _ h9 => h9) rfl d_Q_addMultiplesOfFactor_1 ?_
  refine lv_iconst (v := nI 0) hx hb d_Q_addMultiplesOfFactor_4 (by decide) ?_
  refine lv_aload_n hx hb d_Q_addMultiplesOfFactor_5 rfl (lv_at hl 0 rfl) ?_
  refine mp_get (C := R_Q) (T := F_Q) (N := 12) (v := .ref mu) hx hb hg i_Q hown hK.va hI h_qo rfl 6 (by decide) (hg _ q_227) (fun _ h9 => h9) rfl d_Q_addMultiplesOfFactor_6 ?_
  refine lv_iconst (v := nI 0) hx hb d_Q_addMultiplesOfFactor_9 (by decide) ?_
  refine mp_ald2 (b := mu + 1 + 0) hx hb hK.va hI 1 h_mu rfl (vp_in_nI (show 0 < 16 by omega) (by omega)) (by rw [nI_clamp (by omega)]; exact rfs_at (by omega)) d_Q_addMultiplesOfFactor_10 ?_
  refine lv_iconst (v := nI 0) hx hb d_Q_addMultiplesOfFactor_11 (by decide) ?_
  refine lv_aload_n hx hb d_Q_addMultiplesOfFactor_12 rfl (lv_at hl 0 rfl) ?_
  refine mp_get (C := R_Q) (T := F_Q) (N := 12) (v := .int (nI s9)) hx hb hg i_Q hown hK.va hI h_qo rfl 2 (by decide) (hg _ q_221) (fun _ h9 => h9) rfl d_Q_addMultiplesOfFactor_13 ?_
  refine mp_copyi hx hb (hml.trans hl.1.symm) hown (hg _ q_397) (nat_copy hK) (hg _ q_398) (hg _ q_15) hK.va hI 0 h_fa h_rb rfl (sp := 0) (dp := 0) (n := s9) (by omega) (by omega) (by omega) (by omega) (Nat.le_of_ble_eq_true rfl) (Nat.le_of_ble_eq_true rfl) d_Q_addMultiplesOfFactor_16 (fun S1 H2 locs e_3 hI => ?_)
  have h_rb_o := h_rb
  have e_3 : S1 = va_up S (mu + 1 + 0) (some ((450 + 0), .inl ((g 0), 16, .inl (va_cpy (fun j => nI (Fa j).val) (fun j => nI ((MU 0) j).val) 0 0 s9)))) := e_3
  have h_rb_o := h_rb
  have h_qo : S1 qo = some (14, .inr (4, [q0, q1, .int (nI s9), .ref pr, .ref lw, .ref ll, .ref mu, .ref fa, q8, q9, q10, .ref so])) := by rw [e_3]; exact mp_keep h_qo h_rb (by omega)
  have h_pr : S1 pr = some (16, .inl ((g 1), 48, .inr (.inr (.inr (.inr (rfs (fun ii => pr + 1 + ii) 48)))))) := by rw [e_3]; exact mp_keep h_pr h_rb (by omega)
  have h_lw : S1 lw = some (17, .inl ((g 0), 16, .inl (fun j => nI (lwf j)))) := by rw [e_3]; exact mp_keep h_lw h_rb (by omega)
  have h_ll : S1 ll = some (18, .inl ((g 0), 16, .inl (fun j => nI (llf j)))) := by rw [e_3]; exact mp_keep h_ll h_rb (by omega)
  have h_mu : S1 mu = some (19, .inl ((g 1), 16, .inr (.inr (.inr (.inr (rfs (fun ii => mu + 1 + ii) 16)))))) := by rw [e_3]; exact mp_keep h_mu h_rb (by omega)
  have h_fa : S1 fa = some (20, .inl ((g 0), 16, .inl (fun j => nI (Fa j).val))) := by rw [e_3]; exact mp_keep h_fa h_rb (by omega)
  have h_so : S1 so = some (26, .inr (8, [.ref rq, .ref rp, .int (nI n9)])) := by rw [e_3]; exact mp_keep h_so h_rb (by omega)
  have h_rq : S1 rq = some (27, .inl ((g 1), 16, .inr (.inr (.inr (.inr (rfs (fun ii => rq + 1 + ii) 16)))))) := by rw [e_3]; exact mp_keep h_rq h_rb (by omega)
  have h_rp : S1 rp = some (28, .inl ((g 0), 16, .inl (fun j => nI (pv j)))) := by rw [e_3]; exact mp_keep h_rp h_rb (by omega)
  have h_rb : S1 (mu + 1 + 0) = some ((450 + 0), .inl ((g 0), 16, .inl (va_cpy (fun j => nI (Fa j).val) (fun j => nI ((MU 0) j).val) 0 0 s9))) := by rw [e_3]; exact mp_us _ _ _
  have hP := rS_kept hP (S1 := S1) (fun b t9 e9 hb9 h1 h2 => by rw [e_3]; exact mp_un (mp_ne hb9 h_rb_o (by omega)))
  have hR := rS_kept hR (S1 := S1) (fun b t9 e9 hb9 h1 h2 => by rw [e_3]; exact mp_un (mp_ne hb9 h_rb_o (by omega)))
  have hfr : ∀ b t e9, S b = some (t, e9) → (t < 450 ∨ 466 ≤ t) → (t ≠ 26) → (t ≠ 28) → (t < 490 ∨ 506 ≤ t) → S1 b = some (t, e9) := fun b t e9 h9 k0 k1 k2 k3 => by rw [e_3]; exact mp_keep (hfr b t e9 h9 k0 k1 k2 k3) h_rb_o (by omega)
  rw [cpyF] at h_rb
  have hM : rS g 450 16 16 (fun ii => mu + 1 + ii) (fun ii j => nI ((va_up MU 0 (mgF s9 Fa (MU 0))) ii j).val) S1 := rS_up hM h_rb (fun j hj hne e9 h9 => by rw [e_3]; exact mp_keep h9 h_rb_o (by omega))
  refine lv_iconst (v := nI 1) hx hb d_Q_addMultiplesOfFactor_19 (by decide) ?_
  refine lv_istore_n (lv' := [(1, .int (nI 1)), (0, .ref qo)]) hx hb d_Q_addMultiplesOfFactor_20 rfl hl (by decide) rfl (fun ls hl => ?_)
  refine lp_Q_amf1 (B := S) (qo := qo) (pr := pr) (lw := lw) (ll := ll) (mu := mu) (fa := fa) (so := so) (rq := rq) (rp := rp) (s9 := s9) (q0 := q0) (q1 := q1) (q8 := q8) (q9 := q9) (q10 := q10) (PT := PT) (lwf := lwf) (llf := llf) (Fa := Fa) (G9 := G9) (n9 := n9) (ρ := ρ) (pv := pv) hx hb hml hg hown hK (Nat.le_of_ble_eq_true rfl) (Nat.le_of_ble_eq_true rfl) (Nat.le_of_ble_eq_true rfl) (Nat.le_of_ble_eq_true rfl) hs hG0 hlow hGs (s9 - 1) 1 (va_up MU 0 (mgF s9 Fa (MU 0))) S1 H2 _ ls (by omega) (by decide) (fun r hr j hj => by obtain rfl : r = 0 := (by omega); rw [mp_us, mgF_lt hj]; exact hG0 j hj) (va_upt tM (mg_t16 hs (tM 0))) h_qo h_pr h_lw h_ll h_mu h_fa h_so h_rq h_rp hP hM hR hfr hI (lv_sub hl [0, 1] rfl) (fun MU1 S4 H5 locs ls h0i hMU tM j_qo j_pr j_lw j_ll j_mu j_fa j_so j_rq j_rp hP hM hR hfr hI hl => ?_)
  refine lv_iconst (v := nI 0) hx hb d_Q_addMultiplesOfFactor_62 (by decide) ?_
  refine lv_istore_n (lv' := [(1, .int (nI 0)), (0, .ref qo)]) hx hb d_Q_addMultiplesOfFactor_63 rfl hl (by decide) rfl (fun ls hl => ?_)
  refine lp_Q_amf2 (B := S) (qo := qo) (pr := pr) (lw := lw) (ll := ll) (mu := mu) (fa := fa) (so := so) (rq := rq) (rp := rp) (s9 := s9) (q0 := q0) (q1 := q1) (q8 := q8) (q9 := q9) (q10 := q10) (PT := PT) (lwf := lwf) (llf := llf) (Fa := Fa) (G9 := G9) (O9 := (fun bb => ∀ a, a < n9 → sm s9 (fun i => bb i * ρ a i) = 0)) hx hb hml hg hown hK (Nat.le_of_ble_eq_true rfl) (Nat.le_of_ble_eq_true rfl) (Nat.le_of_ble_eq_true rfl) (Nat.le_of_ble_eq_true rfl) hs hG0 hlow hGs s9 0 MU1 n9 ρ pv S4 H5 _ ls (by omega) hn9 hsp tρ (fun r _ h2 j hj => hMU r (by omega) j hj) tM (fun bb => ⟨fun h9 => ⟨h9, fun r hr => absurd hr (Nat.not_lt_zero r)⟩, fun h9 => h9.1⟩) j_qo j_pr j_lw j_ll j_mu j_fa j_so j_rq j_rp hP hM hR hfr hI (lv_sub hl [0, 1] rfl) (fun MU2 n1 ρ1 p1 S6 H7 locs ls hn1 hsp1 tρ1 hMU2 tM2 heq1 j_qo j_pr j_lw j_ll j_mu j_fa j_so j_rq j_rp hP hM hR hfr hI hl => ?_)
  refine mp_vret hx hb hr hlocks hI (Nat.le_of_ble_eq_true rfl) (Nat.le_of_ble_eq_true rfl) ?_ d_Q_addMultiplesOfFactor_96
  exact ⟨n1, MU2, ρ1, p1, hn1, hsp1, tρ1, tM2, heq1, j_so, j_rp, hM, hR, hfr⟩
set_option maxHeartbeats 4000000 in
set_option maxRecDepth 100000 in
theorem lp_Q_mA1 {p : Program} {l : Launch} {e : Env} {R : Room} {s : State} {m : MethodId} {args : Array Value} {below : List Frame} {meth : Method} {c : Code} {Q : State → Prop} {D : mp_G} {g : Nat → ClassId} {A : Nat → Prop} {cells slots : Nat} (hx : p.tables.exec = Jvm.exec) (hb : c.code = b_Q_multiplicityAt) (hml : c.maxLocals = 5) (hg : ∀ w ∈ gw, w.before args s = true) (hown : s.vm.findClass R_Q = some m.cls) (hK : mp_K D classes (tys g) s) (hRf : 0 ≤ R.frames) (hRl : 0 ≤ R.locals) (hRc : cells ≤ R.cells) (hRs : slots ≤ R.slots) {B : mp_M} {qo pr lw ll mu fa so rq rp nx za TZ nl s9 : Nat} {q1 q9 q10 : Value} {PT : Nat → Nat → fF} {lwf llf : Nat → Nat} {Zf : Nat → fF} {n9 l9 tt : Nat} {Fa Nx : Nat → fF} {MU ρ : Nat → Nat → fF} {pv : Nat → Nat} (hTZ : 506 ≤ TZ) (hnl : nl ≤ 3) (hs : s9 ≤ 16) (hlow : ∀ k, 0 < k → k < s9 → lwf k < k ∧ llf k < 3) (hGs : ∀ l, l < nl → ∀ k, 0 < k → k < s9 → ∀ j, j < s9 → mltF PT (llf k) s9 (itr (mvt s9 (mzt (ptM PT l) (Zf l))) s9 (eK (lwf k))) j = itr (mvt s9 (mzt (ptM PT l) (Zf l))) s9 (eK k) j) (hl9 : l9 < nl) : ∀ (k : Nat) (i : Nat) (S : mp_M) (H : Heap) (locs : List Loc) (ls : Array Slot), i + k = s9 → S qo = some (14, .inr (4, [.int (nI nl), q1, .int (nI s9), .ref pr, .ref lw, .ref ll, .ref mu, .ref fa, .ref nx, q9, q10, .ref so])) → S pr = some (16, .inl ((g 1), 48, .inr (.inr (.inr (.inr (rfs (fun ii => pr + 1 + ii) 48)))))) → S lw = some (17, .inl ((g 0), 16, .inl (fun j => nI (lwf j)))) → S ll = some (18, .inl ((g 0), 16, .inl (fun j => nI (llf j)))) → S mu = some (19, .inl ((g 1), 16, .inr (.inr (.inr (.inr (rfs (fun ii => mu + 1 + ii) 16)))))) → S fa = some (20, .inl ((g 0), 16, .inl (fun j => nI ((mgF i (fun k => Nx k + (-Zf l9) * Fa k) Fa) j).val))) → S so = some (26, .inr (8, [.ref rq, .ref rp, .int (nI n9)])) → S rq = some (27, .inl ((g 1), 16, .inr (.inr (.inr (.inr (rfs (fun ii => rq + 1 + ii) 16)))))) → S rp = some (28, .inl ((g 0), 16, .inl (fun j => nI (pv j)))) → S nx = some (21, .inl ((g 0), 16, .inl (fun j => nI (Nx j).val))) → S za = some (TZ, .inl ((g 0), 3, .inl (fun j => nI (Zf j).val))) → (rS g 400 48 16 (fun ii => pr + 1 + ii) (fun ii j => nI (PT ii j).val) S) → (rS g 450 16 16 (fun ii => mu + 1 + ii) (fun ii j => nI (MU ii j).val) S) → (rS g 490 16 16 (fun ii => rq + 1 + ii) (fun ii j => nI (ρ ii j).val) S) → (∀ b t e9, B b = some (t, e9) → (t < 450 ∨ 466 ≤ t) → (t ≠ 26) → (t ≠ 28) → (t < 490 ∨ 506 ≤ t) → (t ≠ 20) → (t ≠ 21) → S b = some (t, e9)) → mp_I D classes A s.heap S H locs → lv_has ls 5 [(4, .int (nI i)), (3, .int (nI tt)), (2, .int (nI l9)), (1, .ref za), (0, .ref qo)] → (∀ (S : mp_M) (H : Heap) (locs : List Loc) (ls : Array Slot), S qo = some (14, .inr (4, [.int (nI nl), q1, .int (nI s9), .ref pr, .ref lw, .ref ll, .ref mu, .ref fa, .ref nx, q9, q10, .ref so])) → S pr = some (16, .inl ((g 1), 48, .inr (.inr (.inr (.inr (rfs (fun ii => pr + 1 + ii) 48)))))) → S lw = some (17, .inl ((g 0), 16, .inl (fun j => nI (lwf j)))) → S ll = some (18, .inl ((g 0), 16, .inl (fun j => nI (llf j)))) → S mu = some (19, .inl ((g 1), 16, .inr (.inr (.inr (.inr (rfs (fun ii => mu + 1 + ii) 16)))))) → S fa = some (20, .inl ((g 0), 16, .inl (fun j => nI ((mgF s9 (fun k => Nx k + (-Zf l9) * Fa k) Fa) j).val))) → S so = some (26, .inr (8, [.ref rq, .ref rp, .int (nI n9)])) → S rq = some (27, .inl ((g 1), 16, .inr (.inr (.inr (.inr (rfs (fun ii => rq + 1 + ii) 16)))))) → S rp = some (28, .inl ((g 0), 16, .inl (fun j => nI (pv j)))) → S nx = some (21, .inl ((g 0), 16, .inl (fun j => nI (Nx j).val))) → S za = some (TZ, .inl ((g 0), 3, .inl (fun j => nI (Zf j).val))) → (rS g 400 48 16 (fun ii => pr + 1 + ii) (fun ii j => nI (PT ii j).val) S) → (rS g 450 16 16 (fun ii => mu + 1 + ii) (fun ii j => nI (MU ii j).val) S) → (rS g 490 16 16 (fun ii => rq + 1 + ii) (fun ii j => nI (ρ ii j).val) S) → (∀ b t e9, B b = some (t, e9) → (t < 450 ∨ 466 ≤ t) → (t ≠ 26) → (t ≠ 28) → (t < 490 ∨ 506 ≤ t) → (t ≠ 20) → (t ≠ 21) → S b = some (t, e9)) → mp_I D classes A s.heap S H locs → lv_has ls 5 [(4, .int (nI s9)), (3, .int (nI tt)), (2, .int (nI l9)), (1, .ref za), (0, .ref qo)] → W p l e R s m args below meth c H locs cells slots Q (F0 m 107 ls [])) → W p l e R s m args below meth c H locs cells slots Q (F0 m 58 ls []) := by
  intro k
  induction k with
  | zero =>
    intro i S H locs ls hi h_qo h_pr h_lw h_ll h_mu h_fa h_so h_rq h_rp h_nx h_za hP hM hR hfr hI hl kx
    refine lv_iload hx hb d_Q_multiplicityAt_58 (lv_at hl 0 rfl) ?_
    refine lv_aload_n hx hb d_Q_multiplicityAt_60 rfl (lv_at hl 4 rfl) ?_
    refine mp_get (C := R_Q) (T := F_Q) (N := 12) (v := .int (nI s9)) hx hb hg i_Q hown hK.va hI h_qo rfl 2 (by decide) (hg _ q_221) (fun _ h9 => h9) rfl d_Q_multiplicityAt_61 ?_
    refine lv_icmp_ge (tgt := 107) hx hb d_Q_multiplicityAt_64 (by decide) (fun _ => ?_) (fun h9 => absurd ((nI_leI (by omega) (by omega)).mpr (by omega)) h9)
    obtain rfl : i = s9 := by omega
    exact kx S H locs ls h_qo h_pr h_lw h_ll h_mu h_fa h_so h_rq h_rp h_nx h_za hP hM hR hfr hI (lv_sub hl [0, 1, 2, 3, 4] rfl)
  | succ k ih =>
    intro i S H locs ls hi h_qo h_pr h_lw h_ll h_mu h_fa h_so h_rq h_rp h_nx h_za hP hM hR hfr hI hl kx
    refine lv_iload hx hb d_Q_multiplicityAt_58 (lv_at hl 0 rfl) ?_
    refine lv_aload_n hx hb d_Q_multiplicityAt_60 rfl (lv_at hl 4 rfl) ?_
    refine mp_get (C := R_Q) (T := F_Q) (N := 12) (v := .int (nI s9)) hx hb hg i_Q hown hK.va hI h_qo rfl 2 (by decide) (hg _ q_221) (fun _ h9 => h9) rfl d_Q_multiplicityAt_61 ?_
    refine lv_icmp_ge (tgt := 107) hx hb d_Q_multiplicityAt_64 (by decide) (fun h9 => absurd h9 (by rw [nI_leI (by omega) (by omega)]; omega)) (fun _ => ?_)
    refine lv_aload_n hx hb d_Q_multiplicityAt_67 rfl (lv_at hl 4 rfl) ?_
    refine mp_get (C := R_Q) (T := F_Q) (N := 12) (v := .ref fa) hx hb hg i_Q hown hK.va hI h_qo rfl 7 (by decide) (hg _ q_228) (fun _ h9 => h9) rfl d_Q_multiplicityAt_68 ?_
    refine lv_iload hx hb d_Q_multiplicityAt_71 (lv_at hl 0 rfl) ?_
    refine lv_aload_n hx hb d_Q_multiplicityAt_73 rfl (lv_at hl 4 rfl) ?_
    refine mp_get (C := R_Q) (T := F_Q) (N := 12) (v := .ref nx) hx hb hg i_Q hown hK.va hI h_qo rfl 8 (by decide) (hg _ q_229) (fun _ h9 => h9) rfl d_Q_multiplicityAt_74 ?_
    refine lv_iload hx hb d_Q_multiplicityAt_77 (lv_at hl 0 rfl) ?_
    refine mp_iald hx hb hK.va hI 0 h_nx rfl (vp_in_nI (show i < 16 by omega) (by omega)) d_Q_multiplicityAt_79 ?_
    refine lv_topi (fun v1 ev1 => ?_)
    obtain rfl : v1 = nI (Nx i).val := ev1.trans (by rw [nI_clamp (by omega)])
    refine lv_sipush (v := nI 32003) hx hb d_Q_multiplicityAt_80 (by decide) ?_
    refine lv_aload_n hx hb d_Q_multiplicityAt_83 rfl (lv_at hl 3 rfl) ?_
    refine lv_iload_n hx hb d_Q_multiplicityAt_84 rfl (lv_at hl 2 rfl) ?_
    refine mp_iald hx hb hK.va hI 0 h_za rfl (vp_in_nI (show l9 < 3 by omega) (by omega)) d_Q_multiplicityAt_85 ?_
    refine lv_topi (fun v2 ev2 => ?_)
    obtain rfl : v2 = nI (Zf l9).val := ev2.trans (by rw [nI_clamp (by omega)])
    refine lv_isub hx hb d_Q_multiplicityAt_86 ?_
    refine lv_topi (fun v3 ev3 => ?_)
    obtain rfl : v3 = nI (32003 - ((Zf l9).val)) := ev3.trans (pk_sub (by omega))
    refine lv_aload_n hx hb d_Q_multiplicityAt_87 rfl (lv_at hl 4 rfl) ?_
    refine mp_get (C := R_Q) (T := F_Q) (N := 12) (v := .ref fa) hx hb hg i_Q hown hK.va hI h_qo rfl 7 (by decide) (hg _ q_228) (fun _ h9 => h9) rfl d_Q_multiplicityAt_88 ?_
    refine lv_iload hx hb d_Q_multiplicityAt_91 (lv_at hl 0 rfl) ?_
    refine mp_iald hx hb hK.va hI 0 h_fa rfl (vp_in_nI (show i < 16 by omega) (by omega)) d_Q_multiplicityAt_93 ?_
    refine lv_topi (fun v4 ev4 => ?_)
    obtain rfl : v4 = nI (Fa i).val := ev4.trans (by rw [nI_clamp (by omega), mgF_ge (by omega)])
    refine lv_imul hx hb d_Q_multiplicityAt_94 ?_
    refine lv_topi (fun v5 ev5 => ?_)
    obtain rfl : v5 = nI ((32003 - ((Zf l9).val)) * ((Fa i).val)) := ev5.trans (pk_mul _ _)
    refine lv_iadd hx hb d_Q_multiplicityAt_95 ?_
    refine lv_topi (fun v6 ev6 => ?_)
    obtain rfl : v6 = nI (((Nx i).val) + ((32003 - ((Zf l9).val)) * ((Fa i).val))) := ev6.trans (nI_add _ _)
    refine lv_sipush (v := nI 32003) hx hb d_Q_multiplicityAt_96 (by decide) ?_
    refine lv_irem hx hb d_Q_multiplicityAt_99 (by decide) ?_
    refine lv_topi (fun v7 ev7 => ?_)
    obtain rfl : v7 = nI ((((Nx i).val) + ((32003 - ((Zf l9).val)) * ((Fa i).val))) % 32003) := ev7.trans (pk_rem (by first | exact fb_1 _ _ | exact fb_2 _ _ _ | exact fb_3 _ _ _ | exact fb_4 _ _ | exact fb_5 _ _ _ | omega) (by omega) (by omega))
    refine lv_topi (fun v8 ev8 => ?_)
    obtain rfl : v8 = nI (((Nx i) + ((-(Zf l9)) * (Fa i)))).val := ev8.trans (congrArg nI (fv_mod (by simp only [fc_add, fc_mul, fc_of, fc_ng, fc_0, fc_1])))
    refine lv_topi (fun v9 ev9 => ?_)
    obtain rfl : v9 = nI ((fun k => Nx k + (-Zf l9) * Fa k) i).val := ev9.trans (rfl)
    refine mp_iast hx hb hK.va hI 0 h_fa rfl (vp_in_nI (show i < 16 by omega) (by omega)) d_Q_multiplicityAt_100 (fun S10 H11 locs e_12 hI => ?_)
    have h_fa_o := h_fa
    have e_12 : S10 = va_up S fa (some (20, .inl ((g 0), 16, .inl (upd (fun j => nI ((mgF i (fun k => Nx k + (-Zf l9) * Fa k) Fa) j).val) (nI i).toNatClampNeg (nI ((fun k => Nx k + (-Zf l9) * Fa k) i).val))))) := e_12
    have h_fa_o := h_fa
    have h_qo : S10 qo = some (14, .inr (4, [.int (nI nl), q1, .int (nI s9), .ref pr, .ref lw, .ref ll, .ref mu, .ref fa, .ref nx, q9, q10, .ref so])) := by rw [e_12]; exact mp_keep h_qo h_fa (by decide)
    have h_pr : S10 pr = some (16, .inl ((g 1), 48, .inr (.inr (.inr (.inr (rfs (fun ii => pr + 1 + ii) 48)))))) := by rw [e_12]; exact mp_keep h_pr h_fa (by decide)
    have h_lw : S10 lw = some (17, .inl ((g 0), 16, .inl (fun j => nI (lwf j)))) := by rw [e_12]; exact mp_keep h_lw h_fa (by decide)
    have h_ll : S10 ll = some (18, .inl ((g 0), 16, .inl (fun j => nI (llf j)))) := by rw [e_12]; exact mp_keep h_ll h_fa (by decide)
    have h_mu : S10 mu = some (19, .inl ((g 1), 16, .inr (.inr (.inr (.inr (rfs (fun ii => mu + 1 + ii) 16)))))) := by rw [e_12]; exact mp_keep h_mu h_fa (by decide)
    have h_so : S10 so = some (26, .inr (8, [.ref rq, .ref rp, .int (nI n9)])) := by rw [e_12]; exact mp_keep h_so h_fa (by decide)
    have h_rq : S10 rq = some (27, .inl ((g 1), 16, .inr (.inr (.inr (.inr (rfs (fun ii => rq + 1 + ii) 16)))))) := by rw [e_12]; exact mp_keep h_rq h_fa (by decide)
    have h_rp : S10 rp = some (28, .inl ((g 0), 16, .inl (fun j => nI (pv j)))) := by rw [e_12]; exact mp_keep h_rp h_fa (by decide)
    have h_nx : S10 nx = some (21, .inl ((g 0), 16, .inl (fun j => nI (Nx j).val))) := by rw [e_12]; exact mp_keep h_nx h_fa (by decide)
    have h_za : S10 za = some (TZ, .inl ((g 0), 3, .inl (fun j => nI (Zf j).val))) := by rw [e_12]; exact mp_keep h_za h_fa (by omega)
    have h_fa : S10 fa = some (20, .inl ((g 0), 16, .inl (upd (fun j => nI ((mgF i (fun k => Nx k + (-Zf l9) * Fa k) Fa) j).val) (nI i).toNatClampNeg (nI ((fun k => Nx k + (-Zf l9) * Fa k) i).val)))) := by rw [e_12]; exact mp_us _ _ _
    have hP := rS_kept hP (S1 := S10) (fun b t9 e9 hb9 h1 h2 => by rw [e_12]; exact mp_un (mp_ne hb9 h_fa_o (by omega)))
    have hM := rS_kept hM (S1 := S10) (fun b t9 e9 hb9 h1 h2 => by rw [e_12]; exact mp_un (mp_ne hb9 h_fa_o (by omega)))
    have hR := rS_kept hR (S1 := S10) (fun b t9 e9 hb9 h1 h2 => by rw [e_12]; exact mp_un (mp_ne hb9 h_fa_o (by omega)))
    have hfr : ∀ b t e9, B b = some (t, e9) → (t < 450 ∨ 466 ≤ t) → (t ≠ 26) → (t ≠ 28) → (t < 490 ∨ 506 ≤ t) → (t ≠ 20) → (t ≠ 21) → S10 b = some (t, e9) := fun b t e9 h9 k0 k1 k2 k3 k4 k5 => by rw [e_12]; exact mp_keep (hfr b t e9 h9 k0 k1 k2 k3 k4 k5) h_fa_o (by omega)
    rw [nI_clamp (by omega), nIv_up] at h_fa
    have e9h_fa : (fun j => nI (va_up (mgF i (fun k => Nx k + (-Zf l9) * Fa k) Fa) i ((fun k => Nx k + (-Zf l9) * Fa k) i) j).val) = (fun j => nI ((mgF (i + 1) (fun k => Nx k + (-Zf l9) * Fa k) Fa) j).val) := by rw [mgF_up]
    rw [e9h_fa] at h_fa
    refine lv_iinc (v := nI (i + 1)) (lv' := [(4, .int (nI (i + 1))), (3, .int (nI tt)), (2, .int (nI l9)), (1, .ref za), (0, .ref qo)]) hx hb d_Q_multiplicityAt_101 hl (k := 0) rfl (nI_1 _) (by decide) rfl (fun ls hl => ?_)
    refine lv_goto (tgt := 58) hx hb d_Q_multiplicityAt_104 (by decide) ?_
    exact ih (i + 1) S10 H11 locs ls (by omega) h_qo h_pr h_lw h_ll h_mu h_fa h_so h_rq h_rp h_nx h_za hP hM hR hfr hI (lv_sub hl [0, 1, 2, 3, 4] rfl) kx
set_option maxHeartbeats 4000000 in
set_option maxRecDepth 100000 in
theorem lp_Q_mA2 {p : Program} {l : Launch} {e : Env} {R : Room} {s : State} {m : MethodId} {args : Array Value} {below : List Frame} {meth : Method} {c : Code} {Q : State → Prop} {D : mp_G} {g : Nat → ClassId} {A : Nat → Prop} {cells slots : Nat} (hx : p.tables.exec = Jvm.exec) (hb : c.code = b_Q_multiplicityAt) (hml : c.maxLocals = 5) (hg : ∀ w ∈ gw, w.before args s = true) (hown : s.vm.findClass R_Q = some m.cls) (hK : mp_K D classes (tys g) s) (hRf : 4 ≤ R.frames) (hRl : 92 ≤ R.locals) (hRc : cells ≤ R.cells) (hRs : slots ≤ R.slots) {B : mp_M} {qo pr lw ll mu fa so rq rp nx za TZ nl s9 : Nat} {q1 q9 q10 : Value} {PT : Nat → Nat → fF} {lwf llf : Nat → Nat} {Zf : Nat → fF} {n9 l9 : Nat} {MU ρ : Nat → Nat → fF} {pv : Nat → Nat} (hTZ : 506 ≤ TZ) (hnl : nl ≤ 3) (hs : s9 ≤ 16) (hlow : ∀ k, 0 < k → k < s9 → lwf k < k ∧ llf k < 3) (hGs : ∀ l, l < nl → ∀ k, 0 < k → k < s9 → ∀ j, j < s9 → mltF PT (llf k) s9 (itr (mvt s9 (mzt (ptM PT l) (Zf l))) s9 (eK (lwf k))) j = itr (mvt s9 (mzt (ptM PT l) (Zf l))) s9 (eK k) j) (hl9 : l9 < nl) : ∀ (k : Nat) (i : Nat) (Fa : Nat → fF) (Nx : Nat → fF) (S : mp_M) (H : Heap) (locs : List Loc) (ls : Array Slot), i + k = s9 → (∀ k, k < s9 → Fa k = itr (mvt s9 (mzt (ptM PT l9) (Zf l9))) i (eK 0) k) → (trn 16 Fa) → (trn 16 Nx) → S qo = some (14, .inr (4, [.int (nI nl), q1, .int (nI s9), .ref pr, .ref lw, .ref ll, .ref mu, .ref fa, .ref nx, q9, q10, .ref so])) → S pr = some (16, .inl ((g 1), 48, .inr (.inr (.inr (.inr (rfs (fun ii => pr + 1 + ii) 48)))))) → S lw = some (17, .inl ((g 0), 16, .inl (fun j => nI (lwf j)))) → S ll = some (18, .inl ((g 0), 16, .inl (fun j => nI (llf j)))) → S mu = some (19, .inl ((g 1), 16, .inr (.inr (.inr (.inr (rfs (fun ii => mu + 1 + ii) 16)))))) → S fa = some (20, .inl ((g 0), 16, .inl (fun j => nI (Fa j).val))) → S so = some (26, .inr (8, [.ref rq, .ref rp, .int (nI n9)])) → S rq = some (27, .inl ((g 1), 16, .inr (.inr (.inr (.inr (rfs (fun ii => rq + 1 + ii) 16)))))) → S rp = some (28, .inl ((g 0), 16, .inl (fun j => nI (pv j)))) → S nx = some (21, .inl ((g 0), 16, .inl (fun j => nI (Nx j).val))) → S za = some (TZ, .inl ((g 0), 3, .inl (fun j => nI (Zf j).val))) → (rS g 400 48 16 (fun ii => pr + 1 + ii) (fun ii j => nI (PT ii j).val) S) → (rS g 450 16 16 (fun ii => mu + 1 + ii) (fun ii j => nI (MU ii j).val) S) → (rS g 490 16 16 (fun ii => rq + 1 + ii) (fun ii j => nI (ρ ii j).val) S) → (∀ b t e9, B b = some (t, e9) → (t < 450 ∨ 466 ≤ t) → (t ≠ 26) → (t ≠ 28) → (t < 490 ∨ 506 ≤ t) → (t ≠ 20) → (t ≠ 21) → S b = some (t, e9)) → mp_I D classes A s.heap S H locs → lv_has ls 5 [(3, .int (nI i)), (2, .int (nI l9)), (1, .ref za), (0, .ref qo)] → (∀ (Fa : Nat → fF) (Nx : Nat → fF) (S : mp_M) (H : Heap) (locs : List Loc) (ls : Array Slot), (∀ k, k < s9 → Fa k = itr (mvt s9 (mzt (ptM PT l9) (Zf l9))) s9 (eK 0) k) → (trn 16 Fa) → (trn 16 Nx) → S qo = some (14, .inr (4, [.int (nI nl), q1, .int (nI s9), .ref pr, .ref lw, .ref ll, .ref mu, .ref fa, .ref nx, q9, q10, .ref so])) → S pr = some (16, .inl ((g 1), 48, .inr (.inr (.inr (.inr (rfs (fun ii => pr + 1 + ii) 48)))))) → S lw = some (17, .inl ((g 0), 16, .inl (fun j => nI (lwf j)))) → S ll = some (18, .inl ((g 0), 16, .inl (fun j => nI (llf j)))) → S mu = some (19, .inl ((g 1), 16, .inr (.inr (.inr (.inr (rfs (fun ii => mu + 1 + ii) 16)))))) → S fa = some (20, .inl ((g 0), 16, .inl (fun j => nI (Fa j).val))) → S so = some (26, .inr (8, [.ref rq, .ref rp, .int (nI n9)])) → S rq = some (27, .inl ((g 1), 16, .inr (.inr (.inr (.inr (rfs (fun ii => rq + 1 + ii) 16)))))) → S rp = some (28, .inl ((g 0), 16, .inl (fun j => nI (pv j)))) → S nx = some (21, .inl ((g 0), 16, .inl (fun j => nI (Nx j).val))) → S za = some (TZ, .inl ((g 0), 3, .inl (fun j => nI (Zf j).val))) → (rS g 400 48 16 (fun ii => pr + 1 + ii) (fun ii j => nI (PT ii j).val) S) → (rS g 450 16 16 (fun ii => mu + 1 + ii) (fun ii j => nI (MU ii j).val) S) → (rS g 490 16 16 (fun ii => rq + 1 + ii) (fun ii j => nI (ρ ii j).val) S) → (∀ b t e9, B b = some (t, e9) → (t < 450 ∨ 466 ≤ t) → (t ≠ 26) → (t ≠ 28) → (t < 490 ∨ 506 ≤ t) → (t ≠ 20) → (t ≠ 21) → S b = some (t, e9)) → mp_I D classes A s.heap S H locs → lv_has ls 5 [(3, .int (nI s9)), (2, .int (nI l9)), (1, .ref za), (0, .ref qo)] → W p l e R s m args below meth c H locs cells slots Q (F0 m 113 ls [])) → W p l e R s m args below meth c H locs cells slots Q (F0 m 34 ls []) := by
  intro k
  induction k with
  | zero =>
    intro i Fa Nx S H locs ls hi hF tF tN h_qo h_pr h_lw h_ll h_mu h_fa h_so h_rq h_rp h_nx h_za hP hM hR hfr hI hl kx
    refine lv_iload_n hx hb d_Q_multiplicityAt_34 rfl (lv_at hl 0 rfl) ?_
    refine lv_aload_n hx hb d_Q_multiplicityAt_35 rfl (lv_at hl 3 rfl) ?_
    refine mp_get (C := R_Q) (T := F_Q) (N := 12) (v := .int (nI s9)) hx hb hg i_Q hown hK.va hI h_qo rfl 2 (by decide) (hg _ q_221) (fun _ h9 => h9) rfl d_Q_multiplicityAt_36 ?_
    refine lv_icmp_ge (tgt := 113) hx hb d_Q_multiplicityAt_39 (by decide) (fun _ => ?_) (fun h9 => absurd ((nI_leI (by omega) (by omega)).mpr (by omega)) h9)
    obtain rfl : i = s9 := by omega
    exact kx Fa Nx S H locs ls hF tF tN h_qo h_pr h_lw h_ll h_mu h_fa h_so h_rq h_rp h_nx h_za hP hM hR hfr hI (lv_sub hl [0, 1, 2, 3] rfl)
  | succ k ih =>
    intro i Fa Nx S H locs ls hi hF tF tN h_qo h_pr h_lw h_ll h_mu h_fa h_so h_rq h_rp h_nx h_za hP hM hR hfr hI hl kx
    refine lv_iload_n hx hb d_Q_multiplicityAt_34 rfl (lv_at hl 0 rfl) ?_
    refine lv_aload_n hx hb d_Q_multiplicityAt_35 rfl (lv_at hl 3 rfl) ?_
    refine mp_get (C := R_Q) (T := F_Q) (N := 12) (v := .int (nI s9)) hx hb hg i_Q hown hK.va hI h_qo rfl 2 (by decide) (hg _ q_221) (fun _ h9 => h9) rfl d_Q_multiplicityAt_36 ?_
    refine lv_icmp_ge (tgt := 113) hx hb d_Q_multiplicityAt_39 (by decide) (fun h9 => absurd h9 (by rw [nI_leI (by omega) (by omega)]; omega)) (fun _ => ?_)
    refine lv_aload_n hx hb d_Q_multiplicityAt_42 rfl (lv_at hl 3 rfl) ?_
    refine lv_iload_n hx hb d_Q_multiplicityAt_43 rfl (lv_at hl 1 rfl) ?_
    refine lv_aload_n hx hb d_Q_multiplicityAt_44 rfl (lv_at hl 3 rfl) ?_
    refine mp_get (C := R_Q) (T := F_Q) (N := 12) (v := .ref fa) hx hb hg i_Q hown hK.va hI h_qo rfl 7 (by decide) (hg _ q_228) (fun _ h9 => h9) rfl d_Q_multiplicityAt_45 ?_
    refine lv_aload_n hx hb d_Q_multiplicityAt_48 rfl (lv_at hl 3 rfl) ?_
    refine mp_get (C := R_Q) (T := F_Q) (N := 12) (v := .ref nx) hx hb hg i_Q hown hK.va hI h_qo rfl 8 (by decide) (hg _ q_229) (fun _ h9 => h9) rfl d_Q_multiplicityAt_49 ?_
    refine mp_callv hI (va_runV (As := [.int (nI l9), .ref fa, .ref nx]) (rest := []) ⟨hx, hb, hml, hown, hg⟩ (c_Q_multiply l D g S _ qo pr fa nx 20 21 s9 l9 (.int (nI nl)) q1 (.ref lw) (.ref ll) (.ref mu) (.ref fa) (.ref nx) q9 q10 (.ref so) PT Fa Nx h_qo h_pr h_fa h_nx hP (by omega) hs (by omega)) ⟨(callB_of 3 hg (wd_goodG q_427) rfl rfl rfl (hg _ q_21) (hg _ q_424) (by decide +kernel) ⟨Nat.le_trans (Nat.le_of_ble_eq_true rfl) hRf, Nat.le_trans (Nat.le_of_ble_eq_true rfl) hRl⟩), hg _ q_426, hg _ qs_10⟩ (mp_preV (C := R_Q) (T := F_Q) hI hK h_qo rfl [.int (nI l9), .ref fa, .ref nx]) rfl rfl hl.1 rfl (lv_room (Nat.le_of_ble_eq_true rfl)) d_Q_multiplicityAt_52 ⟨by omega, by omega⟩) (fun S1 H2 locs p_3 hI => ?_)
    obtain ⟨q_nx, fq⟩ := p_3
    have h_qo : S1 qo = some (14, .inr (4, [.int (nI nl), q1, .int (nI s9), .ref pr, .ref lw, .ref ll, .ref mu, .ref fa, .ref nx, q9, q10, .ref so])) := fq qo _ _ h_qo (by omega)
    have h_pr : S1 pr = some (16, .inl ((g 1), 48, .inr (.inr (.inr (.inr (rfs (fun ii => pr + 1 + ii) 48)))))) := fq pr _ _ h_pr (by omega)
    have h_lw : S1 lw = some (17, .inl ((g 0), 16, .inl (fun j => nI (lwf j)))) := fq lw _ _ h_lw (by omega)
    have h_ll : S1 ll = some (18, .inl ((g 0), 16, .inl (fun j => nI (llf j)))) := fq ll _ _ h_ll (by omega)
    have h_mu : S1 mu = some (19, .inl ((g 1), 16, .inr (.inr (.inr (.inr (rfs (fun ii => mu + 1 + ii) 16)))))) := fq mu _ _ h_mu (by omega)
    have h_fa : S1 fa = some (20, .inl ((g 0), 16, .inl (fun j => nI (Fa j).val))) := fq fa _ _ h_fa (by omega)
    have h_so : S1 so = some (26, .inr (8, [.ref rq, .ref rp, .int (nI n9)])) := fq so _ _ h_so (by omega)
    have h_rq : S1 rq = some (27, .inl ((g 1), 16, .inr (.inr (.inr (.inr (rfs (fun ii => rq + 1 + ii) 16)))))) := fq rq _ _ h_rq (by omega)
    have h_rp : S1 rp = some (28, .inl ((g 0), 16, .inl (fun j => nI (pv j)))) := fq rp _ _ h_rp (by omega)
    have h_za : S1 za = some (TZ, .inl ((g 0), 3, .inl (fun j => nI (Zf j).val))) := fq za _ _ h_za (by omega)
    have hfr : ∀ b t e9, B b = some (t, e9) → (t < 450 ∨ 466 ≤ t) → (t ≠ 26) → (t ≠ 28) → (t < 490 ∨ 506 ≤ t) → (t ≠ 20) → (t ≠ 21) → S1 b = some (t, e9) := fun b t e9 h9 k0 k1 k2 k3 k4 k5 => by have h8 := hfr b t e9 h9 k0 k1 k2 k3 k4 k5; exact fq b _ _ h8 (by omega)
    have hP := rS_kept hP (S1 := S1) (fun b t9 e9 hb9 h1 h2 => by have h8 : S1 b = some (t9, e9) := fq b _ _ hb9 (by omega); rw [h8, hb9])
    have hM := rS_kept hM (S1 := S1) (fun b t9 e9 hb9 h1 h2 => by have h8 : S1 b = some (t9, e9) := fq b _ _ hb9 (by omega); rw [h8, hb9])
    have hR := rS_kept hR (S1 := S1) (fun b t9 e9 hb9 h1 h2 => by have h8 : S1 b = some (t9, e9) := fq b _ _ hb9 (by omega); rw [h8, hb9])
    have h_nx := q_nx
    refine lv_iconst (v := nI 0) hx hb d_Q_multiplicityAt_55 (by decide) ?_
    refine lv_istore (lv' := [(4, .int (nI 0)), (3, .int (nI i)), (2, .int (nI l9)), (1, .ref za), (0, .ref qo)]) hx hb d_Q_multiplicityAt_56 hl (by decide) rfl (fun ls hl => ?_)
    rw [← mgF_0 (fun k => (mgF s9 (mltF PT l9 s9 Fa) Nx) k + (-Zf l9) * Fa k) Fa] at h_fa
    refine lp_Q_mA1 (B := B) (qo := qo) (pr := pr) (lw := lw) (ll := ll) (mu := mu) (fa := fa) (so := so) (rq := rq) (rp := rp) (nx := nx) (za := za) (TZ := TZ) (nl := nl) (s9 := s9) (q1 := q1) (q9 := q9) (q10 := q10) (PT := PT) (lwf := lwf) (llf := llf) (Zf := Zf) (n9 := n9) (l9 := l9) (tt := i) (Fa := Fa) (Nx := (mgF s9 (mltF PT l9 s9 Fa) Nx)) (MU := MU) (ρ := ρ) (pv := pv) hx hb hml hg hown hK (Nat.le_trans (Nat.le_of_ble_eq_true rfl) hRf) (Nat.le_trans (Nat.le_of_ble_eq_true rfl) hRl) (by omega) (by omega) hTZ hnl hs hlow hGs hl9 s9 0 S1 H2 _ ls (by omega) h_qo h_pr h_lw h_ll h_mu h_fa h_so h_rq h_rp h_nx h_za hP hM hR hfr hI (lv_sub hl [0, 1, 2, 3, 4] rfl) (fun S5 H6 locs ls j_qo j_pr j_lw j_ll j_mu j_fa j_so j_rq j_rp j_nx j_za hP hM hR hfr hI hl => ?_)
    refine lv_iinc (v := nI (i + 1)) (lv' := [(3, .int (nI (i + 1))), (4, .int (nI s9)), (2, .int (nI l9)), (1, .ref za), (0, .ref qo)]) hx hb d_Q_multiplicityAt_107 hl (k := 1) rfl (nI_1 _) (by decide) rfl (fun ls hl => ?_)
    refine lv_goto (tgt := 34) hx hb d_Q_multiplicityAt_110 (by decide) ?_
    exact ih (i + 1) (mgF s9 (fun k => (mgF s9 (mltF PT l9 s9 Fa) Nx) k + (-Zf l9) * Fa k) Fa) (mgF s9 (mltF PT l9 s9 Fa) Nx) S5 H6 locs ls (by omega) (fun k hk => by rw [mgF_lt hk]; (try dsimp only); rw [mgF_lt hk, mlt_mv hk, mA_st hF hk]) (mg_t16 hs tF) (mg_t16 hs tN) j_qo j_pr j_lw j_ll j_mu j_fa j_so j_rq j_rp j_nx j_za hP hM hR hfr hI (lv_sub hl [0, 2, 3, 4] rfl) kx
set_option maxHeartbeats 4000000 in
set_option maxRecDepth 100000 in
theorem lp_Q_mA3 {p : Program} {l : Launch} {e : Env} {R : Room} {s : State} {m : MethodId} {args : Array Value} {below : List Frame} {meth : Method} {c : Code} {Q : State → Prop} {D : mp_G} {g : Nat → ClassId} {A : Nat → Prop} {cells slots : Nat} (hx : p.tables.exec = Jvm.exec) (hb : c.code = b_Q_multiplicityAt) (hml : c.maxLocals = 5) (hg : ∀ w ∈ gw, w.before args s = true) (hown : s.vm.findClass R_Q = some m.cls) (hK : mp_K D classes (tys g) s) (hRf : 4 ≤ R.frames) (hRl : 92 ≤ R.locals) (hRc : cells ≤ R.cells) (hRs : slots ≤ R.slots) {B : mp_M} {qo pr lw ll mu fa so rq rp nx za TZ nl s9 : Nat} {q1 q9 q10 : Value} {PT : Nat → Nat → fF} {lwf llf : Nat → Nat} {Zf : Nat → fF} (hTZ : 506 ≤ TZ) (hnl : nl ≤ 3) (hs : s9 ≤ 16) (hlow : ∀ k, 0 < k → k < s9 → lwf k < k ∧ llf k < 3) (hGs : ∀ l, l < nl → ∀ k, 0 < k → k < s9 → ∀ j, j < s9 → mltF PT (llf k) s9 (itr (mvt s9 (mzt (ptM PT l) (Zf l))) s9 (eK (lwf k))) j = itr (mvt s9 (mzt (ptM PT l) (Zf l))) s9 (eK k) j) : ∀ (k : Nat) (i : Nat) (Fa : Nat → fF) (Nx : Nat → fF) (n9 : Nat) (MU : Nat → Nat → fF) (ρ : Nat → Nat → fF) (pv : Nat → Nat) (S : mp_M) (H : Heap) (locs : List Loc) (ls : Array Slot), i + k = nl → (trn 16 Fa) → (trn 16 Nx) → (n9 ≤ 16) → (spn s9 n9 ρ pv) → (∀ r, trn 16 (ρ r)) → (∀ r, trn 16 (MU r)) → (∀ bb : Nat → fF, (∀ a, a < n9 → sm s9 (fun i => bb i * ρ a i) = 0) ↔ (∀ l, l < i → ∀ r, r < s9 → sm s9 (fun i => bb i * itr (mvt s9 (mzt (ptM PT l) (Zf l))) s9 (eK r) i) = 0)) → S qo = some (14, .inr (4, [.int (nI nl), q1, .int (nI s9), .ref pr, .ref lw, .ref ll, .ref mu, .ref fa, .ref nx, q9, q10, .ref so])) → S pr = some (16, .inl ((g 1), 48, .inr (.inr (.inr (.inr (rfs (fun ii => pr + 1 + ii) 48)))))) → S lw = some (17, .inl ((g 0), 16, .inl (fun j => nI (lwf j)))) → S ll = some (18, .inl ((g 0), 16, .inl (fun j => nI (llf j)))) → S mu = some (19, .inl ((g 1), 16, .inr (.inr (.inr (.inr (rfs (fun ii => mu + 1 + ii) 16)))))) → S fa = some (20, .inl ((g 0), 16, .inl (fun j => nI (Fa j).val))) → S so = some (26, .inr (8, [.ref rq, .ref rp, .int (nI n9)])) → S rq = some (27, .inl ((g 1), 16, .inr (.inr (.inr (.inr (rfs (fun ii => rq + 1 + ii) 16)))))) → S rp = some (28, .inl ((g 0), 16, .inl (fun j => nI (pv j)))) → S nx = some (21, .inl ((g 0), 16, .inl (fun j => nI (Nx j).val))) → S za = some (TZ, .inl ((g 0), 3, .inl (fun j => nI (Zf j).val))) → (rS g 400 48 16 (fun ii => pr + 1 + ii) (fun ii j => nI (PT ii j).val) S) → (rS g 450 16 16 (fun ii => mu + 1 + ii) (fun ii j => nI (MU ii j).val) S) → (rS g 490 16 16 (fun ii => rq + 1 + ii) (fun ii j => nI (ρ ii j).val) S) → (∀ b t e9, B b = some (t, e9) → (t < 450 ∨ 466 ≤ t) → (t ≠ 26) → (t ≠ 28) → (t < 490 ∨ 506 ≤ t) → (t ≠ 20) → (t ≠ 21) → S b = some (t, e9)) → mp_I D classes A s.heap S H locs → lv_has ls 5 [(2, .int (nI i)), (1, .ref za), (0, .ref qo)] → (∀ (Fa : Nat → fF) (Nx : Nat → fF) (n9 : Nat) (MU : Nat → Nat → fF) (ρ : Nat → Nat → fF) (pv : Nat → Nat) (S : mp_M) (H : Heap) (locs : List Loc) (ls : Array Slot), (trn 16 Fa) → (trn 16 Nx) → (n9 ≤ 16) → (spn s9 n9 ρ pv) → (∀ r, trn 16 (ρ r)) → (∀ r, trn 16 (MU r)) → (∀ bb : Nat → fF, (∀ a, a < n9 → sm s9 (fun nl => bb nl * ρ a nl) = 0) ↔ (∀ l, l < nl → ∀ r, r < s9 → sm s9 (fun nl => bb nl * itr (mvt s9 (mzt (ptM PT l) (Zf l))) s9 (eK r) nl) = 0)) → S qo = some (14, .inr (4, [.int (nI nl), q1, .int (nI s9), .ref pr, .ref lw, .ref ll, .ref mu, .ref fa, .ref nx, q9, q10, .ref so])) → S pr = some (16, .inl ((g 1), 48, .inr (.inr (.inr (.inr (rfs (fun ii => pr + 1 + ii) 48)))))) → S lw = some (17, .inl ((g 0), 16, .inl (fun j => nI (lwf j)))) → S ll = some (18, .inl ((g 0), 16, .inl (fun j => nI (llf j)))) → S mu = some (19, .inl ((g 1), 16, .inr (.inr (.inr (.inr (rfs (fun ii => mu + 1 + ii) 16)))))) → S fa = some (20, .inl ((g 0), 16, .inl (fun j => nI (Fa j).val))) → S so = some (26, .inr (8, [.ref rq, .ref rp, .int (nI n9)])) → S rq = some (27, .inl ((g 1), 16, .inr (.inr (.inr (.inr (rfs (fun ii => rq + 1 + ii) 16)))))) → S rp = some (28, .inl ((g 0), 16, .inl (fun j => nI (pv j)))) → S nx = some (21, .inl ((g 0), 16, .inl (fun j => nI (Nx j).val))) → S za = some (TZ, .inl ((g 0), 3, .inl (fun j => nI (Zf j).val))) → (rS g 400 48 16 (fun ii => pr + 1 + ii) (fun ii j => nI (PT ii j).val) S) → (rS g 450 16 16 (fun ii => mu + 1 + ii) (fun ii j => nI (MU ii j).val) S) → (rS g 490 16 16 (fun ii => rq + 1 + ii) (fun ii j => nI (ρ ii j).val) S) → (∀ b t e9, B b = some (t, e9) → (t < 450 ∨ 466 ≤ t) → (t ≠ 26) → (t ≠ 28) → (t < 490 ∨ 506 ≤ t) → (t ≠ 20) → (t ≠ 21) → S b = some (t, e9)) → mp_I D classes A s.heap S H locs → lv_has ls 5 [(2, .int (nI nl)), (1, .ref za), (0, .ref qo)] → W p l e R s m args below meth c H locs cells slots Q (F0 m 123 ls [])) → W p l e R s m args below meth c H locs cells slots Q (F0 m 10 ls []) := by
  intro k
  induction k with
  | zero =>
    intro i Fa Nx n9 MU ρ pv S H locs ls hi tF tN hn9 hsp tρ tM heq h_qo h_pr h_lw h_ll h_mu h_fa h_so h_rq h_rp h_nx h_za hP hM hR hfr hI hl kx
    refine lv_iload_n hx hb d_Q_multiplicityAt_10 rfl (lv_at hl 0 rfl) ?_
    refine lv_aload_n hx hb d_Q_multiplicityAt_11 rfl (lv_at hl 2 rfl) ?_
    refine mp_get (C := R_Q) (T := F_Q) (N := 12) (v := .int (nI nl)) hx hb hg i_Q hown hK.va hI h_qo rfl 0 (by decide) (hg _ q_217) (fun _ h9 => h9) rfl d_Q_multiplicityAt_12 ?_
    refine lv_icmp_ge (tgt := 123) hx hb d_Q_multiplicityAt_15 (by decide) (fun _ => ?_) (fun h9 => absurd ((nI_leI (by omega) (by omega)).mpr (by omega)) h9)
    obtain rfl : i = nl := by omega
    exact kx Fa Nx n9 MU ρ pv S H locs ls tF tN hn9 hsp tρ tM heq h_qo h_pr h_lw h_ll h_mu h_fa h_so h_rq h_rp h_nx h_za hP hM hR hfr hI (lv_sub hl [0, 1, 2] rfl)
  | succ k ih =>
    intro i Fa Nx n9 MU ρ pv S H locs ls hi tF tN hn9 hsp tρ tM heq h_qo h_pr h_lw h_ll h_mu h_fa h_so h_rq h_rp h_nx h_za hP hM hR hfr hI hl kx
    refine lv_iload_n hx hb d_Q_multiplicityAt_10 rfl (lv_at hl 0 rfl) ?_
    refine lv_aload_n hx hb d_Q_multiplicityAt_11 rfl (lv_at hl 2 rfl) ?_
    refine mp_get (C := R_Q) (T := F_Q) (N := 12) (v := .int (nI nl)) hx hb hg i_Q hown hK.va hI h_qo rfl 0 (by decide) (hg _ q_217) (fun _ h9 => h9) rfl d_Q_multiplicityAt_12 ?_
    refine lv_icmp_ge (tgt := 123) hx hb d_Q_multiplicityAt_15 (by decide) (fun h9 => absurd h9 (by rw [nI_leI (by omega) (by omega)]; omega)) (fun _ => ?_)
    refine lv_iload_n hx hb d_Q_multiplicityAt_18 rfl (lv_at hl 0 rfl) ?_
    refine lv_aload_n hx hb d_Q_multiplicityAt_19 rfl (lv_at hl 1 rfl) ?_
    refine mp_alen (v := nI 3) hx hb hK.va hI 0 h_za rfl rfl d_Q_multiplicityAt_20 ?_
    refine lv_icmp_ge (tgt := 123) hx hb d_Q_multiplicityAt_21 (by decide) (fun h9 => absurd h9 (by rw [nI_leI (by omega) (by omega)]; omega)) (fun _ => ?_)
    refine lv_aload_n hx hb d_Q_multiplicityAt_24 rfl (lv_at hl 2 rfl) ?_
    refine lv_aload_n hx hb d_Q_multiplicityAt_25 rfl (lv_at hl 2 rfl) ?_
    refine mp_get (C := R_Q) (T := F_Q) (N := 12) (v := .ref fa) hx hb hg i_Q hown hK.va hI h_qo rfl 7 (by decide) (hg _ q_228) (fun _ h9 => h9) rfl d_Q_multiplicityAt_26 ?_
    refine mp_callv hI (va_runV (As := [.ref fa]) (rest := []) ⟨hx, hb, hml, hown, hg⟩ (c_Q_setOne l D g S _ qo fa 20 s9 (.int (nI nl)) q1 (.ref pr) (.ref lw) (.ref ll) (.ref mu) (.ref fa) (.ref nx) q9 q10 (.ref so) Fa h_qo h_fa (by decide) hs tF) ⟨(callB_of 1 hg (wd_goodG q_393) rfl rfl rfl (hg _ q_21) (hg _ q_390) (by decide +kernel) ⟨Nat.le_trans (Nat.le_of_ble_eq_true rfl) hRf, Nat.le_trans (Nat.le_of_ble_eq_true rfl) hRl⟩), hg _ q_392, hg _ qs_6⟩ (mp_preV (C := R_Q) (T := F_Q) hI hK h_qo rfl [.ref fa]) rfl rfl hl.1 rfl (lv_room (Nat.le_of_ble_eq_true rfl)) d_Q_multiplicityAt_29 ⟨by omega, by omega⟩) (fun S1 H2 locs p_3 hI => ?_)
    obtain ⟨q_fa, fq⟩ := p_3
    have h_qo : S1 qo = some (14, .inr (4, [.int (nI nl), q1, .int (nI s9), .ref pr, .ref lw, .ref ll, .ref mu, .ref fa, .ref nx, q9, q10, .ref so])) := fq qo _ _ h_qo (by omega)
    have h_pr : S1 pr = some (16, .inl ((g 1), 48, .inr (.inr (.inr (.inr (rfs (fun ii => pr + 1 + ii) 48)))))) := fq pr _ _ h_pr (by omega)
    have h_lw : S1 lw = some (17, .inl ((g 0), 16, .inl (fun j => nI (lwf j)))) := fq lw _ _ h_lw (by omega)
    have h_ll : S1 ll = some (18, .inl ((g 0), 16, .inl (fun j => nI (llf j)))) := fq ll _ _ h_ll (by omega)
    have h_mu : S1 mu = some (19, .inl ((g 1), 16, .inr (.inr (.inr (.inr (rfs (fun ii => mu + 1 + ii) 16)))))) := fq mu _ _ h_mu (by omega)
    have h_so : S1 so = some (26, .inr (8, [.ref rq, .ref rp, .int (nI n9)])) := fq so _ _ h_so (by omega)
    have h_rq : S1 rq = some (27, .inl ((g 1), 16, .inr (.inr (.inr (.inr (rfs (fun ii => rq + 1 + ii) 16)))))) := fq rq _ _ h_rq (by omega)
    have h_rp : S1 rp = some (28, .inl ((g 0), 16, .inl (fun j => nI (pv j)))) := fq rp _ _ h_rp (by omega)
    have h_nx : S1 nx = some (21, .inl ((g 0), 16, .inl (fun j => nI (Nx j).val))) := fq nx _ _ h_nx (by omega)
    have h_za : S1 za = some (TZ, .inl ((g 0), 3, .inl (fun j => nI (Zf j).val))) := fq za _ _ h_za (by omega)
    have hfr : ∀ b t e9, B b = some (t, e9) → (t < 450 ∨ 466 ≤ t) → (t ≠ 26) → (t ≠ 28) → (t < 490 ∨ 506 ≤ t) → (t ≠ 20) → (t ≠ 21) → S1 b = some (t, e9) := fun b t e9 h9 k0 k1 k2 k3 k4 k5 => by have h8 := hfr b t e9 h9 k0 k1 k2 k3 k4 k5; exact fq b _ _ h8 (by omega)
    have hP := rS_kept hP (S1 := S1) (fun b t9 e9 hb9 h1 h2 => by have h8 : S1 b = some (t9, e9) := fq b _ _ hb9 (by omega); rw [h8, hb9])
    have hM := rS_kept hM (S1 := S1) (fun b t9 e9 hb9 h1 h2 => by have h8 : S1 b = some (t9, e9) := fq b _ _ hb9 (by omega); rw [h8, hb9])
    have hR := rS_kept hR (S1 := S1) (fun b t9 e9 hb9 h1 h2 => by have h8 : S1 b = some (t9, e9) := fq b _ _ hb9 (by omega); rw [h8, hb9])
    have h_fa := q_fa
    refine lv_iconst (v := nI 0) hx hb d_Q_multiplicityAt_32 (by decide) ?_
    refine lv_istore_n (lv' := [(3, .int (nI 0)), (2, .int (nI i)), (1, .ref za), (0, .ref qo)]) hx hb d_Q_multiplicityAt_33 rfl hl (by decide) rfl (fun ls hl => ?_)
    refine lp_Q_mA2 (B := B) (qo := qo) (pr := pr) (lw := lw) (ll := ll) (mu := mu) (fa := fa) (so := so) (rq := rq) (rp := rp) (nx := nx) (za := za) (TZ := TZ) (nl := nl) (s9 := s9) (q1 := q1) (q9 := q9) (q10 := q10) (PT := PT) (lwf := lwf) (llf := llf) (Zf := Zf) (n9 := n9) (l9 := i) (MU := MU) (ρ := ρ) (pv := pv) hx hb hml hg hown hK (Nat.le_trans (Nat.le_of_ble_eq_true rfl) hRf) (Nat.le_trans (Nat.le_of_ble_eq_true rfl) hRl) (by omega) (by omega) hTZ hnl hs hlow hGs (by omega) s9 0 (sO s9) Nx S1 H2 _ ls (by omega) (fun k hk => by rw [mA_0 hk]; rfl) (sO_t s9) tN h_qo h_pr h_lw h_ll h_mu h_fa h_so h_rq h_rp h_nx h_za hP hM hR hfr hI (lv_sub hl [0, 1, 2, 3] rfl) (fun F2 N2 S5 H6 locs ls hF tF tN j_qo j_pr j_lw j_ll j_mu j_fa j_so j_rq j_rp j_nx j_za hP hM hR hfr hI hl => ?_)
    refine lv_aload_n hx hb d_Q_multiplicityAt_113 rfl (lv_at hl 3 rfl) ?_
    refine mp_callv hI (va_runV (As := []) (rest := []) ⟨hx, hb, hml, hown, hg⟩ (c_Q_amf l D g S5 _ qo pr lw ll mu fa so rq rp s9 (.int (nI nl)) q1 (.ref nx) q9 q10 PT lwf llf F2 (fun k => itr (mvt s9 (mzt (ptM PT i) (Zf i))) s9 (eK k)) n9 MU ρ pv j_qo j_pr j_lw j_ll j_mu j_fa j_so j_rq j_rp hP hM hR hs (fun j hj => hF j hj) hlow (hGs i (by omega)) tF hn9 hsp tρ tM) ⟨(callB_of 0 hg (wd_goodG q_522) rfl rfl rfl (hg _ q_21) (hg _ q_519) (by decide +kernel) ⟨Nat.le_trans (Nat.le_of_ble_eq_true rfl) hRf, Nat.le_trans (Nat.le_of_ble_eq_true rfl) hRl⟩), hg _ q_521, hg _ qs_18⟩ (mp_preV (C := R_Q) (T := F_Q) hI hK j_qo rfl []) rfl rfl hl.1 rfl (lv_room (Nat.le_of_ble_eq_true rfl)) d_Q_multiplicityAt_114 ⟨by omega, by omega⟩) (fun S7 H8 locs p_9 hI => ?_)
    obtain ⟨n1, MU1, ρ1, p1, hn1, hsp1, tρ1, tM1, heq1, q_so, q_rp, q_M, q_R, fq⟩ := p_9
    have j_qo : S7 qo = some (14, .inr (4, [.int (nI nl), q1, .int (nI s9), .ref pr, .ref lw, .ref ll, .ref mu, .ref fa, .ref nx, q9, q10, .ref so])) := fq qo _ _ j_qo (by omega) (by omega) (by omega) (by omega)
    have j_pr : S7 pr = some (16, .inl ((g 1), 48, .inr (.inr (.inr (.inr (rfs (fun ii => pr + 1 + ii) 48)))))) := fq pr _ _ j_pr (by omega) (by omega) (by omega) (by omega)
    have j_lw : S7 lw = some (17, .inl ((g 0), 16, .inl (fun j => nI (lwf j)))) := fq lw _ _ j_lw (by omega) (by omega) (by omega) (by omega)
    have j_ll : S7 ll = some (18, .inl ((g 0), 16, .inl (fun j => nI (llf j)))) := fq ll _ _ j_ll (by omega) (by omega) (by omega) (by omega)
    have j_mu : S7 mu = some (19, .inl ((g 1), 16, .inr (.inr (.inr (.inr (rfs (fun ii => mu + 1 + ii) 16)))))) := fq mu _ _ j_mu (by omega) (by omega) (by omega) (by omega)
    have j_fa : S7 fa = some (20, .inl ((g 0), 16, .inl (fun j => nI (F2 j).val))) := fq fa _ _ j_fa (by omega) (by omega) (by omega) (by omega)
    have j_rq : S7 rq = some (27, .inl ((g 1), 16, .inr (.inr (.inr (.inr (rfs (fun ii => rq + 1 + ii) 16)))))) := fq rq _ _ j_rq (by omega) (by omega) (by omega) (by omega)
    have j_nx : S7 nx = some (21, .inl ((g 0), 16, .inl (fun j => nI (N2 j).val))) := fq nx _ _ j_nx (by omega) (by omega) (by omega) (by omega)
    have j_za : S7 za = some (TZ, .inl ((g 0), 3, .inl (fun j => nI (Zf j).val))) := fq za _ _ j_za (by omega) (by omega) (by omega) (by omega)
    have hfr : ∀ b t e9, B b = some (t, e9) → (t < 450 ∨ 466 ≤ t) → (t ≠ 26) → (t ≠ 28) → (t < 490 ∨ 506 ≤ t) → (t ≠ 20) → (t ≠ 21) → S7 b = some (t, e9) := fun b t e9 h9 k0 k1 k2 k3 k4 k5 => by have h8 := hfr b t e9 h9 k0 k1 k2 k3 k4 k5; exact fq b _ _ h8 (by omega) (by omega) (by omega) (by omega)
    have hP := rS_kept hP (S1 := S7) (fun b t9 e9 hb9 h1 h2 => by have h8 : S7 b = some (t9, e9) := fq b _ _ hb9 (by omega) (by omega) (by omega) (by omega); rw [h8, hb9])
    have hM := q_M
    have hR := q_R
    refine lv_iinc (v := nI (i + 1)) (lv' := [(2, .int (nI (i + 1))), (3, .int (nI s9)), (1, .ref za), (0, .ref qo)]) hx hb d_Q_multiplicityAt_117 hl (k := 1) rfl (nI_1 _) (by decide) rfl (fun ls hl => ?_)
    refine lv_goto (tgt := 10) hx hb d_Q_multiplicityAt_120 (by decide) ?_
    exact ih (i + 1) F2 N2 n1 MU1 ρ1 p1 S7 H8 locs ls (by omega) tF tN hn1 hsp1 tρ1 tM1 (fun bb => by rw [heq1 bb, heq bb]; exact mA_and) j_qo j_pr j_lw j_ll j_mu j_fa q_so j_rq q_rp j_nx j_za hP hM hR hfr hI (lv_sub hl [0, 2, 3] rfl) kx
set_option maxHeartbeats 4000000 in
set_option maxRecDepth 100000 in
/-- how often a zero counts -/
theorem c_Q_multiplicityAt (l : Launch) (D : mp_G) (g : Nat → ClassId) (S : mp_M) (sz : Nat) (qo pr lw ll mu fa so rq rp nx za TZ nl s9 : Nat) (q1 q9 q10 : Value) (PT : Nat → Nat → fF) (lwf llf : Nat → Nat) (Zf : Nat → fF) (z0 : Int32) (Fa Nx : Nat → fF) (MU ρ : Nat → Nat → fF) (pv : Nat → Nat) (h_qo : S qo = some (14, .inr (4, [.int (nI nl), q1, .int (nI s9), .ref pr, .ref lw, .ref ll, .ref mu, .ref fa, .ref nx, q9, q10, .ref so]))) (h_pr : S pr = some (16, .inl ((g 1), 48, .inr (.inr (.inr (.inr (rfs (fun ii => pr + 1 + ii) 48))))))) (h_lw : S lw = some (17, .inl ((g 0), 16, .inl (fun j => nI (lwf j))))) (h_ll : S ll = some (18, .inl ((g 0), 16, .inl (fun j => nI (llf j))))) (h_mu : S mu = some (19, .inl ((g 1), 16, .inr (.inr (.inr (.inr (rfs (fun ii => mu + 1 + ii) 16))))))) (h_fa : S fa = some (20, .inl ((g 0), 16, .inl (fun j => nI (Fa j).val)))) (h_so : S so = some (26, .inr (8, [.ref rq, .ref rp, .int z0]))) (h_rq : S rq = some (27, .inl ((g 1), 16, .inr (.inr (.inr (.inr (rfs (fun ii => rq + 1 + ii) 16))))))) (h_rp : S rp = some (28, .inl ((g 0), 16, .inl (fun j => nI (pv j))))) (h_nx : S nx = some (21, .inl ((g 0), 16, .inl (fun j => nI (Nx j).val)))) (h_za : S za = some (TZ, .inl ((g 0), 3, .inl (fun j => nI (Zf j).val)))) (hP : rS g 400 48 16 (fun ii => pr + 1 + ii) (fun ii j => nI (PT ii j).val) S) (hM : rS g 450 16 16 (fun ii => mu + 1 + ii) (fun ii j => nI (MU ii j).val) S) (hR : rS g 490 16 16 (fun ii => rq + 1 + ii) (fun ii j => nI (ρ ii j).val) S) (hTZ : 506 ≤ TZ) (hnl : nl ≤ 3) (hs : s9 ≤ 16) (hlow : ∀ k, 0 < k → k < s9 → lwf k < k ∧ llf k < 3) (hGs : ∀ l, l < nl → ∀ k, 0 < k → k < s9 → ∀ j, j < s9 → mltF PT (llf k) s9 (itr (mvt s9 (mzt (ptM PT l) (Zf l))) s9 (eK (lwf k))) j = itr (mvt s9 (mzt (ptM PT l) (Zf l))) s9 (eK k) j) (tF : trn 16 Fa) (tN : trn 16 Nx) (tρ : ∀ r, trn 16 (ρ r)) (tM : ∀ r, trn 16 (MU r)) : Met l y_Q_multiplicityAt w_Q_multiplicityAt ({ frames := 4, cells := 0, slots := 0, locals := 92 }) (va_Pc [.ref qo, .ref za] (mp_B0 D classes (tys g) S sz)) (va_Qi (fun (r : Int32) (S1 : mp_M) => ∃ (n1 : Nat) (F1 N1 : Nat → fF) (MU1 ρ1 : Nat → Nat → fF) (p1 : Nat → Nat), n1 ≤ s9 ∧ r = nI (s9 - n1) ∧ spn s9 n1 ρ1 p1 ∧ (∀ bb : Nat → fF, (∀ a, a < n1 → sm s9 (fun i => bb i * ρ1 a i) = 0) ↔ (∀ l, l < nl → ∀ r, r < s9 → sm s9 (fun i => bb i * itr (mvt s9 (mzt (ptM PT l) (Zf l))) s9 (eK r) i) = 0)) ∧ S1 fa = some (20, .inl ((g 0), 16, .inl (fun j => nI (F1 j).val))) ∧ S1 nx = some (21, .inl ((g 0), 16, .inl (fun j => nI (N1 j).val))) ∧ S1 so = some (26, .inr (8, [.ref rq, .ref rp, .int (nI n1)])) ∧ S1 rp = some (28, .inl ((g 0), 16, .inl (fun j => nI (p1 j)))) ∧ (rS g 450 16 16 (fun ii => mu + 1 + ii) (fun ii j => nI (MU1 ii j).val) S1) ∧ (rS g 490 16 16 (fun ii => rq + 1 + ii) (fun ii j => nI (ρ1 ii j).val) S1) ∧ trn 16 F1 ∧ trn 16 N1 ∧ (∀ r, trn 16 (ρ1 r)) ∧ (∀ r, trn 16 (MU1 r)) ∧ (∀ b t e9, S b = some (t, e9) → (t < 450 ∨ 466 ≤ t) → (t ≠ 26) → (t ≠ 28) → (t < 490 ∨ 506 ≤ t) → (t ≠ 20) → (t ≠ 21) → S1 b = some (t, e9))) (mp_B1 D classes S sz) (mp_A S sz)) 0 0 (mp_A S sz) := by
  refine Met.ofW (cc := b_Q_multiplicityAt) (maxL := 5) (ret := (some .int)) (by decide) rfl ?_
  intro p e s m args below meth c s₁ B hml hv
  obtain ⟨rfl, hsz, hH, hK⟩ := hv
  have hx := B.exec
  have hb := B.bytes
  have hr := B.returns
  have hts := atoms_spec (ws := w_Q_multiplicityAt) B.pre
  have hg : ∀ w ∈ gw, w.before _ s = true := fun w h => hts w (List.mem_cons_of_mem _ h)
  have hown : s.vm.findClass R_Q = some m.cls := findClass_of_methodNamed B.named
  have hlocks := B.notSynchronized
  subst hsz
  have hI := mp_I.start hH
  have hl := lv_entry ([.ref qo, .ref za]) (n := 5) (Nat.le_of_ble_eq_true rfl)
  rw [lg_entry_eq]
  generalize (lg_sl ([.ref qo, .ref za]) ++ List.replicate (5 - (lg_sl ([.ref qo, .ref za])).length) Slot.unset).toArray = ls at hl ⊢
  have hl : lv_has ls 5 [(0, .ref qo), (1, .ref za)] := hl
  have hfr : ∀ b t e9, S b = some (t, e9) → (t < 450 ∨ 466 ≤ t) → (t ≠ 26) → (t ≠ 28) → (t < 490 ∨ 506 ≤ t) → (t ≠ 20) → (t ≠ 21) → S b = some (t, e9) := fun _ _ _ h9 _ _ _ _ _ _ => h9
  refine lv_aload_n hx hb d_Q_multiplicityAt_0 rfl (lv_at hl 0 rfl) ?_
  refine mp_get (C := R_Q) (T := F_Q) (N := 12) (v := .ref so) hx hb hg i_Q hown hK.va hI h_qo rfl 11 (by decide) (hg _ q_232) (fun _ h9 => h9) rfl d_Q_multiplicityAt_1 ?_
  refine lv_iconst (v := nI 0) hx hb d_Q_multiplicityAt_4 (by decide) ?_
  refine mp_putN (C := R_N) (T := F_N) (N := 3) (v := .int (nI 0)) (ty := .int) hx hb hg i_N t_N t_N_ok n_N hown hK.va hI h_so rfl 2 (by decide) (hK.use q_209 rfl) (fun _ h9 => h9) rfl (by decide +kernel) (rfl) rfl (Nat.le_of_ble_eq_true rfl) d_Q_multiplicityAt_5 (fun S1 H2 locs e_3 hI => ?_)
  have h_so_o := h_so
  have e_3 : S1 = va_up S so (some (26, .inr (8, [.ref rq, .ref rp, .int (nI 0)]))) := e_3
  have h_so_o := h_so
  have h_qo : S1 qo = some (14, .inr (4, [.int (nI nl), q1, .int (nI s9), .ref pr, .ref lw, .ref ll, .ref mu, .ref fa, .ref nx, q9, q10, .ref so])) := by rw [e_3]; exact mp_keep h_qo h_so (by decide)
  have h_pr : S1 pr = some (16, .inl ((g 1), 48, .inr (.inr (.inr (.inr (rfs (fun ii => pr + 1 + ii) 48)))))) := by rw [e_3]; exact mp_keep h_pr h_so (by decide)
  have h_lw : S1 lw = some (17, .inl ((g 0), 16, .inl (fun j => nI (lwf j)))) := by rw [e_3]; exact mp_keep h_lw h_so (by decide)
  have h_ll : S1 ll = some (18, .inl ((g 0), 16, .inl (fun j => nI (llf j)))) := by rw [e_3]; exact mp_keep h_ll h_so (by decide)
  have h_mu : S1 mu = some (19, .inl ((g 1), 16, .inr (.inr (.inr (.inr (rfs (fun ii => mu + 1 + ii) 16)))))) := by rw [e_3]; exact mp_keep h_mu h_so (by decide)
  have h_fa : S1 fa = some (20, .inl ((g 0), 16, .inl (fun j => nI (Fa j).val))) := by rw [e_3]; exact mp_keep h_fa h_so (by decide)
  have h_rq : S1 rq = some (27, .inl ((g 1), 16, .inr (.inr (.inr (.inr (rfs (fun ii => rq + 1 + ii) 16)))))) := by rw [e_3]; exact mp_keep h_rq h_so (by decide)
  have h_rp : S1 rp = some (28, .inl ((g 0), 16, .inl (fun j => nI (pv j)))) := by rw [e_3]; exact mp_keep h_rp h_so (by decide)
  have h_nx : S1 nx = some (21, .inl ((g 0), 16, .inl (fun j => nI (Nx j).val))) := by rw [e_3]; exact mp_keep h_nx h_so (by decide)
  have h_za : S1 za = some (TZ, .inl ((g 0), 3, .inl (fun j => nI (Zf j).val))) := by rw [e_3]; exact mp_keep h_za h_so (by omega)
  have h_so : S1 so = some (26, .inr (8, [.ref rq, .ref rp, .int (nI 0)])) := by rw [e_3]; exact mp_us _ _ _
  have hP := rS_kept hP (S1 := S1) (fun b t9 e9 hb9 h1 h2 => by rw [e_3]; exact mp_un (mp_ne hb9 h_so_o (by omega)))
  have hM := rS_kept hM (S1 := S1) (fun b t9 e9 hb9 h1 h2 => by rw [e_3]; exact mp_un (mp_ne hb9 h_so_o (by omega)))
  have hR := rS_kept hR (S1 := S1) (fun b t9 e9 hb9 h1 h2 => by rw [e_3]; exact mp_un (mp_ne hb9 h_so_o (by omega)))
  have hfr : ∀ b t e9, S b = some (t, e9) → (t < 450 ∨ 466 ≤ t) → (t ≠ 26) → (t ≠ 28) → (t < 490 ∨ 506 ≤ t) → (t ≠ 20) → (t ≠ 21) → S1 b = some (t, e9) := fun b t e9 h9 k0 k1 k2 k3 k4 k5 => by rw [e_3]; exact mp_keep (hfr b t e9 h9 k0 k1 k2 k3 k4 k5) h_so_o (by omega)
  refine lv_iconst (v := nI 0) hx hb d_Q_multiplicityAt_8 (by decide) ?_
  refine lv_istore_n (lv' := [(2, .int (nI 0)), (0, .ref qo), (1, .ref za)]) hx hb d_Q_multiplicityAt_9 rfl hl (by decide) rfl (fun ls hl => ?_)
  refine lp_Q_mA3 (B := S) (qo := qo) (pr := pr) (lw := lw) (ll := ll) (mu := mu) (fa := fa) (so := so) (rq := rq) (rp := rp) (nx := nx) (za := za) (TZ := TZ) (nl := nl) (s9 := s9) (q1 := q1) (q9 := q9) (q10 := q10) (PT := PT) (lwf := lwf) (llf := llf) (Zf := Zf) hx hb hml hg hown hK (Nat.le_of_ble_eq_true rfl) (Nat.le_of_ble_eq_true rfl) (Nat.le_of_ble_eq_true rfl) (Nat.le_of_ble_eq_true rfl) hTZ hnl hs hlow hGs nl 0 Fa Nx 0 MU ρ pv S1 H2 _ ls (by omega) tF tN (Nat.zero_le _) (fun r hr => absurd hr (Nat.not_lt_zero r)) tρ tM (fun bb => ⟨fun _ l hl => absurd hl (Nat.not_lt_zero l), fun _ a ha => absurd ha (Nat.not_lt_zero a)⟩) h_qo h_pr h_lw h_ll h_mu h_fa h_so h_rq h_rp h_nx h_za hP hM hR hfr hI (lv_sub hl [0, 2, 1] rfl) (fun F1 N1 n1 MU1 ρ1 p1 S4 H5 locs ls tF tN hn9 hsp tρ tM heq j_qo j_pr j_lw j_ll j_mu j_fa j_so j_rq j_rp j_nx j_za hP hM hR hfr hI hl => ?_)
  have hle : n1 ≤ s9 := pig s9 n1 p1 (fun i hi => (hsp i hi).1) (fun i j hi hj e9 => spn_inj hsp hi hj e9)
  refine lv_aload_n hx hb d_Q_multiplicityAt_123 rfl (lv_at hl 2 rfl) ?_
  refine mp_get (C := R_Q) (T := F_Q) (N := 12) (v := .int (nI s9)) hx hb hg i_Q hown hK.va hI j_qo rfl 2 (by decide) (hg _ q_221) (fun _ h9 => h9) rfl d_Q_multiplicityAt_124 ?_
  refine lv_aload_n hx hb d_Q_multiplicityAt_127 rfl (lv_at hl 2 rfl) ?_
  refine mp_get (C := R_Q) (T := F_Q) (N := 12) (v := .ref so) hx hb hg i_Q hown hK.va hI j_qo rfl 11 (by decide) (hg _ q_232) (fun _ h9 => h9) rfl d_Q_multiplicityAt_128 ?_
  refine mp_getN (C := R_N) (T := F_N) (N := 3) (v := .int (nI n1)) hx hb hg i_N hown hK.va hI j_so rfl 2 (by decide) (hK.use q_209 rfl) (fun _ h9 => h9) rfl d_Q_multiplicityAt_131 ?_
  refine lv_isub hx hb d_Q_multiplicityAt_134 ?_
  refine lv_topi (fun v6 ev6 => ?_)
  obtain rfl : v6 = nI (s9 - n1) := ev6.trans (pk_sub (by omega))
  refine mp_iret hx hb hr hlocks hI (Nat.le_of_ble_eq_true rfl) (Nat.le_of_ble_eq_true rfl) ?_ d_Q_multiplicityAt_135
  exact ⟨n1, F1, N1, MU1, ρ1, p1, hle, rfl, hsp, heq, j_fa, j_nx, j_so, j_rp, hM, hR, tF, tN, tρ, tM, hfr⟩
