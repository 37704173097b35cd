theorem iv_val (x : fF) : x.val ^ 32001 % 32003 = (iv x).val := by
  have h := fc_iv x.val
  rw [fc_of, fc_mod] at h
  rw [← h, fc_v]
def tk1 (ρ : Nat → Nat → fF) (pv : Nat → Nat) (r : Nat) (v : Nat → fF) : Nat → fF := fun k => v k - v (pv r) * ρ r k
theorem tk1_z {ρ : Nat → Nat → fF} {pv : Nat → Nat} {r : Nat} {v : Nat → fF} (h : (v (pv r)).val = 0) : tk1 ρ pv r v = v := by
  have h1 : v (pv r) = 0 := Fin.ext h
  funext k; unfold tk1; rw [h1]; grind
theorem tk1_w {ρ : Nat → Nat → fF} {pv : Nat → Nat} {r wd : Nat} {v : Nat → fF} (h : trn wd (ρ r)) : mgF wd (tk1 ρ pv r v) v = tk1 ρ pv r v := by
  funext k
  by_cases e : k < wd
  · rw [mgF_lt e]
  · rw [mgF_ge e]; unfold tk1; rw [h k (by omega)]; grind
theorem tkO_1 (ρ : Nat → Nat → fF) (pv : Nat → Nat) (r : Nat) (v : Nat → fF) : tkO ρ pv (r + 1) v = tk1 ρ pv r (tkO ρ pv r v) := rfl
theorem tkO_t {ρ : Nat → Nat → fF} {pv : Nat → Nat} {wd : Nat} (hρ : ∀ r, trn wd (ρ r)) {v : Nat → fF} (hv : trn wd v) : ∀ n, trn wd (tkO ρ pv n v)
  | 0 => hv
  | n + 1 => fun k hk => by
    show tkO ρ pv n v k - tkO ρ pv n v (pv n) * ρ n k = 0
    rw [tkO_t hρ hv n k hk, hρ n k hk]; grind
/-- a row over its number at p -/
noncomputable def nrm (v : Nat → fF) (p : Nat) : Nat → fF := fun k => v k * iv (v p)
theorem nrm_t {wd : Nat} {v : Nat → fF} {p : Nat} (h : trn wd v) : trn wd (nrm v p) := fun k hk => by unfold nrm; rw [h k hk]; grind
theorem mgF_t {wd : Nat} {a b : Nat → fF} (ha : trn wd a) (hb : trn wd b) : mgF wd a b = a := by
  funext k
  by_cases e : k < wd
  · rw [mgF_lt e]
  · rw [mgF_ge e, ha k (by omega), hb k (by omega)]
theorem va_upt {wd : Nat} {ρ : Nat → Nat → fF} (h : ∀ r, trn wd (ρ r)) {n : Nat} {x : Nat → fF} (hx : trn wd x) : ∀ r, trn wd (va_up ρ n x r) := fun r => by
  by_cases e : r = n
  · rw [e, mp_us]; exact hx
  · rw [mp_un e]; exact h r
theorem va_upf (ρ : Nat → Nat → fF) (n : Nat) (x : Nat → fF) : va_up (fun i j => nI (ρ i j).val) n (fun j => nI (x j).val) = fun i j => nI (va_up ρ n x i j).val := by
  funext i j
  by_cases e : i = n
  · rw [e, mp_us, mp_us]
  · rw [mp_un e, mp_un e]
/-- one row of an array of rows is changed -/
theorem rS_up {g : Nat → ClassId} {T0 n w : Nat} {ro : Nat → Nat} {ρ : Nat → Nat → fF} {S S1 : mp_M} {i : Nat} {x : Nat → fF} (h : rS g T0 n w ro (fun i j => nI (ρ i j).val) S) (h1 : S1 (ro i) = some (T0 + i, .inl (g 0, w, .inl (fun j => nI (x j).val))))
    (fr : ∀ j, j < n → j ≠ i → ∀ e9, S (ro j) = some (T0 + j, e9) → S1 (ro j) = some (T0 + j, e9)) : rS g T0 n w ro (fun a j => nI (va_up ρ i x a j).val) S1 := by
  intro j hj
  by_cases e : j = i
  · subst e
    have : (fun q => nI (va_up ρ j x j q).val) = fun q => nI (x q).val := by funext q; rw [mp_us]
    show S1 (ro j) = some (T0 + j, .inl (g 0, w, .inl (fun q => nI (va_up ρ j x j q).val)))
    rw [this]; exact h1
  · have : (fun q => nI (va_up ρ i x j q).val) = fun q => nI (ρ j q).val := by funext q; rw [mp_un e]
    show S1 (ro j) = some (T0 + j, .inl (g 0, w, .inl (fun q => nI (va_up ρ i x j q).val)))
    rw [this]; exact fr j hj e _ (h j hj)

theorem d_N_add_0 : decode b_N_add 0 = .ok (.iconst 0, 1) := by decide +kernel
theorem d_N_add_1 : decode b_N_add 1 = .ok (.istore_n 3, 1) := by decide +kernel
theorem d_N_add_2 : decode b_N_add 2 = .ok (.iload_n 3, 1) := by decide +kernel
theorem d_N_add_3 : decode b_N_add 3 = .ok (.aload_n 0, 1) := by decide +kernel
theorem d_N_add_4 : decode b_N_add 4 = .ok (.getfield 20, 3) := by decide +kernel
theorem d_N_add_7 : decode b_N_add 7 = .ok (.if_icmp .ge 15, 3) := by decide +kernel
theorem d_N_add_10 : decode b_N_add 10 = .ok (.aload_n 0, 1) := by decide +kernel
theorem d_N_add_11 : decode b_N_add 11 = .ok (.aload_n 1, 1) := by decide +kernel
theorem d_N_add_12 : decode b_N_add 12 = .ok (.iload_n 3, 1) := by decide +kernel
theorem d_N_add_13 : decode b_N_add 13 = .ok (.invokevirtual 24, 3) := by decide +kernel
theorem d_N_add_16 : decode b_N_add 16 = .ok (.iinc 3 1, 3) := by decide +kernel
theorem d_N_add_19 : decode b_N_add 19 = .ok (.goto (-17), 3) := by decide +kernel
theorem d_N_add_22 : decode b_N_add 22 = .ok (.iconst 0, 1) := by decide +kernel
theorem d_N_add_23 : decode b_N_add 23 = .ok (.istore_n 3, 1) := by decide +kernel
theorem d_N_add_24 : decode b_N_add 24 = .ok (.iload_n 3, 1) := by decide +kernel
theorem d_N_add_25 : decode b_N_add 25 = .ok (.iload_n 2, 1) := by decide +kernel
theorem d_N_add_26 : decode b_N_add 26 = .ok (.if_icmp .ge 29, 3) := by decide +kernel
theorem d_N_add_29 : decode b_N_add 29 = .ok (.iload_n 3, 1) := by decide +kernel
theorem d_N_add_30 : decode b_N_add 30 = .ok (.aload_n 1, 1) := by decide +kernel
theorem d_N_add_31 : decode b_N_add 31 = .ok (.arraylength, 1) := by decide +kernel
theorem d_N_add_32 : decode b_N_add 32 = .ok (.if_icmp .ge 23, 3) := by decide +kernel
theorem d_N_add_35 : decode b_N_add 35 = .ok (.aload_n 1, 1) := by decide +kernel
theorem d_N_add_36 : decode b_N_add 36 = .ok (.iload_n 3, 1) := by decide +kernel
theorem d_N_add_37 : decode b_N_add 37 = .ok (.iaload, 1) := by decide +kernel
theorem d_N_add_38 : decode b_N_add 38 = .ok (.ifCond .eq 11, 3) := by decide +kernel
theorem d_N_add_41 : decode b_N_add 41 = .ok (.aload_n 0, 1) := by decide +kernel
theorem d_N_add_42 : decode b_N_add 42 = .ok (.aload_n 1, 1) := by decide +kernel
theorem d_N_add_43 : decode b_N_add 43 = .ok (.iload_n 3, 1) := by decide +kernel
theorem d_N_add_44 : decode b_N_add 44 = .ok (.invokevirtual 28, 3) := by decide +kernel
theorem d_N_add_47 : decode b_N_add 47 = .ok (.iconst 1, 1) := by decide +kernel
theorem d_N_add_48 : decode b_N_add 48 = .ok (.ireturn, 1) := by decide +kernel
theorem d_N_add_49 : decode b_N_add 49 = .ok (.iinc 3 1, 3) := by decide +kernel
theorem d_N_add_52 : decode b_N_add 52 = .ok (.goto (-28), 3) := by decide +kernel
theorem d_N_add_55 : decode b_N_add 55 = .ok (.iconst 0, 1) := by decide +kernel
theorem d_N_add_56 : decode b_N_add 56 = .ok (.ireturn, 1) := by decide +kernel
theorem d_N_keep_0 : decode b_N_keep 0 = .ok (.aload_n 0, 1) := by decide +kernel
theorem d_N_keep_1 : decode b_N_keep 1 = .ok (.getfield 20, 3) := by decide +kernel
theorem d_N_keep_4 : decode b_N_keep 4 = .ok (.aload_n 0, 1) := by decide +kernel
theorem d_N_keep_5 : decode b_N_keep 5 = .ok (.getfield 11, 3) := by decide +kernel
theorem d_N_keep_8 : decode b_N_keep 8 = .ok (.arraylength, 1) := by decide +kernel
theorem d_N_keep_9 : decode b_N_keep 9 = .ok (.if_icmp .lt 4, 3) := by decide +kernel
theorem d_N_keep_13 : decode b_N_keep 13 = .ok (.aload_n 1, 1) := by decide +kernel
theorem d_N_keep_14 : decode b_N_keep 14 = .ok (.iload_n 2, 1) := by decide +kernel
theorem d_N_keep_15 : decode b_N_keep 15 = .ok (.iaload, 1) := by decide +kernel
theorem d_N_keep_16 : decode b_N_keep 16 = .ok (.invokestatic 31, 3) := by decide +kernel
theorem d_N_keep_19 : decode b_N_keep 19 = .ok (.istore_n 3, 1) := by decide +kernel
theorem d_N_keep_20 : decode b_N_keep 20 = .ok (.aload_n 0, 1) := by decide +kernel
theorem d_N_keep_21 : decode b_N_keep 21 = .ok (.getfield 11, 3) := by decide +kernel
theorem d_N_keep_24 : decode b_N_keep 24 = .ok (.aload_n 0, 1) := by decide +kernel
theorem d_N_keep_25 : decode b_N_keep 25 = .ok (.getfield 20, 3) := by decide +kernel
theorem d_N_keep_28 : decode b_N_keep 28 = .ok (.aaload, 1) := by decide +kernel
theorem d_N_keep_29 : decode b_N_keep 29 = .ok (.astore 4, 2) := by decide +kernel
theorem d_N_keep_31 : decode b_N_keep 31 = .ok (.iconst 0, 1) := by decide +kernel
theorem d_N_keep_32 : decode b_N_keep 32 = .ok (.istore 5, 2) := by decide +kernel
theorem d_N_keep_34 : decode b_N_keep 34 = .ok (.iload 5, 2) := by decide +kernel
theorem d_N_keep_36 : decode b_N_keep 36 = .ok (.aload_n 1, 1) := by decide +kernel
theorem d_N_keep_37 : decode b_N_keep 37 = .ok (.arraylength, 1) := by decide +kernel
theorem d_N_keep_38 : decode b_N_keep 38 = .ok (.if_icmp .ge 32, 3) := by decide +kernel
theorem d_N_keep_41 : decode b_N_keep 41 = .ok (.iload 5, 2) := by decide +kernel
theorem d_N_keep_43 : decode b_N_keep 43 = .ok (.aload 4, 2) := by decide +kernel
theorem d_N_keep_45 : decode b_N_keep 45 = .ok (.arraylength, 1) := by decide +kernel
theorem d_N_keep_46 : decode b_N_keep 46 = .ok (.if_icmp .ge 24, 3) := by decide +kernel
theorem d_N_keep_49 : decode b_N_keep 49 = .ok (.aload 4, 2) := by decide +kernel
theorem d_N_keep_51 : decode b_N_keep 51 = .ok (.iload 5, 2) := by decide +kernel
theorem d_N_keep_53 : decode b_N_keep 53 = .ok (.aload_n 1, 1) := by decide +kernel
theorem d_N_keep_54 : decode b_N_keep 54 = .ok (.iload 5, 2) := by decide +kernel
theorem d_N_keep_56 : decode b_N_keep 56 = .ok (.iaload, 1) := by decide +kernel
theorem d_N_keep_57 : decode b_N_keep 57 = .ok (.iload_n 3, 1) := by decide +kernel
theorem d_N_keep_58 : decode b_N_keep 58 = .ok (.imul, 1) := by decide +kernel
theorem d_N_keep_59 : decode b_N_keep 59 = .ok (.sipush 32003, 3) := by decide +kernel
theorem d_N_keep_62 : decode b_N_keep 62 = .ok (.irem, 1) := by decide +kernel
theorem d_N_keep_63 : decode b_N_keep 63 = .ok (.iastore, 1) := by decide +kernel
theorem d_N_keep_64 : decode b_N_keep 64 = .ok (.iinc 5 1, 3) := by decide +kernel
theorem d_N_keep_67 : decode b_N_keep 67 = .ok (.goto (-33), 3) := by decide +kernel
theorem d_N_keep_70 : decode b_N_keep 70 = .ok (.aload_n 0, 1) := by decide +kernel
theorem d_N_keep_71 : decode b_N_keep 71 = .ok (.getfield 16, 3) := by decide +kernel
theorem d_N_keep_74 : decode b_N_keep 74 = .ok (.aload_n 0, 1) := by decide +kernel
theorem d_N_keep_75 : decode b_N_keep 75 = .ok (.getfield 20, 3) := by decide +kernel
theorem d_N_keep_78 : decode b_N_keep 78 = .ok (.iload_n 2, 1) := by decide +kernel
theorem d_N_keep_79 : decode b_N_keep 79 = .ok (.iastore, 1) := by decide +kernel
theorem d_N_keep_80 : decode b_N_keep 80 = .ok (.aload_n 0, 1) := by decide +kernel
theorem d_N_keep_81 : decode b_N_keep 81 = .ok (.dup, 1) := by decide +kernel
theorem d_N_keep_82 : decode b_N_keep 82 = .ok (.getfield 20, 3) := by decide +kernel
theorem d_N_keep_85 : decode b_N_keep 85 = .ok (.iconst 1, 1) := by decide +kernel
theorem d_N_keep_86 : decode b_N_keep 86 = .ok (.iadd, 1) := by decide +kernel
theorem d_N_keep_87 : decode b_N_keep 87 = .ok (.putfield 20, 3) := by decide +kernel
theorem d_N_keep_90 : decode b_N_keep 90 = .ok (.return_, 1) := by decide +kernel
theorem d_N_takeOff_0 : decode b_N_takeOff 0 = .ok (.aload_n 0, 1) := by decide +kernel
theorem d_N_takeOff_1 : decode b_N_takeOff 1 = .ok (.getfield 16, 3) := by decide +kernel
theorem d_N_takeOff_4 : decode b_N_takeOff 4 = .ok (.iload_n 2, 1) := by decide +kernel
theorem d_N_takeOff_5 : decode b_N_takeOff 5 = .ok (.iaload, 1) := by decide +kernel
theorem d_N_takeOff_6 : decode b_N_takeOff 6 = .ok (.aload_n 1, 1) := by decide +kernel
theorem d_N_takeOff_7 : decode b_N_takeOff 7 = .ok (.arraylength, 1) := by decide +kernel
theorem d_N_takeOff_8 : decode b_N_takeOff 8 = .ok (.if_icmp .ge 14, 3) := by decide +kernel
theorem d_N_takeOff_11 : decode b_N_takeOff 11 = .ok (.aload_n 1, 1) := by decide +kernel
theorem d_N_takeOff_12 : decode b_N_takeOff 12 = .ok (.aload_n 0, 1) := by decide +kernel
theorem d_N_takeOff_13 : decode b_N_takeOff 13 = .ok (.getfield 16, 3) := by decide +kernel
theorem d_N_takeOff_16 : decode b_N_takeOff 16 = .ok (.iload_n 2, 1) := by decide +kernel
theorem d_N_takeOff_17 : decode b_N_takeOff 17 = .ok (.iaload, 1) := by decide +kernel
theorem d_N_takeOff_18 : decode b_N_takeOff 18 = .ok (.iaload, 1) := by decide +kernel
theorem d_N_takeOff_19 : decode b_N_takeOff 19 = .ok (.goto 4, 3) := by decide +kernel
theorem d_N_takeOff_23 : decode b_N_takeOff 23 = .ok (.istore_n 3, 1) := by decide +kernel
theorem d_N_takeOff_24 : decode b_N_takeOff 24 = .ok (.iload_n 3, 1) := by decide +kernel
theorem d_N_takeOff_25 : decode b_N_takeOff 25 = .ok (.ifCond .ne 4, 3) := by decide +kernel
theorem d_N_takeOff_28 : decode b_N_takeOff 28 = .ok (.return_, 1) := by decide +kernel
theorem d_N_takeOff_29 : decode b_N_takeOff 29 = .ok (.aload_n 0, 1) := by decide +kernel
theorem d_N_takeOff_30 : decode b_N_takeOff 30 = .ok (.getfield 11, 3) := by decide +kernel
theorem d_N_takeOff_33 : decode b_N_takeOff 33 = .ok (.iload_n 2, 1) := by decide +kernel
theorem d_N_takeOff_34 : decode b_N_takeOff 34 = .ok (.aaload, 1) := by decide +kernel
theorem d_N_takeOff_35 : decode b_N_takeOff 35 = .ok (.astore 4, 2) := by decide +kernel
theorem d_N_takeOff_37 : decode b_N_takeOff 37 = .ok (.iconst 0, 1) := by decide +kernel
theorem d_N_takeOff_38 : decode b_N_takeOff 38 = .ok (.istore 5, 2) := by decide +kernel
theorem d_N_takeOff_40 : decode b_N_takeOff 40 = .ok (.iload 5, 2) := by decide +kernel
theorem d_N_takeOff_42 : decode b_N_takeOff 42 = .ok (.aload_n 1, 1) := by decide +kernel
theorem d_N_takeOff_43 : decode b_N_takeOff 43 = .ok (.arraylength, 1) := by decide +kernel
theorem d_N_takeOff_44 : decode b_N_takeOff 44 = .ok (.if_icmp .ge 41, 3) := by decide +kernel
theorem d_N_takeOff_47 : decode b_N_takeOff 47 = .ok (.iload 5, 2) := by decide +kernel
theorem d_N_takeOff_49 : decode b_N_takeOff 49 = .ok (.aload 4, 2) := by decide +kernel
theorem d_N_takeOff_51 : decode b_N_takeOff 51 = .ok (.arraylength, 1) := by decide +kernel
theorem d_N_takeOff_52 : decode b_N_takeOff 52 = .ok (.if_icmp .ge 33, 3) := by decide +kernel
theorem d_N_takeOff_55 : decode b_N_takeOff 55 = .ok (.aload_n 1, 1) := by decide +kernel
theorem d_N_takeOff_56 : decode b_N_takeOff 56 = .ok (.iload 5, 2) := by decide +kernel
theorem d_N_takeOff_58 : decode b_N_takeOff 58 = .ok (.aload_n 1, 1) := by decide +kernel
theorem d_N_takeOff_59 : decode b_N_takeOff 59 = .ok (.iload 5, 2) := by decide +kernel
theorem d_N_takeOff_61 : decode b_N_takeOff 61 = .ok (.iaload, 1) := by decide +kernel
theorem d_N_takeOff_62 : decode b_N_takeOff 62 = .ok (.sipush 32003, 3) := by decide +kernel
theorem d_N_takeOff_65 : decode b_N_takeOff 65 = .ok (.iload_n 3, 1) := by decide +kernel
theorem d_N_takeOff_66 : decode b_N_takeOff 66 = .ok (.isub, 1) := by decide +kernel
theorem d_N_takeOff_67 : decode b_N_takeOff 67 = .ok (.aload 4, 2) := by decide +kernel
theorem d_N_takeOff_69 : decode b_N_takeOff 69 = .ok (.iload 5, 2) := by decide +kernel
theorem d_N_takeOff_71 : decode b_N_takeOff 71 = .ok (.iaload, 1) := by decide +kernel
theorem d_N_takeOff_72 : decode b_N_takeOff 72 = .ok (.imul, 1) := by decide +kernel
theorem d_N_takeOff_73 : decode b_N_takeOff 73 = .ok (.iadd, 1) := by decide +kernel
theorem d_N_takeOff_74 : decode b_N_takeOff 74 = .ok (.sipush 32003, 3) := by decide +kernel
theorem d_N_takeOff_77 : decode b_N_takeOff 77 = .ok (.irem, 1) := by decide +kernel
theorem d_N_takeOff_78 : decode b_N_takeOff 78 = .ok (.iastore, 1) := by decide +kernel
theorem d_N_takeOff_79 : decode b_N_takeOff 79 = .ok (.iinc 5 1, 3) := by decide +kernel
theorem d_N_takeOff_82 : decode b_N_takeOff 82 = .ok (.goto (-42), 3) := by decide +kernel
theorem d_N_takeOff_85 : decode b_N_takeOff 85 = .ok (.return_, 1) := by decide +kernel
set_option maxHeartbeats 4000000 in
set_option maxRecDepth 100000 in
theorem lp_N_takeOff {p : Program} {l : Launch} {e : Env} {R : Room} {s : State} {m : MethodId} {args : Array Value} {below : List Frame} {meth : Method} {c : Code} {Q : State → Prop} {D : mp_G} {g : Nat → ClassId} {A : Nat → Prop} {cells slots : Nat} (hx : p.tables.exec = Jvm.exec) (hb : c.code = b_N_takeOff) (hml : c.maxLocals = 6) (hg : ∀ w ∈ gw, w.before args s = true) (hown : s.vm.findClass R_N = some m.cls) (hK : mp_K D classes (tys g) s) (hRf : 0 ≤ R.frames) (hRl : 0 ≤ R.locals) (hRc : cells ≤ R.cells) (hRs : slots ≤ R.slots) {B : mp_M} {so rq rp ia TN T0 TI wd : Nat} {pv : Nat → Nat} {ρ : Nat → Nat → fF} {v : Nat → fF} {r : Nat} {s9 : Value} (hlab : TN + 2 < T0 ∧ (TI < TN ∨ TN + 2 < TI) ∧ (TI < T0 ∨ T0 + 16 ≤ TI)) (hwd : wd ≤ 33) (hr : r < 16) (hp : pv r < wd) : ∀ (k : Nat) (i : Nat) (S : mp_M) (H : Heap) (locs : List Loc) (ls : Array Slot), i + k = wd → S so = some (TN, .inr (8, [.ref rq, .ref rp, s9])) → S rq = some ((TN + 1), .inl ((g 1), 16, .inr (.inr (.inr (.inr (rfs (fun i => rq + 1 + i) 16)))))) → S rp = some ((TN + 2), .inl ((g 0), 16, .inl (fun j => nI (pv j)))) → S ia = some (TI, .inl ((g 0), wd, .inl (fun j => nI ((mgF i (tk1 ρ pv r v) v) j).val))) → S (rq + 1 + r) = some ((T0 + r), .inl ((g 0), wd, .inl (fun j => nI (ρ r j).val))) → (rS g T0 16 wd (fun i => rq + 1 + i) (fun i j => nI (ρ i j).val) S) → (∀ b t e9, B b = some (t, e9) → (t ≠ TI) → S b = some (t, e9)) → mp_I D classes A s.heap S H locs → lv_has ls 6 [(5, .int (nI i)), (4, .ref (rq + 1 + r)), (3, .int (nI (v (pv r)).val)), (1, .ref ia)] → (∀ (S : mp_M) (H : Heap) (locs : List Loc) (ls : Array Slot), S so = some (TN, .inr (8, [.ref rq, .ref rp, s9])) → S rq = some ((TN + 1), .inl ((g 1), 16, .inr (.inr (.inr (.inr (rfs (fun wd => rq + 1 + wd) 16)))))) → S rp = some ((TN + 2), .inl ((g 0), 16, .inl (fun j => nI (pv j)))) → S ia = some (TI, .inl ((g 0), wd, .inl (fun j => nI ((mgF wd (tk1 ρ pv r v) v) j).val))) → S (rq + 1 + r) = some ((T0 + r), .inl ((g 0), wd, .inl (fun j => nI (ρ r j).val))) → (rS g T0 16 wd (fun wd => rq + 1 + wd) (fun wd j => nI (ρ wd j).val) S) → (∀ b t e9, B b = some (t, e9) → (t ≠ TI) → S b = some (t, e9)) → mp_I D classes A s.heap S H locs → lv_has ls 6 [(5, .int (nI wd)), (4, .ref (rq + 1 + r)), (3, .int (nI (v (pv r)).val)), (1, .ref ia)] → W p l e R s m args below meth c H locs cells slots Q (F0 m 85 ls [])) → W p l e R s m args below meth c H locs cells slots Q (F0 m 40 ls []) := by
  intro k
  induction k with
  | zero =>
    intro i S H locs ls hi h_so h_rq h_rp h_ia h_rw hR hfr hI hl kx
    refine lv_iload hx hb d_N_takeOff_40 (lv_at hl 0 rfl) ?_
    refine lv_aload_n hx hb d_N_takeOff_42 rfl (lv_at hl 3 rfl) ?_
    refine mp_alen (v := nI wd) hx hb hK.va hI 0 h_ia rfl rfl d_N_takeOff_43 ?_
    refine lv_icmp_ge (tgt := 85) hx hb d_N_takeOff_44 (by decide) (fun _ => ?_) (fun h9 => absurd ((nI_leI (by omega) (by omega)).mpr (by omega)) h9)
    obtain rfl : i = wd := by omega
    exact kx S H locs ls h_so h_rq h_rp h_ia h_rw hR hfr hI (lv_sub hl [0, 1, 2, 3] rfl)
  | succ k ih =>
    intro i S H locs ls hi h_so h_rq h_rp h_ia h_rw hR hfr hI hl kx
    refine lv_iload hx hb d_N_takeOff_40 (lv_at hl 0 rfl) ?_
    refine lv_aload_n hx hb d_N_takeOff_42 rfl (lv_at hl 3 rfl) ?_
    refine mp_alen (v := nI wd) hx hb hK.va hI 0 h_ia rfl rfl d_N_takeOff_43 ?_
    refine lv_icmp_ge (tgt := 85) hx hb d_N_takeOff_44 (by decide) (fun h9 => absurd h9 (by rw [nI_leI (by omega) (by omega)]; omega)) (fun _ => ?_)
    refine lv_iload hx hb d_N_takeOff_47 (lv_at hl 0 rfl) ?_
    refine lv_aload hx hb d_N_takeOff_49 (lv_at hl 1 rfl) ?_
    refine mp_alen (v := nI wd) hx hb hK.va hI 0 h_rw rfl rfl d_N_takeOff_51 ?_
    refine lv_icmp_ge (tgt := 85) hx hb d_N_takeOff_52 (by decide) (fun h9 => absurd h9 (by rw [nI_leI (by omega) (by omega)]; omega)) (fun _ => ?_)
    refine lv_aload_n hx hb d_N_takeOff_55 rfl (lv_at hl 3 rfl) ?_
    refine lv_iload hx hb d_N_takeOff_56 (lv_at hl 0 rfl) ?_
    refine lv_aload_n hx hb d_N_takeOff_58 rfl (lv_at hl 3 rfl) ?_
    refine lv_iload hx hb d_N_takeOff_59 (lv_at hl 0 rfl) ?_
    refine mp_iald hx hb hK.va hI 0 h_ia rfl (vp_in_nI (show i < wd by omega) (by omega)) d_N_takeOff_61 ?_
    refine lv_topi (fun v1 ev1 => ?_)
    obtain rfl : v1 = nI (v i).val := ev1.trans (by rw [nI_clamp (by omega), mgF_ge (by omega)])
    refine lv_sipush (v := nI 32003) hx hb d_N_takeOff_62 (by decide) ?_
    refine lv_iload_n hx hb d_N_takeOff_65 rfl (lv_at hl 2 rfl) ?_
    refine lv_isub hx hb d_N_takeOff_66 ?_
    refine lv_topi (fun v2 ev2 => ?_)
    obtain rfl : v2 = nI (32003 - ((v (pv r)).val)) := ev2.trans (pk_sub (by omega))
    refine lv_aload hx hb d_N_takeOff_67 (lv_at hl 1 rfl) ?_
    refine lv_iload hx hb d_N_takeOff_69 (lv_at hl 0 rfl) ?_
    refine mp_iald hx hb hK.va hI 0 h_rw rfl (vp_in_nI (show i < wd by omega) (by omega)) d_N_takeOff_71 ?_
    refine lv_topi (fun v3 ev3 => ?_)
    obtain rfl : v3 = nI (ρ r i).val := ev3.trans (by rw [nI_clamp (by omega)])
    refine lv_imul hx hb d_N_takeOff_72 ?_
    refine lv_topi (fun v4 ev4 => ?_)
    obtain rfl : v4 = nI ((32003 - ((v (pv r)).val)) * ((ρ r i).val)) := ev4.trans (pk_mul _ _)
    refine lv_iadd hx hb d_N_takeOff_73 ?_
    refine lv_topi (fun v5 ev5 => ?_)
    obtain rfl : v5 = nI (((v i).val) + ((32003 - ((v (pv r)).val)) * ((ρ r i).val))) := ev5.trans (nI_add _ _)
    refine lv_sipush (v := nI 32003) hx hb d_N_takeOff_74 (by decide) ?_
    refine lv_irem hx hb d_N_takeOff_77 (by decide) ?_
    refine lv_topi (fun v6 ev6 => ?_)
    obtain rfl : v6 = nI ((((v i).val) + ((32003 - ((v (pv r)).val)) * ((ρ r i).val))) % 32003) := ev6.trans (pk_rem (by first | exact fb_1 _ _ | exact fb_2 _ _ _ | exact fb_3 _ _ _ | exact fb_4 _ _ | exact fb_5 _ _ _ | omega) (by omega) (by omega))
    refine lv_topi (fun v7 ev7 => ?_)
    obtain rfl : v7 = nI (((v i) + ((-(v (pv r))) * (ρ r i)))).val := ev7.trans (congrArg nI (fv_mod (by simp only [fc_add, fc_mul, fc_of, fc_ng, fc_0, fc_1])))
    refine lv_topi (fun v8 ev8 => ?_)
    obtain rfl : v8 = nI ((tk1 ρ pv r v) i).val := ev8.trans (congrArg (fun x : fF => nI x.val) (by show _ = v i - v (pv r) * ρ r i; grind))
    refine mp_iast hx hb hK.va hI 0 h_ia rfl (vp_in_nI (show i < wd by omega) (by omega)) d_N_takeOff_78 (fun S9 H10 locs e_11 hI => ?_)
    have h_ia_o := h_ia
    have e_11 : S9 = va_up S ia (some (TI, .inl ((g 0), wd, .inl (upd (fun j => nI ((mgF i (tk1 ρ pv r v) v) j).val) (nI i).toNatClampNeg (nI ((tk1 ρ pv r v) i).val))))) := e_11
    have h_ia_o := h_ia
    have h_so : S9 so = some (TN, .inr (8, [.ref rq, .ref rp, s9])) := by rw [e_11]; exact mp_keep h_so h_ia (by omega)
    have h_rq : S9 rq = some ((TN + 1), .inl ((g 1), 16, .inr (.inr (.inr (.inr (rfs (fun i => rq + 1 + i) 16)))))) := by rw [e_11]; exact mp_keep h_rq h_ia (by omega)
    have h_rp : S9 rp = some ((TN + 2), .inl ((g 0), 16, .inl (fun j => nI (pv j)))) := by rw [e_11]; exact mp_keep h_rp h_ia (by omega)
    have h_rw : S9 (rq + 1 + r) = some ((T0 + r), .inl ((g 0), wd, .inl (fun j => nI (ρ r j).val))) := by rw [e_11]; exact mp_keep h_rw h_ia (by omega)
    have h_ia : S9 ia = some (TI, .inl ((g 0), wd, .inl (upd (fun j => nI ((mgF i (tk1 ρ pv r v) v) j).val) (nI i).toNatClampNeg (nI ((tk1 ρ pv r v) i).val)))) := by rw [e_11]; exact mp_us _ _ _
    have hR := rS_kept hR (S1 := S9) (fun b t9 e9 hb9 h1 h2 => by rw [e_11]; exact mp_un (mp_ne hb9 h_ia_o (by omega)))
    have hfr : ∀ b t e9, B b = some (t, e9) → (t ≠ TI) → S9 b = some (t, e9) := fun b t e9 h9 k0 => by rw [e_11]; exact mp_keep (hfr b t e9 h9 k0) h_ia_o (by omega)
    rw [nI_clamp (by omega), nIv_up] at h_ia
    have e9h_ia : (fun j => nI (va_up (mgF i (tk1 ρ pv r v) v) i ((tk1 ρ pv r v) i) j).val) = (fun j => nI ((mgF (i + 1) (tk1 ρ pv r v) v) j).val) := by rw [mgF_up]
    rw [e9h_ia] at h_ia
    refine lv_iinc (v := nI (i + 1)) (lv' := [(5, .int (nI (i + 1))), (4, .ref (rq + 1 + r)), (3, .int (nI (v (pv r)).val)), (1, .ref ia)]) hx hb d_N_takeOff_79 hl (k := 0) rfl (nI_1 _) (by decide) rfl (fun ls hl => ?_)
    refine lv_goto (tgt := 40) hx hb d_N_takeOff_82 (by decide) ?_
    exact ih (i + 1) S9 H10 locs ls (by omega) h_so h_rq h_rp h_ia h_rw hR hfr hI (lv_sub hl [0, 1, 2, 3] rfl) kx
set_option maxHeartbeats 4000000 in
set_option maxRecDepth 100000 in
/-- a row is taken off -/
theorem c_N_takeOff (l : Launch) (D : mp_G) (g : Nat → ClassId) (S : mp_M) (sz : Nat) (so rq rp ia TN T0 TI wd : Nat) (pv : Nat → Nat) (ρ : Nat → Nat → fF) (v : Nat → fF) (r : Nat) (s9 : Value) (h_so : S so = some (TN, .inr (8, [.ref rq, .ref rp, s9]))) (h_rq : S rq = some ((TN + 1), .inl ((g 1), 16, .inr (.inr (.inr (.inr (rfs (fun i => rq + 1 + i) 16))))))) (h_rp : S rp = some ((TN + 2), .inl ((g 0), 16, .inl (fun j => nI (pv j))))) (h_ia : S ia = some (TI, .inl ((g 0), wd, .inl (fun j => nI (v j).val)))) (hR : rS g T0 16 wd (fun i => rq + 1 + i) (fun i j => nI (ρ i j).val) S) (hlab : TN + 2 < T0 ∧ (TI < TN ∨ TN + 2 < TI) ∧ (TI < T0 ∨ T0 + 16 ≤ TI)) (hwd : wd ≤ 33) (hr9 : r < 16) (hp : pv r < wd) (hρ : trn wd (ρ r)) : Met l y_N_takeOff w_N_takeOff ({ frames := 0, cells := 0, slots := 0, locals := 0 }) (va_Pc [.ref so, .ref ia, .int (nI r)] (mp_B0 D classes (tys g) S sz)) (va_Qv (fun (S1 : mp_M) => S1 ia = some (TI, .inl ((g 0), wd, .inl (fun j => nI ((tk1 ρ pv r v) j).val))) ∧ (∀ b t e9, S b = some (t, e9) → (t ≠ TI) → S1 b = some (t, e9))) (mp_B1 D classes S sz) (mp_A S sz)) 0 0 (mp_A S sz) := by
  refine Met.ofW (cc := b_N_takeOff) (maxL := 6) (ret := none) (by decide) rfl ?_
  intro p e s m args below meth c s₁ B hml hv
  obtain ⟨rfl, hsz, hH, hK⟩ := hv
  have hx := B.exec
  have hb := B.bytes
  have hr := B.returns
  have hts := atoms_spec (ws := w_N_takeOff) B.pre
  have hg : ∀ w ∈ gw, w.before _ s = true := fun w h => hts w (List.mem_cons_of_mem _ h)
  have hown : s.vm.findClass R_N = some m.cls := findClass_of_methodNamed B.named
  have hlocks := B.notSynchronized
  subst hsz
  have hI := mp_I.start hH
  have hl := lv_entry ([.ref so, .ref ia, .int (nI r)]) (n := 6) (Nat.le_of_ble_eq_true rfl)
  rw [lg_entry_eq]
  generalize (lg_sl ([.ref so, .ref ia, .int (nI r)]) ++ List.replicate (6 - (lg_sl ([.ref so, .ref ia, .int (nI r)])).length) Slot.unset).toArray = ls at hl ⊢
  have hl : lv_has ls 6 [(0, .ref so), (1, .ref ia), (2, .int (nI r))] := hl
  have hfr : ∀ b t e9, S b = some (t, e9) → (t ≠ TI) → S b = some (t, e9) := fun _ _ _ h9 _ => h9
  refine lv_aload_n hx hb d_N_takeOff_0 rfl (lv_at hl 0 rfl) ?_
  refine mp_get (C := R_N) (T := F_N) (N := 3) (v := .ref rp) hx hb hg i_N hown hK.va hI h_so rfl 1 (by decide) (hg _ q_207) (fun _ h9 => h9) rfl d_N_takeOff_1 ?_
  refine lv_iload_n hx hb d_N_takeOff_4 rfl (lv_at hl 2 rfl) ?_
  refine mp_iald hx hb hK.va hI 0 h_rp rfl (vp_in_nI (show r < 16 by omega) (by omega)) d_N_takeOff_5 ?_
  refine lv_topi (fun v1 ev1 => ?_)
  obtain rfl : v1 = nI (pv r) := ev1.trans (by rw [nI_clamp (by omega)])
  refine lv_aload_n hx hb d_N_takeOff_6 rfl (lv_at hl 1 rfl) ?_
  refine mp_alen (v := nI wd) hx hb hK.va hI 0 h_ia rfl rfl d_N_takeOff_7 ?_
  refine lv_icmp_ge (tgt := 22) hx hb d_N_takeOff_8 (by decide) (fun h9 => absurd h9 (by rw [nI_leI (by omega) (by omega)]; omega)) (fun _ => ?_)
  refine lv_aload_n hx hb d_N_takeOff_11 rfl (lv_at hl 1 rfl) ?_
  refine lv_aload_n hx hb d_N_takeOff_12 rfl (lv_at hl 0 rfl) ?_
  refine mp_get (C := R_N) (T := F_N) (N := 3) (v := .ref rp) hx hb hg i_N hown hK.va hI h_so rfl 1 (by decide) (hg _ q_207) (fun _ h9 => h9) rfl d_N_takeOff_13 ?_
  refine lv_iload_n hx hb d_N_takeOff_16 rfl (lv_at hl 2 rfl) ?_
  refine mp_iald hx hb hK.va hI 0 h_rp rfl (vp_in_nI (show r < 16 by omega) (by omega)) d_N_takeOff_17 ?_
  refine lv_topi (fun v2 ev2 => ?_)
  obtain rfl : v2 = nI (pv r) := ev2.trans (by rw [nI_clamp (by omega)])
  refine mp_iald hx hb hK.va hI 0 h_ia rfl (vp_in_nI (show pv r < wd by omega) (by omega)) d_N_takeOff_18 ?_
  refine lv_topi (fun v3 ev3 => ?_)
  obtain rfl : v3 = nI (v (pv r)).val := ev3.trans (by rw [nI_clamp (by omega)])
  refine lv_goto (tgt := 23) hx hb d_N_takeOff_19 (by decide) ?_
  refine lv_istore_n (lv' := [(3, .int (nI (v (pv r)).val)), (0, .ref so), (1, .ref ia), (2, .int (nI r))]) hx hb d_N_takeOff_23 rfl hl (by decide) rfl (fun ls hl => ?_)
  refine lv_iload_n hx hb d_N_takeOff_24 rfl (lv_at hl 0 rfl) ?_
  refine lv_if_ne (tgt := 29) hx hb d_N_takeOff_25 (by decide) (fun c1 => ?_) (fun c1 => ?_)
  · rw [zI_eq (by omega)] at c1
    have h_rw : S (rq + 1 + r) = some ((T0 + r), .inl ((g 0), wd, .inl (fun j => nI (ρ r j).val))) := hR r hr9
    refine lv_aload_n hx hb d_N_takeOff_29 rfl (lv_at hl 1 rfl) ?_
    refine mp_get (C := R_N) (T := F_N) (N := 3) (v := .ref rq) hx hb hg i_N hown hK.va hI h_so rfl 0 (by decide) (hg _ q_206) (fun _ h9 => h9) rfl d_N_takeOff_30 ?_
    refine lv_iload_n hx hb d_N_takeOff_33 rfl (lv_at hl 3 rfl) ?_
    refine mp_ald2 (b := rq + 1 + r) hx hb hK.va hI 1 h_rq rfl (vp_in_nI (show r < 16 by omega) (by omega)) (by rw [nI_clamp (by omega)]; exact rfs_at (by omega)) d_N_takeOff_34 ?_
    refine lv_astore (lv' := [(4, .ref (rq + 1 + r)), (3, .int (nI (v (pv r)).val)), (0, .ref so), (1, .ref ia), (2, .int (nI r))]) hx hb d_N_takeOff_35 hl (by decide) rfl (fun ls hl => ?_)
    refine lv_iconst (v := nI 0) hx hb d_N_takeOff_37 (by decide) ?_
    refine lv_istore (lv' := [(5, .int (nI 0)), (4, .ref (rq + 1 + r)), (3, .int (nI (v (pv r)).val)), (0, .ref so), (1, .ref ia), (2, .int (nI r))]) hx hb d_N_takeOff_38 hl (by decide) rfl (fun ls hl => ?_)
    rw [← mgF_0 (tk1 ρ pv r v) v] at h_ia
    refine lp_N_takeOff (B := S) (so := so) (rq := rq) (rp := rp) (ia := ia) (TN := TN) (T0 := T0) (TI := TI) (wd := wd) (pv := pv) (ρ := ρ) (v := v) (r := r) (s9 := s9) hx hb hml hg hown hK (Nat.le_of_ble_eq_true rfl) (Nat.le_of_ble_eq_true rfl) (Nat.le_of_ble_eq_true rfl) (Nat.le_of_ble_eq_true rfl) hlab hwd hr9 hp wd 0 S s.heap _ ls (by omega) h_so h_rq h_rp h_ia h_rw hR hfr hI (lv_sub hl [0, 1, 2, 4] rfl) (fun S4 H5 locs ls j_so j_rq j_rp j_ia j_rw hR hfr hI hl => ?_)
    rw [tk1_w hρ] at j_ia
    refine mp_vret hx hb hr hlocks hI (Nat.le_of_ble_eq_true rfl) (Nat.le_of_ble_eq_true rfl) ?_ d_N_takeOff_85
    exact ⟨j_ia, hfr⟩
  · rw [zI_eq (by omega)] at c1
    rw [← tk1_z (ρ := ρ) (pv := pv) (r := r) (v := v) c1] at h_ia
    refine mp_vret hx hb hr hlocks hI (Nat.le_of_ble_eq_true rfl) (Nat.le_of_ble_eq_true rfl) ?_ d_N_takeOff_28
    exact ⟨h_ia, hfr⟩
set_option maxHeartbeats 4000000 in
set_option maxRecDepth 100000 in
theorem lp_N_keep {p : Program} {l : Launch} {e : Env} {R : Room} {s : State} {m : MethodId} {args : Array Value} {below : List Frame} {meth : Method} {c : Code} {Q : State → Prop} {D : mp_G} {g : Nat → ClassId} {A : Nat → Prop} {cells slots : Nat} (hx : p.tables.exec = Jvm.exec) (hb : c.code = b_N_keep) (hml : c.maxLocals = 6) (hg : ∀ w ∈ gw, w.before args s = true) (hown : s.vm.findClass R_N = some m.cls) (hK : mp_K D classes (tys g) s) (hRf : 0 ≤ R.frames) (hRl : 0 ≤ R.locals) (hRc : cells ≤ R.cells) (hRs : slots ≤ R.slots) {B : mp_M} {so rq rp ia TN T0 TI wd : Nat} {pv : Nat → Nat} {ρ : Nat → Nat → fF} {v : Nat → fF} {n p9 : Nat} (hlab : TN + 2 < T0 ∧ (TI < TN ∨ TN + 2 < TI) ∧ (TI < T0 ∨ T0 + 16 ≤ TI)) (hwd : wd ≤ 33) (hn : n < 16) : ∀ (k : Nat) (i : Nat) (S : mp_M) (H : Heap) (locs : List Loc) (ls : Array Slot), i + k = wd → S so = some (TN, .inr (8, [.ref rq, .ref rp, .int (nI n)])) → S rq = some ((TN + 1), .inl ((g 1), 16, .inr (.inr (.inr (.inr (rfs (fun i => rq + 1 + i) 16)))))) → S rp = some ((TN + 2), .inl ((g 0), 16, .inl (fun j => nI (pv j)))) → S ia = some (TI, .inl ((g 0), wd, .inl (fun j => nI (v j).val))) → S (rq + 1 + n) = some ((T0 + n), .inl ((g 0), wd, .inl (fun j => nI ((mgF i (nrm v p9) (ρ n)) j).val))) → (∀ b t e9, B b = some (t, e9) → (t ≠ TN) → (t ≠ TN + 2) → (t ≠ T0 + n) → S b = some (t, e9)) → mp_I D classes A s.heap S H locs → lv_has ls 6 [(5, .int (nI i)), (4, .ref (rq + 1 + n)), (3, .int (nI (iv (v p9)).val)), (2, .int (nI p9)), (1, .ref ia), (0, .ref so)] → (∀ (S : mp_M) (H : Heap) (locs : List Loc) (ls : Array Slot), S so = some (TN, .inr (8, [.ref rq, .ref rp, .int (nI n)])) → S rq = some ((TN + 1), .inl ((g 1), 16, .inr (.inr (.inr (.inr (rfs (fun wd => rq + 1 + wd) 16)))))) → S rp = some ((TN + 2), .inl ((g 0), 16, .inl (fun j => nI (pv j)))) → S ia = some (TI, .inl ((g 0), wd, .inl (fun j => nI (v j).val))) → S (rq + 1 + n) = some ((T0 + n), .inl ((g 0), wd, .inl (fun j => nI ((mgF wd (nrm v p9) (ρ n)) j).val))) → (∀ b t e9, B b = some (t, e9) → (t ≠ TN) → (t ≠ TN + 2) → (t ≠ T0 + n) → S b = some (t, e9)) → mp_I D classes A s.heap S H locs → lv_has ls 6 [(5, .int (nI wd)), (4, .ref (rq + 1 + n)), (3, .int (nI (iv (v p9)).val)), (2, .int (nI p9)), (1, .ref ia), (0, .ref so)] → W p l e R s m args below meth c H locs cells slots Q (F0 m 70 ls [])) → W p l e R s m args below meth c H locs cells slots Q (F0 m 34 ls []) := by
  intro k
  induction k with
  | zero =>
    intro i S H locs ls hi h_so h_rq h_rp h_ia h_rw hfr hI hl kx
    refine lv_iload hx hb d_N_keep_34 (lv_at hl 0 rfl) ?_
    refine lv_aload_n hx hb d_N_keep_36 rfl (lv_at hl 4 rfl) ?_
    refine mp_alen (v := nI wd) hx hb hK.va hI 0 h_ia rfl rfl d_N_keep_37 ?_
    refine lv_icmp_ge (tgt := 70) hx hb d_N_keep_38 (by decide) (fun _ => ?_) (fun h9 => absurd ((nI_leI (by omega) (by omega)).mpr (by omega)) h9)
    obtain rfl : i = wd := by omega
    exact kx S H locs ls h_so h_rq h_rp h_ia h_rw hfr hI (lv_sub hl [0, 1, 2, 3, 4, 5] rfl)
  | succ k ih =>
    intro i S H locs ls hi h_so h_rq h_rp h_ia h_rw hfr hI hl kx
    refine lv_iload hx hb d_N_keep_34 (lv_at hl 0 rfl) ?_
    refine lv_aload_n hx hb d_N_keep_36 rfl (lv_at hl 4 rfl) ?_
    refine mp_alen (v := nI wd) hx hb hK.va hI 0 h_ia rfl rfl d_N_keep_37 ?_
    refine lv_icmp_ge (tgt := 70) hx hb d_N_keep_38 (by decide) (fun h9 => absurd h9 (by rw [nI_leI (by omega) (by omega)]; omega)) (fun _ => ?_)
    refine lv_iload hx hb d_N_keep_41 (lv_at hl 0 rfl) ?_
    refine lv_aload hx hb d_N_keep_43 (lv_at hl 1 rfl) ?_
    refine mp_alen (v := nI wd) hx hb hK.va hI 0 h_rw rfl rfl d_N_keep_45 ?_
    refine lv_icmp_ge (tgt := 70) hx hb d_N_keep_46 (by decide) (fun h9 => absurd h9 (by rw [nI_leI (by omega) (by omega)]; omega)) (fun _ => ?_)
    refine lv_aload hx hb d_N_keep_49 (lv_at hl 1 rfl) ?_
    refine lv_iload hx hb d_N_keep_51 (lv_at hl 0 rfl) ?_
    refine lv_aload_n hx hb d_N_keep_53 rfl (lv_at hl 4 rfl) ?_
    refine lv_iload hx hb d_N_keep_54 (lv_at hl 0 rfl) ?_
    refine mp_iald hx hb hK.va hI 0 h_ia rfl (vp_in_nI (show i < wd by omega) (by omega)) d_N_keep_56 ?_
    refine lv_topi (fun v1 ev1 => ?_)
    obtain rfl : v1 = nI (v i).val := ev1.trans (by rw [nI_clamp (by omega)])
    refine lv_iload_n hx hb d_N_keep_57 rfl (lv_at hl 2 rfl) ?_
    refine lv_imul hx hb d_N_keep_58 ?_
    refine lv_topi (fun v2 ev2 => ?_)
    obtain rfl : v2 = nI (((v i).val) * ((iv (v p9)).val)) := ev2.trans (pk_mul _ _)
    refine lv_sipush (v := nI 32003) hx hb d_N_keep_59 (by decide) ?_
    refine lv_irem hx hb d_N_keep_62 (by decide) ?_
    refine lv_topi (fun v3 ev3 => ?_)
    obtain rfl : v3 = nI ((((v i).val) * ((iv (v p9)).val)) % 32003) := ev3.trans (pk_rem (by first | exact fb_1 _ _ | exact fb_2 _ _ _ | exact fb_3 _ _ _ | exact fb_4 _ _ | exact fb_5 _ _ _ | omega) (by omega) (by omega))
    refine lv_topi (fun v4 ev4 => ?_)
    obtain rfl : v4 = nI (((v i) * (iv (v p9)))).val := ev4.trans (congrArg nI (fv_mod (by simp only [fc_add, fc_mul, fc_of, fc_ng, fc_0, fc_1])))
    refine lv_topi (fun v5 ev5 => ?_)
    obtain rfl : v5 = nI ((nrm v p9) i).val := ev5.trans (rfl)
    refine mp_iast hx hb hK.va hI 0 h_rw rfl (vp_in_nI (show i < wd by omega) (by omega)) d_N_keep_63 (fun S6 H7 locs e_8 hI => ?_)
    have h_rw_o := h_rw
    have e_8 : S6 = va_up S (rq + 1 + n) (some ((T0 + n), .inl ((g 0), wd, .inl (upd (fun j => nI ((mgF i (nrm v p9) (ρ n)) j).val) (nI i).toNatClampNeg (nI ((nrm v p9) i).val))))) := e_8
    have h_so : S6 so = some (TN, .inr (8, [.ref rq, .ref rp, .int (nI n)])) := by rw [e_8]; exact mp_keep h_so h_rw (by omega)
    have h_rq : S6 rq = some ((TN + 1), .inl ((g 1), 16, .inr (.inr (.inr (.inr (rfs (fun i => rq + 1 + i) 16)))))) := by rw [e_8]; exact mp_keep h_rq h_rw (by omega)
    have h_rp : S6 rp = some ((TN + 2), .inl ((g 0), 16, .inl (fun j => nI (pv j)))) := by rw [e_8]; exact mp_keep h_rp h_rw (by omega)
    have h_ia : S6 ia = some (TI, .inl ((g 0), wd, .inl (fun j => nI (v j).val))) := by rw [e_8]; exact mp_keep h_ia h_rw (by omega)
    have h_rw : S6 (rq + 1 + n) = some ((T0 + n), .inl ((g 0), wd, .inl (upd (fun j => nI ((mgF i (nrm v p9) (ρ n)) j).val) (nI i).toNatClampNeg (nI ((nrm v p9) i).val)))) := by rw [e_8]; exact mp_us _ _ _
    have hfr : ∀ b t e9, B b = some (t, e9) → (t ≠ TN) → (t ≠ TN + 2) → (t ≠ T0 + n) → S6 b = some (t, e9) := fun b t e9 h9 k0 k1 k2 => by rw [e_8]; exact mp_keep (hfr b t e9 h9 k0 k1 k2) h_rw_o (by omega)
    rw [nI_clamp (by omega), nIv_up] at h_rw
    have e9h_rw : (fun j => nI (va_up (mgF i (nrm v p9) (ρ n)) i ((nrm v p9) i) j).val) = (fun j => nI ((mgF (i + 1) (nrm v p9) (ρ n)) j).val) := by rw [mgF_up]
    rw [e9h_rw] at h_rw
    refine lv_iinc (v := nI (i + 1)) (lv' := [(5, .int (nI (i + 1))), (4, .ref (rq + 1 + n)), (3, .int (nI (iv (v p9)).val)), (2, .int (nI p9)), (1, .ref ia), (0, .ref so)]) hx hb d_N_keep_64 hl (k := 0) rfl (nI_1 _) (by decide) rfl (fun ls hl => ?_)
    refine lv_goto (tgt := 34) hx hb d_N_keep_67 (by decide) ?_
    exact ih (i + 1) S6 H7 locs ls (by omega) h_so h_rq h_rp h_ia h_rw hfr hI (lv_sub hl [0, 1, 2, 3, 4, 5] rfl) kx
set_option maxHeartbeats 4000000 in
set_option maxRecDepth 100000 in
/-- a row is kept -/
theorem c_N_keep (l : Launch) (D : mp_G) (g : Nat → ClassId) (S : mp_M) (sz : Nat) (so rq rp ia TN T0 TI wd : Nat) (pv : Nat → Nat) (ρ : Nat → Nat → fF) (v : Nat → fF) (n p9 : Nat) (h_so : S so = some (TN, .inr (8, [.ref rq, .ref rp, .int (nI n)]))) (h_rq : S rq = some ((TN + 1), .inl ((g 1), 16, .inr (.inr (.inr (.inr (rfs (fun i => rq + 1 + i) 16))))))) (h_rp : S rp = some ((TN + 2), .inl ((g 0), 16, .inl (fun j => nI (pv j))))) (h_ia : S ia = some (TI, .inl ((g 0), wd, .inl (fun j => nI (v j).val)))) (hR : rS g T0 16 wd (fun i => rq + 1 + i) (fun i j => nI (ρ i j).val) S) (hlab : TN + 2 < T0 ∧ (TI < TN ∨ TN + 2 < TI) ∧ (TI < T0 ∨ T0 + 16 ≤ TI)) (hwd : wd ≤ 33) (hn : n < 16) (hp : p9 < wd) (hρ : trn wd (ρ n)) (hv : trn wd v) : Met l y_N_keep w_N_keep ({ frames := 1, cells := 0, slots := 0, locals := 23 }) (va_Pc [.ref so, .ref ia, .int (nI p9)] (mp_B0 D classes (tys g) S sz)) (va_Qv (fun (S1 : mp_M) => S1 so = some (TN, .inr (8, [.ref rq, .ref rp, .int (nI (n + 1))])) ∧ S1 rp = some ((TN + 2), .inl ((g 0), 16, .inl (fun j => nI ((va_up pv n p9) j)))) ∧ (rS g T0 16 wd (fun i => rq + 1 + i) (fun i j => nI ((va_up ρ n (nrm v p9)) i j).val) S1) ∧ (∀ b t e9, S b = some (t, e9) → (t ≠ TN) → (t ≠ TN + 2) → (t ≠ T0 + n) → S1 b = some (t, e9))) (mp_B1 D classes S sz) (mp_A S sz)) 0 0 (mp_A S sz) := by
  refine Met.ofW (cc := b_N_keep) (maxL := 6) (ret := none) (by decide) rfl ?_
  intro p e s m args below meth c s₁ B hml hv
  obtain ⟨rfl, hsz, hH, hK⟩ := hv
  have hx := B.exec
  have hb := B.bytes
  have hr := B.returns
  have hts := atoms_spec (ws := w_N_keep) B.pre
  have hg : ∀ w ∈ gw, w.before _ s = true := fun w h => hts w (List.mem_cons_of_mem _ h)
  have hown : s.vm.findClass R_N = some m.cls := findClass_of_methodNamed B.named
  have hlocks := B.notSynchronized
  subst hsz
  have hI := mp_I.start hH
  have hl := lv_entry ([.ref so, .ref ia, .int (nI p9)]) (n := 6) (Nat.le_of_ble_eq_true rfl)
  rw [lg_entry_eq]
  generalize (lg_sl ([.ref so, .ref ia, .int (nI p9)]) ++ List.replicate (6 - (lg_sl ([.ref so, .ref ia, .int (nI p9)])).length) Slot.unset).toArray = ls at hl ⊢
  have hl : lv_has ls 6 [(0, .ref so), (1, .ref ia), (2, .int (nI p9))] := hl
  have hfr : ∀ b t e9, S b = some (t, e9) → (t ≠ TN) → (t ≠ TN + 2) → (t ≠ T0 + n) → S b = some (t, e9) := fun _ _ _ h9 _ _ _ => h9
  refine lv_aload_n hx hb d_N_keep_0 rfl (lv_at hl 0 rfl) ?_
  refine mp_get (C := R_N) (T := F_N) (N := 3) (v := .int (nI n)) hx hb hg i_N hown hK.va hI h_so rfl 2 (by decide) (hg _ q_208) (fun _ h9 => h9) rfl d_N_keep_1 ?_
  refine lv_aload_n hx hb d_N_keep_4 rfl (lv_at hl 0 rfl) ?_
  refine mp_get (C := R_N) (T := F_N) (N := 3) (v := .ref rq) hx hb hg i_N hown hK.va hI h_so rfl 0 (by decide) (hg _ q_206) (fun _ h9 => h9) rfl d_N_keep_5 ?_
  refine mp_alen (v := nI 16) hx hb hK.va hI 1 h_rq rfl rfl d_N_keep_8 ?_
  refine lv_icmp_lt (tgt := 13) hx hb d_N_keep_9 (by decide) (fun _ => ?_) (fun h9 => absurd ((nI_ltI (by omega) (by omega)).mpr (by omega)) h9)
  refine lv_aload_n hx hb d_N_keep_13 rfl (lv_at hl 1 rfl) ?_
  refine lv_iload_n hx hb d_N_keep_14 rfl (lv_at hl 2 rfl) ?_
  refine mp_iald hx hb hK.va hI 0 h_ia rfl (vp_in_nI (show p9 < wd by omega) (by omega)) d_N_keep_15 ?_
  refine lv_topi (fun v1 ev1 => ?_)
  obtain rfl : v1 = nI (v p9).val := ev1.trans (by rw [nI_clamp (by omega)])
  refine mp_calli hI (va_runSN (As := [.int (nI (v p9).val)]) (rest := []) ⟨hx, hb, hml, hown, hg⟩ (c_B_inverse l D g S _ (v p9).val (v p9).isLt) ⟨(va_cnB 1 hg (wd_goodG q_414) rfl rfl rfl (hK.nw q_412 rfl) (hg _ q_1) (by decide +kernel) ⟨Nat.le_of_ble_eq_true rfl, Nat.le_of_ble_eq_true rfl⟩), hg _ q_413, trivial⟩ (mp_pre hI hK [.int (nI (v p9).val)]) rfl rfl hl.1 rfl (lv_room (Nat.le_of_ble_eq_true rfl)) d_N_keep_16 ⟨Nat.le_of_ble_eq_true rfl, Nat.le_of_ble_eq_true rfl⟩) (fun r5 S2 H3 locs p_4 hI => ?_)
  obtain ⟨er5, eS6⟩ := p_4
  rw [eS6] at hI
  have er5 : r5 = nI ((v p9).val ^ 32001 % 32003) := er5
  subst er5
  refine lv_topi (fun v7 ev7 => ?_)
  obtain rfl : v7 = nI (iv (v p9)).val := ev7.trans (congrArg nI (iv_val _))
  have h_rw : S (rq + 1 + n) = some ((T0 + n), .inl ((g 0), wd, .inl (fun j => nI ((ρ n) j).val))) := hR n hn
  refine lv_istore_n (lv' := [(3, .int (nI (iv (v p9)).val)), (0, .ref so), (1, .ref ia), (2, .int (nI p9))]) hx hb d_N_keep_19 rfl hl (by decide) rfl (fun ls hl => ?_)
  refine lv_aload_n hx hb d_N_keep_20 rfl (lv_at hl 1 rfl) ?_
  refine mp_get (C := R_N) (T := F_N) (N := 3) (v := .ref rq) hx hb hg i_N hown hK.va hI h_so rfl 0 (by decide) (hg _ q_206) (fun _ h9 => h9) rfl d_N_keep_21 ?_
  refine lv_aload_n hx hb d_N_keep_24 rfl (lv_at hl 1 rfl) ?_
  refine mp_get (C := R_N) (T := F_N) (N := 3) (v := .int (nI n)) hx hb hg i_N hown hK.va hI h_so rfl 2 (by decide) (hg _ q_208) (fun _ h9 => h9) rfl d_N_keep_25 ?_
  refine mp_ald2 (b := rq + 1 + n) hx hb hK.va hI 1 h_rq rfl (vp_in_nI (show n < 16 by omega) (by omega)) (by rw [nI_clamp (by omega)]; exact rfs_at (by omega)) d_N_keep_28 ?_
  refine lv_astore (lv' := [(4, .ref (rq + 1 + n)), (3, .int (nI (iv (v p9)).val)), (0, .ref so), (1, .ref ia), (2, .int (nI p9))]) hx hb d_N_keep_29 hl (by decide) rfl (fun ls hl => ?_)
  refine lv_iconst (v := nI 0) hx hb d_N_keep_31 (by decide) ?_
  refine lv_istore (lv' := [(5, .int (nI 0)), (4, .ref (rq + 1 + n)), (3, .int (nI (iv (v p9)).val)), (0, .ref so), (1, .ref ia), (2, .int (nI p9))]) hx hb d_N_keep_32 hl (by decide) rfl (fun ls hl => ?_)
  rw [← mgF_0 (nrm v p9) (ρ n)] at h_rw
  refine lp_N_keep (B := S) (so := so) (rq := rq) (rp := rp) (ia := ia) (TN := TN) (T0 := T0) (TI := TI) (wd := wd) (pv := pv) (ρ := ρ) (v := v) (n := n) (p9 := p9) hx hb hml hg hown hK (Nat.le_of_ble_eq_true rfl) (Nat.le_of_ble_eq_true rfl) (Nat.le_of_ble_eq_true rfl) (Nat.le_of_ble_eq_true rfl) hlab hwd hn wd 0 S H3 _ ls (by omega) h_so h_rq h_rp h_ia h_rw hfr hI (lv_sub hl [0, 1, 2, 5, 4, 3] rfl) (fun S8 H9 locs ls j_so j_rq j_rp j_ia j_rw hfr hI hl => ?_)
  rw [mgF_t (nrm_t hv) hρ] at j_rw
  refine lv_aload_n hx hb d_N_keep_70 rfl (lv_at hl 5 rfl) ?_
  refine mp_get (C := R_N) (T := F_N) (N := 3) (v := .ref rp) hx hb hg i_N hown hK.va hI j_so rfl 1 (by decide) (hg _ q_207) (fun _ h9 => h9) rfl d_N_keep_71 ?_
  refine lv_aload_n hx hb d_N_keep_74 rfl (lv_at hl 5 rfl) ?_
  refine mp_get (C := R_N) (T := F_N) (N := 3) (v := .int (nI n)) hx hb hg i_N hown hK.va hI j_so rfl 2 (by decide) (hg _ q_208) (fun _ h9 => h9) rfl d_N_keep_75 ?_
  refine lv_iload_n hx hb d_N_keep_78 rfl (lv_at hl 3 rfl) ?_
  refine mp_iast hx hb hK.va hI 0 j_rp rfl (vp_in_nI (show n < 16 by omega) (by omega)) d_N_keep_79 (fun S10 H11 locs e_12 hI => ?_)
  have j_rp_o := j_rp
  have e_12 : S10 = va_up S8 rp (some ((TN + 2), .inl ((g 0), 16, .inl (upd (fun j => nI (pv j)) (nI n).toNatClampNeg (nI p9))))) := e_12
  have j_so : S10 so = some (TN, .inr (8, [.ref rq, .ref rp, .int (nI n)])) := by rw [e_12]; exact mp_keep j_so j_rp (by omega)
  have j_rq : S10 rq = some ((TN + 1), .inl ((g 1), 16, .inr (.inr (.inr (.inr (rfs (fun i => rq + 1 + i) 16)))))) := by rw [e_12]; exact mp_keep j_rq j_rp (by omega)
  have j_ia : S10 ia = some (TI, .inl ((g 0), wd, .inl (fun j => nI (v j).val))) := by rw [e_12]; exact mp_keep j_ia j_rp (by omega)
  have j_rw : S10 (rq + 1 + n) = some ((T0 + n), .inl ((g 0), wd, .inl (fun j => nI ((nrm v p9) j).val))) := by rw [e_12]; exact mp_keep j_rw j_rp (by omega)
  have j_rp : S10 rp = some ((TN + 2), .inl ((g 0), 16, .inl (upd (fun j => nI (pv j)) (nI n).toNatClampNeg (nI p9)))) := by rw [e_12]; exact mp_us _ _ _
  have hfr : ∀ b t e9, S b = some (t, e9) → (t ≠ TN) → (t ≠ TN + 2) → (t ≠ T0 + n) → S10 b = some (t, e9) := fun b t e9 h9 k0 k1 k2 => by rw [e_12]; exact mp_keep (hfr b t e9 h9 k0 k1 k2) j_rp_o (by omega)
  rw [nI_clamp (by omega), nIf_up] at j_rp
  refine lv_aload_n hx hb d_N_keep_80 rfl (lv_at hl 5 rfl) ?_
  refine lv_dup hx hb d_N_keep_81 rfl ?_
  refine mp_get (C := R_N) (T := F_N) (N := 3) (v := .int (nI n)) hx hb hg i_N hown hK.va hI j_so rfl 2 (by decide) (hg _ q_208) (fun _ h9 => h9) rfl d_N_keep_82 ?_
  refine lv_iconst (v := nI 1) hx hb d_N_keep_85 (by decide) ?_
  refine lv_iadd hx hb d_N_keep_86 ?_
  refine lv_topi (fun v13 ev13 => ?_)
  obtain rfl : v13 = nI (n + 1) := ev13.trans (nI_add _ _)
  refine mp_put (C := R_N) (T := F_N) (N := 3) (v := .int (nI (n + 1))) (ty := .int) hx hb hg i_N t_N t_N_ok n_N hown hK.va hI j_so rfl 2 (by decide) (hg _ q_208) (fun _ h9 => h9) rfl (by decide +kernel) (rfl) rfl (Nat.le_of_ble_eq_true rfl) d_N_keep_87 (fun S14 H15 locs e_16 hI => ?_)
  have j_so_o := j_so
  have e_16 : S14 = va_up S10 so (some (TN, .inr (8, [.ref rq, .ref rp, .int (nI (n + 1))]))) := e_16
  have j_rq : S14 rq = some ((TN + 1), .inl ((g 1), 16, .inr (.inr (.inr (.inr (rfs (fun i => rq + 1 + i) 16)))))) := by rw [e_16]; exact mp_keep j_rq j_so (by omega)
  have j_rp : S14 rp = some ((TN + 2), .inl ((g 0), 16, .inl (fun j => nI (va_up pv n p9 j)))) := by rw [e_16]; exact mp_keep j_rp j_so (by omega)
  have j_ia : S14 ia = some (TI, .inl ((g 0), wd, .inl (fun j => nI (v j).val))) := by rw [e_16]; exact mp_keep j_ia j_so (by omega)
  have j_rw : S14 (rq + 1 + n) = some ((T0 + n), .inl ((g 0), wd, .inl (fun j => nI ((nrm v p9) j).val))) := by rw [e_16]; exact mp_keep j_rw j_so (by omega)
  have j_so : S14 so = some (TN, .inr (8, [.ref rq, .ref rp, .int (nI (n + 1))])) := by rw [e_16]; exact mp_us _ _ _
  have hfr : ∀ b t e9, S b = some (t, e9) → (t ≠ TN) → (t ≠ TN + 2) → (t ≠ T0 + n) → S14 b = some (t, e9) := fun b t e9 h9 k0 k1 k2 => by rw [e_16]; exact mp_keep (hfr b t e9 h9 k0 k1 k2) j_so_o (by omega)
  refine mp_vret hx hb hr hlocks hI (Nat.le_of_ble_eq_true rfl) (Nat.le_of_ble_eq_true rfl) ?_ d_N_keep_90
  exact ⟨j_so, j_rp, rS_up hR j_rw (fun j hj hne e9 h9 => hfr _ _ _ h9 (by omega) (by omega) (by omega)), hfr⟩
set_option maxHeartbeats 4000000 in
set_option maxRecDepth 100000 in
theorem lp_N_add1 {p : Program} {l : Launch} {e : Env} {R : Room} {s : State} {m : MethodId} {args : Array Value} {below : List Frame} {meth : Method} {c : Code} {Q : State → Prop} {D : mp_G} {g : Nat → ClassId} {A : Nat → Prop} {cells slots : Nat} (hx : p.tables.exec = Jvm.exec) (hb : c.code = b_N_add) (hml : c.maxLocals = 4) (hg : ∀ w ∈ gw, w.before args s = true) (hown : s.vm.findClass R_N = some m.cls) (hK : mp_K D classes (tys g) s) (hRf : 2 ≤ R.frames) (hRl : 48 ≤ R.locals) (hRc : cells ≤ R.cells) (hRs : slots ≤ R.slots) {B : mp_M} {so rq rp ia TN T0 TI wd : Nat} {pv : Nat → Nat} {ρ : Nat → Nat → fF} {v : Nat → fF} {n s9 : Nat} (hlab : TN + 2 < T0 ∧ (TI < TN ∨ TN + 2 < TI) ∧ (TI < T0 ∨ T0 + 16 ≤ TI)) (hwd : wd ≤ 33) (hn : n ≤ 16) (hs : s9 ≤ 16) (hsw : s9 ≤ wd) (hsp : spn s9 n ρ pv) (hρ : ∀ r, trn wd (ρ r)) (hv : trn wd v) : ∀ (k : Nat) (i : Nat) (S : mp_M) (H : Heap) (locs : List Loc) (ls : Array Slot), i + k = n → S so = some (TN, .inr (8, [.ref rq, .ref rp, .int (nI n)])) → S rq = some ((TN + 1), .inl ((g 1), 16, .inr (.inr (.inr (.inr (rfs (fun i => rq + 1 + i) 16)))))) → S rp = some ((TN + 2), .inl ((g 0), 16, .inl (fun j => nI (pv j)))) → S ia = some (TI, .inl ((g 0), wd, .inl (fun j => nI ((tkO ρ pv i v) j).val))) → (rS g T0 16 wd (fun i => rq + 1 + i) (fun i j => nI (ρ i j).val) S) → (∀ b t e9, B b = some (t, e9) → (t ≠ TI) → (t ≠ TN) → (t ≠ TN + 2) → (t < T0 ∨ T0 + 16 ≤ t) → S b = some (t, e9)) → mp_I D classes A s.heap S H locs → lv_has ls 4 [(3, .int (nI i)), (2, .int (nI s9)), (1, .ref ia), (0, .ref so)] → (∀ (S : mp_M) (H : Heap) (locs : List Loc) (ls : Array Slot), S so = some (TN, .inr (8, [.ref rq, .ref rp, .int (nI n)])) → S rq = some ((TN + 1), .inl ((g 1), 16, .inr (.inr (.inr (.inr (rfs (fun n => rq + 1 + n) 16)))))) → S rp = some ((TN + 2), .inl ((g 0), 16, .inl (fun j => nI (pv j)))) → S ia = some (TI, .inl ((g 0), wd, .inl (fun j => nI ((tkO ρ pv n v) j).val))) → (rS g T0 16 wd (fun n => rq + 1 + n) (fun n j => nI (ρ n j).val) S) → (∀ b t e9, B b = some (t, e9) → (t ≠ TI) → (t ≠ TN) → (t ≠ TN + 2) → (t < T0 ∨ T0 + 16 ≤ t) → S b = some (t, e9)) → mp_I D classes A s.heap S H locs → lv_has ls 4 [(3, .int (nI n)), (2, .int (nI s9)), (1, .ref ia), (0, .ref so)] → W p l e R s m args below meth c H locs cells slots Q (F0 m 22 ls [])) → W p l e R s m args below meth c H locs cells slots Q (F0 m 2 ls []) := by
  intro k
  induction k with
  | zero =>
    intro i S H locs ls hi h_so h_rq h_rp h_ia hR hfr hI hl kx
    refine lv_iload_n hx hb d_N_add_2 rfl (lv_at hl 0 rfl) ?_
    refine lv_aload_n hx hb d_N_add_3 rfl (lv_at hl 3 rfl) ?_
    refine mp_get (C := R_N) (T := F_N) (N := 3) (v := .int (nI n)) hx hb hg i_N hown hK.va hI h_so rfl 2 (by decide) (hg _ q_208) (fun _ h9 => h9) rfl d_N_add_4 ?_
    refine lv_icmp_ge (tgt := 22) hx hb d_N_add_7 (by decide) (fun _ => ?_) (fun h9 => absurd ((nI_leI (by omega) (by omega)).mpr (by omega)) h9)
    obtain rfl : i = n := by omega
    exact kx S H locs ls h_so h_rq h_rp h_ia hR hfr hI (lv_sub hl [0, 1, 2, 3] rfl)
  | succ k ih =>
    intro i S H locs ls hi h_so h_rq h_rp h_ia hR hfr hI hl kx
    refine lv_iload_n hx hb d_N_add_2 rfl (lv_at hl 0 rfl) ?_
    refine lv_aload_n hx hb d_N_add_3 rfl (lv_at hl 3 rfl) ?_
    refine mp_get (C := R_N) (T := F_N) (N := 3) (v := .int (nI n)) hx hb hg i_N hown hK.va hI h_so rfl 2 (by decide) (hg _ q_208) (fun _ h9 => h9) rfl d_N_add_4 ?_
    refine lv_icmp_ge (tgt := 22) hx hb d_N_add_7 (by decide) (fun h9 => absurd h9 (by rw [nI_leI (by omega) (by omega)]; omega)) (fun _ => ?_)
    refine lv_aload_n hx hb d_N_add_10 rfl (lv_at hl 3 rfl) ?_
    refine lv_aload_n hx hb d_N_add_11 rfl (lv_at hl 2 rfl) ?_
    refine lv_iload_n hx hb d_N_add_12 rfl (lv_at hl 0 rfl) ?_
    have hpi := (hsp i (by omega)).1
    refine mp_callv hI (va_runV (As := [.ref ia, .int (nI i)]) (rest := []) ⟨hx, hb, hml, hown, hg⟩ (c_N_takeOff l D g S _ so rq rp ia TN T0 TI wd pv ρ (tkO ρ pv i v) i (.int (nI n)) h_so h_rq h_rp h_ia hR hlab hwd (by omega) (by omega) (hρ i)) ⟨(callB_of 2 hg (wd_goodG q_407) rfl rfl rfl (hg _ q_22) (hg _ q_404) (by decide +kernel) ⟨Nat.le_trans (Nat.le_of_ble_eq_true rfl) hRf, Nat.le_trans (Nat.le_of_ble_eq_true rfl) hRl⟩), hg _ q_406, hg _ qs_7⟩ (mp_preV (C := R_N) (T := F_N) hI hK h_so rfl [.ref ia, .int (nI i)]) rfl rfl hl.1 rfl (lv_room (Nat.le_of_ble_eq_true rfl)) d_N_add_13 ⟨by omega, by omega⟩) (fun S1 H2 locs p_3 hI => ?_)
    obtain ⟨q_ia, fq⟩ := p_3
    have h_so : S1 so = some (TN, .inr (8, [.ref rq, .ref rp, .int (nI n)])) := fq so _ _ h_so (by omega)
    have h_rq : S1 rq = some ((TN + 1), .inl ((g 1), 16, .inr (.inr (.inr (.inr (rfs (fun i => rq + 1 + i) 16)))))) := fq rq _ _ h_rq (by omega)
    have h_rp : S1 rp = some ((TN + 2), .inl ((g 0), 16, .inl (fun j => nI (pv j)))) := fq rp _ _ h_rp (by omega)
    have hfr : ∀ b t e9, B b = some (t, e9) → (t ≠ TI) → (t ≠ TN) → (t ≠ TN + 2) → (t < T0 ∨ T0 + 16 ≤ t) → S1 b = some (t, e9) := fun b t e9 h9 k0 k1 k2 k3 => by have h8 := hfr b t e9 h9 k0 k1 k2 k3; exact fq b _ _ h8 (by omega)
    have hR := rS_kept hR (S1 := S1) (fun b t9 e9 hb9 h1 h2 => by have h8 : S1 b = some (t9, e9) := fq b _ _ hb9 (by omega); rw [h8, hb9])
    have h_ia := q_ia
    refine lv_iinc (v := nI (i + 1)) (lv' := [(3, .int (nI (i + 1))), (2, .int (nI s9)), (1, .ref ia), (0, .ref so)]) hx hb d_N_add_16 hl (k := 0) rfl (nI_1 _) (by decide) rfl (fun ls hl => ?_)
    refine lv_goto (tgt := 2) hx hb d_N_add_19 (by decide) ?_
    exact ih (i + 1) S1 H2 locs ls (by omega) h_so h_rq h_rp h_ia hR hfr hI (lv_sub hl [0, 1, 2, 3] rfl) kx
set_option maxHeartbeats 4000000 in
set_option maxRecDepth 100000 in
theorem lp_N_add2 {p : Program} {l : Launch} {e : Env} {R : Room} {s : State} {m : MethodId} {args : Array Value} {below : List Frame} {meth : Method} {c : Code} {Q : State → Prop} {D : mp_G} {g : Nat → ClassId} {A : Nat → Prop} {cells slots : Nat} (hx : p.tables.exec = Jvm.exec) (hb : c.code = b_N_add) (hml : c.maxLocals = 4) (hg : ∀ w ∈ gw, w.before args s = true) (hown : s.vm.findClass R_N = some m.cls) (hK : mp_K D classes (tys g) s) (hRf : 2 ≤ R.frames) (hRl : 48 ≤ R.locals) (hRc : cells ≤ R.cells) (hRs : slots ≤ R.slots) {B : mp_M} {so rq rp ia TN T0 TI wd : Nat} {pv : Nat → Nat} {ρ : Nat → Nat → fF} {v : Nat → fF} {n s9 : Nat} (hlab : TN + 2 < T0 ∧ (TI < TN ∨ TN + 2 < TI) ∧ (TI < T0 ∨ T0 + 16 ≤ TI)) (hwd : wd ≤ 33) (hn : n ≤ 16) (hs : s9 ≤ 16) (hsw : s9 ≤ wd) (hsp : spn s9 n ρ pv) (hρ : ∀ r, trn wd (ρ r)) (hv : trn wd v) : ∀ (k : Nat) (i : Nat) (S : mp_M) (H : Heap) (locs : List Loc) (ls : Array Slot), i + k = s9 → (∀ j, j < i → (tkO ρ pv n v) j = 0) → S so = some (TN, .inr (8, [.ref rq, .ref rp, .int (nI n)])) → S rq = some ((TN + 1), .inl ((g 1), 16, .inr (.inr (.inr (.inr (rfs (fun i => rq + 1 + i) 16)))))) → S rp = some ((TN + 2), .inl ((g 0), 16, .inl (fun j => nI (pv j)))) → S ia = some (TI, .inl ((g 0), wd, .inl (fun j => nI ((tkO ρ pv n v) j).val))) → (rS g T0 16 wd (fun i => rq + 1 + i) (fun i j => nI (ρ i j).val) S) → (∀ b t e9, B b = some (t, e9) → (t ≠ TI) → (t ≠ TN) → (t ≠ TN + 2) → (t < T0 ∨ T0 + 16 ≤ t) → S b = some (t, e9)) → mp_I D classes A s.heap S H locs → lv_has ls 4 [(3, .int (nI i)), (2, .int (nI s9)), (1, .ref ia), (0, .ref so)] → (∀ (S : mp_M) (H : Heap) (locs : List Loc) (ls : Array Slot), (∀ j, j < s9 → (tkO ρ pv n v) j = 0) → S so = some (TN, .inr (8, [.ref rq, .ref rp, .int (nI n)])) → S rq = some ((TN + 1), .inl ((g 1), 16, .inr (.inr (.inr (.inr (rfs (fun s9 => rq + 1 + s9) 16)))))) → S rp = some ((TN + 2), .inl ((g 0), 16, .inl (fun j => nI (pv j)))) → S ia = some (TI, .inl ((g 0), wd, .inl (fun j => nI ((tkO ρ pv n v) j).val))) → (rS g T0 16 wd (fun s9 => rq + 1 + s9) (fun s9 j => nI (ρ s9 j).val) S) → (∀ b t e9, B b = some (t, e9) → (t ≠ TI) → (t ≠ TN) → (t ≠ TN + 2) → (t < T0 ∨ T0 + 16 ≤ t) → S b = some (t, e9)) → mp_I D classes A s.heap S H locs → lv_has ls 4 [(3, .int (nI s9)), (2, .int (nI s9)), (1, .ref ia), (0, .ref so)] → W p l e R s m args below meth c H locs cells slots Q (F0 m 55 ls [])) → (∀ (i : Nat) (S : mp_M) (H : Heap) (locs : List Loc) (ls : Array Slot), (i < s9 ∧ (∀ j, j < i → (tkO ρ pv n v) j = 0) ∧ (tkO ρ pv n v) i ≠ 0) → S so = some (TN, .inr (8, [.ref rq, .ref rp, .int (nI n)])) → S rq = some ((TN + 1), .inl ((g 1), 16, .inr (.inr (.inr (.inr (rfs (fun i => rq + 1 + i) 16)))))) → S rp = some ((TN + 2), .inl ((g 0), 16, .inl (fun j => nI (pv j)))) → S ia = some (TI, .inl ((g 0), wd, .inl (fun j => nI ((tkO ρ pv n v) j).val))) → (rS g T0 16 wd (fun i => rq + 1 + i) (fun i j => nI (ρ i j).val) S) → (∀ b t e9, B b = some (t, e9) → (t ≠ TI) → (t ≠ TN) → (t ≠ TN + 2) → (t < T0 ∨ T0 + 16 ≤ t) → S b = some (t, e9)) → mp_I D classes A s.heap S H locs → lv_has ls 4 [(3, .int (nI i)), (2, .int (nI s9)), (1, .ref ia), (0, .ref so)] → W p l e R s m args below meth c H locs cells slots Q (F0 m 41 ls [])) → W p l e R s m args below meth c H locs cells slots Q (F0 m 24 ls []) := by
  intro k
  induction k with
  | zero =>
    intro i S H locs ls hi hz h_so h_rq h_rp h_ia hR hfr hI hl kx ky
    refine lv_iload_n hx hb d_N_add_24 rfl (lv_at hl 0 rfl) ?_
    refine lv_iload_n hx hb d_N_add_25 rfl (lv_at hl 1 rfl) ?_
    refine lv_icmp_ge (tgt := 55) hx hb d_N_add_26 (by decide) (fun _ => ?_) (fun h9 => absurd ((nI_leI (by omega) (by omega)).mpr (by omega)) h9)
    obtain rfl : i = s9 := by omega
    exact kx S H locs ls hz h_so h_rq h_rp h_ia hR hfr hI (lv_sub hl [0, 1, 2, 3] rfl)
  | succ k ih =>
    intro i S H locs ls hi hz h_so h_rq h_rp h_ia hR hfr hI hl kx ky
    refine lv_iload_n hx hb d_N_add_24 rfl (lv_at hl 0 rfl) ?_
    refine lv_iload_n hx hb d_N_add_25 rfl (lv_at hl 1 rfl) ?_
    refine lv_icmp_ge (tgt := 55) hx hb d_N_add_26 (by decide) (fun h9 => absurd h9 (by rw [nI_leI (by omega) (by omega)]; omega)) (fun _ => ?_)
    refine lv_iload_n hx hb d_N_add_29 rfl (lv_at hl 0 rfl) ?_
    refine lv_aload_n hx hb d_N_add_30 rfl (lv_at hl 2 rfl) ?_
    refine mp_alen (v := nI wd) hx hb hK.va hI 0 h_ia rfl rfl d_N_add_31 ?_
    refine lv_icmp_ge (tgt := 55) hx hb d_N_add_32 (by decide) (fun h9 => absurd h9 (by rw [nI_leI (by omega) (by omega)]; omega)) (fun _ => ?_)
    refine lv_aload_n hx hb d_N_add_35 rfl (lv_at hl 2 rfl) ?_
    refine lv_iload_n hx hb d_N_add_36 rfl (lv_at hl 0 rfl) ?_
    refine mp_iald hx hb hK.va hI 0 h_ia rfl (vp_in_nI (show i < wd by omega) (by omega)) d_N_add_37 ?_
    refine lv_topi (fun v1 ev1 => ?_)
    obtain rfl : v1 = nI ((tkO ρ pv n v) i).val := ev1.trans (by rw [nI_clamp (by omega)])
    refine lv_if_eq (tgt := 49) hx hb d_N_add_38 (by decide) (fun c1 => ?_) (fun c1 => ?_)
    · rw [zI_eq (by omega)] at c1
      refine lv_iinc (v := nI (i + 1)) (lv' := [(3, .int (nI (i + 1))), (2, .int (nI s9)), (1, .ref ia), (0, .ref so)]) hx hb d_N_add_49 hl (k := 0) rfl (nI_1 _) (by decide) rfl (fun ls hl => ?_)
      refine lv_goto (tgt := 24) hx hb d_N_add_52 (by decide) ?_
      exact ih (i + 1) S H locs ls (by omega) (fun j hj => by by_cases e : j = i; exact (by rw [e]; exact Fin.ext c1); exact hz j (by omega)) h_so h_rq h_rp h_ia hR hfr hI (lv_sub hl [0, 1, 2, 3] rfl) kx ky
    · rw [zI_eq (by omega)] at c1
      exact ky i S H locs ls ⟨by omega, hz, fun e => c1 (by rw [e]; rfl)⟩ h_so h_rq h_rp h_ia hR hfr hI (lv_sub hl [0, 1, 2, 3] rfl)
set_option maxHeartbeats 4000000 in
set_option maxRecDepth 100000 in
/-- a row is added -/
theorem c_N_add (l : Launch) (D : mp_G) (g : Nat → ClassId) (S : mp_M) (sz : Nat) (so rq rp ia TN T0 TI wd : Nat) (pv : Nat → Nat) (ρ : Nat → Nat → fF) (v : Nat → fF) (n s9 : Nat) (h_so : S so = some (TN, .inr (8, [.ref rq, .ref rp, .int (nI n)]))) (h_rq : S rq = some ((TN + 1), .inl ((g 1), 16, .inr (.inr (.inr (.inr (rfs (fun i => rq + 1 + i) 16))))))) (h_rp : S rp = some ((TN + 2), .inl ((g 0), 16, .inl (fun j => nI (pv j))))) (h_ia : S ia = some (TI, .inl ((g 0), wd, .inl (fun j => nI (v j).val)))) (hR : rS g T0 16 wd (fun i => rq + 1 + i) (fun i j => nI (ρ i j).val) S) (hlab : TN + 2 < T0 ∧ (TI < TN ∨ TN + 2 < TI) ∧ (TI < T0 ∨ T0 + 16 ≤ TI)) (hwd : wd ≤ 33) (hn : n ≤ 16) (hs : s9 ≤ 16) (hsw : s9 ≤ wd) (hsp : spn s9 n ρ pv) (hρ : ∀ r, trn wd (ρ r)) (hv : trn wd v) : Met l y_N_add w_N_add ({ frames := 2, cells := 0, slots := 0, locals := 48 }) (va_Pc [.ref so, .ref ia, .int (nI s9)] (mp_B0 D classes (tys g) S sz)) (va_Qi (fun (r : Int32) (S1 : mp_M) => S1 ia = some (TI, .inl ((g 0), wd, .inl (fun j => nI ((tkO ρ pv n v) j).val))) ∧ ((r = 1 ∧ (fnz (tkO ρ pv n v) s9) < s9 ∧ n < 16 ∧ S1 so = some (TN, .inr (8, [.ref rq, .ref rp, .int (nI (n + 1))])) ∧ S1 rp = some ((TN + 2), .inl ((g 0), 16, .inl (fun j => nI ((va_up pv n (fnz (tkO ρ pv n v) s9)) j)))) ∧ (rS g T0 16 wd (fun i => rq + 1 + i) (fun i j => nI ((va_up ρ n (nrm (tkO ρ pv n v) (fnz (tkO ρ pv n v) s9))) i j).val) S1)) ∨ (r = 0 ∧ (fnz (tkO ρ pv n v) s9) = s9 ∧ S1 so = some (TN, .inr (8, [.ref rq, .ref rp, .int (nI n)])) ∧ S1 rp = some ((TN + 2), .inl ((g 0), 16, .inl (fun j => nI (pv j)))) ∧ (rS g T0 16 wd (fun i => rq + 1 + i) (fun i j => nI (ρ i j).val) S1))) ∧ (∀ b t e9, S b = some (t, e9) → (t ≠ TI) → (t ≠ TN) → (t ≠ TN + 2) → (t < T0 ∨ T0 + 16 ≤ t) → S1 b = some (t, e9))) (mp_B1 D classes S sz) (mp_A S sz)) 0 0 (mp_A S sz) := by
  refine Met.ofW (cc := b_N_add) (maxL := 4) (ret := (some .boolean)) (by decide) rfl ?_
  intro p e s m args below meth c s₁ B hml hv
  obtain ⟨rfl, hsz, hH, hK⟩ := hv
  have hx := B.exec
  have hb := B.bytes
  have hr := B.returns
  have hts := atoms_spec (ws := w_N_add) B.pre
  have hg : ∀ w ∈ gw, w.before _ s = true := fun w h => hts w (List.mem_cons_of_mem _ h)
  have hown : s.vm.findClass R_N = some m.cls := findClass_of_methodNamed B.named
  have hlocks := B.notSynchronized
  subst hsz
  have hI := mp_I.start hH
  have hl := lv_entry ([.ref so, .ref ia, .int (nI s9)]) (n := 4) (Nat.le_of_ble_eq_true rfl)
  rw [lg_entry_eq]
  generalize (lg_sl ([.ref so, .ref ia, .int (nI s9)]) ++ List.replicate (4 - (lg_sl ([.ref so, .ref ia, .int (nI s9)])).length) Slot.unset).toArray = ls at hl ⊢
  have hl : lv_has ls 4 [(0, .ref so), (1, .ref ia), (2, .int (nI s9))] := hl
  have hfr : ∀ b t e9, S b = some (t, e9) → (t ≠ TI) → (t ≠ TN) → (t ≠ TN + 2) → (t < T0 ∨ T0 + 16 ≤ t) → S b = some (t, e9) := fun _ _ _ h9 _ _ _ _ => h9
  refine lv_iconst (v := nI 0) hx hb d_N_add_0 (by decide) ?_
  refine lv_istore_n (lv' := [(3, .int (nI 0)), (0, .ref so), (1, .ref ia), (2, .int (nI s9))]) hx hb d_N_add_1 rfl hl (by decide) rfl (fun ls hl => ?_)
  refine lp_N_add1 (B := S) (so := so) (rq := rq) (rp := rp) (ia := ia) (TN := TN) (T0 := T0) (TI := TI) (wd := wd) (pv := pv) (ρ := ρ) (v := v) (n := n) (s9 := s9) hx hb hml hg hown hK (Nat.le_of_ble_eq_true rfl) (Nat.le_of_ble_eq_true rfl) (Nat.le_of_ble_eq_true rfl) (Nat.le_of_ble_eq_true rfl) hlab hwd hn hs hsw hsp hρ hv n 0 S s.heap _ ls (by omega) h_so h_rq h_rp h_ia hR hfr hI (lv_sub hl [0, 3, 2, 1] rfl) (fun S1 H2 locs ls j_so j_rq j_rp j_ia hR hfr hI hl => ?_)
  refine lv_iconst (v := nI 0) hx hb d_N_add_22 (by decide) ?_
  refine lv_istore_n (lv' := [(3, .int (nI 0)), (2, .int (nI s9)), (1, .ref ia), (0, .ref so)]) hx hb d_N_add_23 rfl hl (by decide) rfl (fun ls hl => ?_)
  refine lp_N_add2 (B := S) (so := so) (rq := rq) (rp := rp) (ia := ia) (TN := TN) (T0 := T0) (TI := TI) (wd := wd) (pv := pv) (ρ := ρ) (v := v) (n := n) (s9 := s9) hx hb hml hg hown hK (Nat.le_of_ble_eq_true rfl) (Nat.le_of_ble_eq_true rfl) (Nat.le_of_ble_eq_true rfl) (Nat.le_of_ble_eq_true rfl) hlab hwd hn hs hsw hsp hρ hv s9 0 S1 H2 _ ls (by omega) (fun j hj => absurd hj (Nat.not_lt_zero j)) j_so j_rq j_rp j_ia hR hfr hI (lv_sub hl [0, 1, 2, 3] rfl) (fun S3 H4 locs ls hz j_so j_rq j_rp j_ia hR hfr hI hl => ?_) (fun i S9 H9 locs ls hf j_so j_rq j_rp j_ia hR hfr hI hl => ?_)
  · refine lv_iconst (v := nI 0) hx hb d_N_add_55 (by decide) ?_
    have hfz := fnz_no hz
    refine mp_zret hx hb hr hlocks hI (Nat.le_of_ble_eq_true rfl) (Nat.le_of_ble_eq_true rfl) ?_ (by decide) d_N_add_56
    exact ⟨j_ia, Or.inr ⟨rfl, hfz, j_so, j_rp, hR⟩, hfr⟩
  · obtain ⟨hi, hz, hne⟩ := hf
    have hfz := fnz_un hi hz hne
    have hn16 : n < 16 := by apply Classical.byContradiction; intro q9; exact hne (spn_full hsp v pig (by omega) i hi)
    refine lv_aload_n hx hb d_N_add_41 rfl (lv_at hl 3 rfl) ?_
    refine lv_aload_n hx hb d_N_add_42 rfl (lv_at hl 2 rfl) ?_
    refine lv_iload_n hx hb d_N_add_43 rfl (lv_at hl 0 rfl) ?_
    refine mp_callv hI (va_runV (As := [.ref ia, .int (nI i)]) (rest := []) ⟨hx, hb, hml, hown, hg⟩ (c_N_keep l D g S9 _ so rq rp ia TN T0 TI wd pv ρ (tkO ρ pv n v) n i j_so j_rq j_rp j_ia hR hlab hwd hn16 (by omega) (hρ n) (tkO_t hρ hv n)) ⟨(callB_of 2 hg (wd_goodG q_411) rfl rfl rfl (hg _ q_22) (hg _ q_408) (by decide +kernel) ⟨Nat.le_of_ble_eq_true rfl, Nat.le_of_ble_eq_true rfl⟩), hg _ q_410, hg _ qs_8⟩ (mp_preV (C := R_N) (T := F_N) hI hK j_so rfl [.ref ia, .int (nI i)]) rfl rfl hl.1 rfl (lv_room (Nat.le_of_ble_eq_true rfl)) d_N_add_44 ⟨Nat.le_of_ble_eq_true rfl, Nat.le_of_ble_eq_true rfl⟩) (fun S5 H6 locs p_7 hI => ?_)
    obtain ⟨q_so, q_rp, q_R, fq⟩ := p_7
    have q_ia := fq ia _ _ j_ia (by omega) (by omega) (by omega)
    have hfr : ∀ b t e9, S b = some (t, e9) → (t ≠ TI) → (t ≠ TN) → (t ≠ TN + 2) → (t < T0 ∨ T0 + 16 ≤ t) → S5 b = some (t, e9) := fun b t e9 h9 k0 k1 k2 k3 => fq b t e9 (hfr b t e9 h9 k0 k1 k2 k3) (by omega) (by omega) (by omega)
    rw [← hfz] at q_rp q_R
    refine lv_iconst (v := nI 1) hx hb d_N_add_47 (by decide) ?_
    refine mp_zret hx hb hr hlocks hI (Nat.le_of_ble_eq_true rfl) (Nat.le_of_ble_eq_true rfl) ?_ (by decide) d_N_add_48
    exact ⟨q_ia, Or.inl ⟨rfl, by rw [hfz]; exact hi, hn16, q_so, q_rp, q_R⟩, hfr⟩
