/-! The keys of the letters: a table that is there from the start. -/
def lkN (l : Nat) : Nat := if l = 0 then 1056 else if l = 1 then 1025 else 1024
def xlT (l : Nat) : m3 := if l = 0 then (1, 0, 0) else if l = 1 then (0, 1, 0) else (0, 0, 1)
theorem lk_kT (l : Nat) : lkN l = kT (xlT l) := by unfold lkN xlT kT kN; split; rfl; split <;> rfl
theorem lk_T {D : mp_G} {cl : List vw_C} {tys : List (ClassId × FieldType)} {s : State} (hK : mp_K D cl tys s) : ∃ t : Nat, va_Z "SolutionBoxes$Power" "LETTER_KEYS" "[I" (.ref t) (fun _ => False) D.2.1 D.2.1.heap ∧ va_T .int t 3 (fun j => .int (nI (lkN j))) (fun _ => False) D.2.1 D.2.1.heap := by
  have fb := fun w hw => flat_of_before _ hK.1.2.2 w hw
  have h1 := fb (Jvm.Cond.arrayOf (Jvm.Term.static "SolutionBoxes$Power" "LETTER_KEYS" "[I") Jvm.ClassFile.FieldType.int) (by decide +kernel)
  have h2 := fb (Jvm.Cond.eq (Jvm.Term.length (Jvm.Term.static "SolutionBoxes$Power" "LETTER_KEYS" "[I")) (Jvm.Term.int (3 : Int32))) (by decide +kernel)
  have h3 := fb (Jvm.Cond.eq (Jvm.Term.elem (Jvm.Term.static "SolutionBoxes$Power" "LETTER_KEYS" "[I") (Jvm.Term.int (0 : Int32))) (Jvm.Term.int (1056 : Int32))) (by decide +kernel)
  have h4 := fb (Jvm.Cond.eq (Jvm.Term.elem (Jvm.Term.static "SolutionBoxes$Power" "LETTER_KEYS" "[I") (Jvm.Term.int (1 : Int32))) (Jvm.Term.int (1025 : Int32))) (by decide +kernel)
  have h5 := fb (Jvm.Cond.eq (Jvm.Term.elem (Jvm.Term.static "SolutionBoxes$Power" "LETTER_KEYS" "[I") (Jvm.Term.int (2 : Int32))) (Jvm.Term.int (1024 : Int32))) (by decide +kernel)
  obtain ⟨t, ht, hT⟩ := va_Tof (N := 3) (f := fun j => .int (nI (lkN j))) (A := fun _ => False) (by decide) h1 (va_eqt h2) (fun j hj => by
    rcases (show j = 0 ∨ j = 1 ∨ j = 2 by omega) with rfl | rfl | rfl
    · exact va_eqt h3
    · exact va_eqt h4
    · exact va_eqt h5) (fun _ _ q => q)
  exact ⟨t, va_Zref (hK.1.2.1 _ q_377) (hK.1.2.1 _ (List.mem_filter.mp q_11).1) ht (fun _ _ q => q), hT⟩
section LK
variable {p : Program} {l : Launch} {e : Env} {R : Room} {s : State} {m : MethodId} {args : Array Value} {below : List Frame} {meth : Method} {c : Code} {H H0 : Heap} {locs : List Loc} {cells slots : Nat} {Q : State → Prop} {pc : Nat} {ls : Array Slot} {rest : List Value} {cc : ByteArray} {D : mp_G} {cl : List vw_C} {tys : List (ClassId × FieldType)} {S : mp_M} {A : Nat → Prop} {t : Nat}
theorem mp_gets (hexec : p.tables.exec = Jvm.exec) (hb : c.code = cc) {own C n d : String} {index : Nat} (hK : mp_K D cl tys s) (hI : mp_I D cl A H0 S H locs) (hZ : va_Z C n d (.ref t) (fun _ => False) D.2.1 D.2.1.heap) (hown : s.vm.findClass own = some m.cls) (hlink : (Cond.fieldLink own index C n d).before args s = true) (hdg : decode cc pc = .ok (.getstatic index, 3))
    (kk : W p l e R s m args below meth c H locs cells slots Q (F0 m (pc + 3) ls (.ref t :: rest))) : W p l e R s m args below meth c H locs cells slots Q (F0 m pc ls rest) := by
  obtain ⟨cf, kf, fi, f, a, cell, h1, h2, h3, h4, h5, h6, h7, h8⟩ := va_Z.moved hK.2.alike hZ
  exact W.gets hexec hb hown hlink h1 h2 h3 h4 (hI.1.2 a cell h5).2 (fun e => by rw [e] at h6; cases h6) h7 rfl hdg kk
theorem mp_ti (hexec : p.tables.exec = Jvm.exec) (hb : c.code = cc) {N : Nat} {f : Nat → Value} (hK : mp_K D cl tys s) (hI : mp_I D cl A H0 S H locs) (hT : va_T .int t N f (fun _ => False) D.2.1 D.2.1.heap) {i : Int32} (hin : vp_in i N) {v : Value} (hv : f i.toNatClampNeg = v) (hdg : decode cc pc = .ok (.iaload, 1))
    (kk : W p l e R s m args below meth c H locs cells slots Q (F0 m (pc + 1) ls (v :: rest))) : W p l e R s m args below meth c H locs cells slots Q (F0 m pc ls (.int i :: .ref t :: rest)) := by
  obtain ⟨cell, h1, h2, h3, h4, h5, h6, h7⟩ := va_T.moved hK.2.alike hT
  have hlt : i.toNatClampNeg < N := Nat.not_le.mp fun q => hin (Or.inr q)
  have hin' : ¬ (i < 0 ∨ cell.slots.size ≤ i.toNatClampNeg) := by
    intro q
    rcases q with q | q
    · exact hin (Or.inl q)
    · omega
  exact W.iald (v := v) hexec hb (hI.1.2 t cell h1).2 h2 h3 hin' (by rw [h6 _ hlt, hv]) rfl rfl hdg kk
end LK
/-- which pairs of letter and power are through: all of the letters below l, and of the letter l those below k -/
def prD (l k a b : Nat) : Prop := a < l ∨ (a = l ∧ b < k)
def lwI (s : Nat) (lf : Nat → m3) (l k : Nat) (lwf llf : Nat → Nat) : Prop := ∀ o, o < s → (∃ a b, prD l k a b ∧ b < s ∧ lf o = ad3 (xlT a) (lf b)) → prD l k (llf o) (lwf o) ∧ lwf o < s ∧ lf o = ad3 (xlT (llf o)) (lf (lwf o))
theorem lwI_up {s : Nat} {lf : Nat → m3} {l k : Nat} {lwf llf kQ : Nat → Nat} (h : lwI s lf l k lwf llf) (hk : k < s) (hq : ∀ o, o < s → (kQ o = kT (ad3 (xlT l) (lf k)) ↔ lf o = ad3 (xlT l) (lf k))) : lwI s lf l (k + 1) (lwN s kQ (kT (ad3 (xlT l) (lf k))) k s lwf) (lwN s kQ (kT (ad3 (xlT l) (lf k))) l s llf) := by
  intro o ho ⟨a, b, h1, h2, h3⟩
  by_cases e : kQ o = kT (ad3 (xlT l) (lf k))
  · unfold lwN
    rw [if_pos ⟨ho, e⟩, if_pos ⟨ho, e⟩]
    exact ⟨Or.inr ⟨rfl, Nat.lt_succ_self k⟩, hk, (hq o ho).mp e⟩
  · unfold lwN
    rw [if_neg (fun q => e q.2), if_neg (fun q => e q.2)]
    have h4 : prD l k a b := by
      rcases h1 with h1 | ⟨h1, h5⟩
      · exact Or.inl h1
      · by_cases q : b = k
        · rw [h1, q] at h3; exact absurd ((hq o ho).mpr h3) e
        · exact Or.inr ⟨h1, by omega⟩
    obtain ⟨k1, k2, k3⟩ := h o ho ⟨a, b, h4, h2, h3⟩
    refine ⟨?_, k2, k3⟩
    rcases k1 with k1 | ⟨k1, k4⟩
    · exact Or.inl k1
    · exact Or.inr ⟨k1, by omega⟩
theorem lwI_next {s : Nat} {lf : Nat → m3} {l : Nat} {lwf llf : Nat → Nat} (h : lwI s lf l s lwf llf) : lwI s lf (l + 1) 0 lwf llf := by
  intro o ho ⟨a, b, h1, h2, h3⟩
  have h4 : prD l s a b := by
    rcases h1 with h1 | ⟨h1, h5⟩
    · by_cases q : a = l
      · exact Or.inr ⟨q, h2⟩
      · exact Or.inl (by omega)
    · exact absurd h5 (Nat.not_lt_zero b)
  obtain ⟨k1, k2, k3⟩ := h o ho ⟨a, b, h4, h2, h3⟩
  refine ⟨?_, k2, k3⟩
  rcases k1 with k1 | ⟨k1, k4⟩
  · exact Or.inl (by omega)
  · exact Or.inl (by omega)
def ptI (n : Nat) (h : Nat → m3) (z : Nat → Nat) (mo : Nat → Nat → m3) (co : Nat → Nat → fF) (s : Nat) (lf : Nat → m3) (l k : Nat) (PT : Nat → Nat → fF) : Prop := ∀ a b, prD l k a b → b < s → ∀ j, j < s → PT (16 * a + b) j = nu n h z mo co (pl3 (lf j)) (ad3 (xlT a) (lf b))
theorem ptI_up {n : Nat} {h : Nat → m3} {z : Nat → Nat} {mo : Nat → Nat → m3} {co : Nat → Nat → fF} {s : Nat} {lf : Nat → m3} {l k : Nat} {PT : Nat → Nat → fF} (H : ptI n h z mo co s lf l k PT) (hs : s ≤ 16) (hk : k < s) {v : Nat → fF} (hv : ∀ j, j < s → v j = nu n h z mo co (pl3 (lf j)) (ad3 (xlT l) (lf k))) : ptI n h z mo co s lf l (k + 1) (va_up PT (16 * l + k) v) := by
  intro a b h1 h2 j hj
  by_cases e : 16 * a + b = 16 * l + k
  · have e1 : a = l := by omega
    have e2 : b = k := by omega
    rw [e1, e2, mp_us]; exact hv j hj
  · rw [mp_un e]
    refine H a b ?_ h2 j hj
    rcases h1 with h1 | ⟨h1, h5⟩
    · exact Or.inl h1
    · exact Or.inr ⟨h1, by omega⟩
theorem ptI_next {n : Nat} {h : Nat → m3} {z : Nat → Nat} {mo : Nat → Nat → m3} {co : Nat → Nat → fF} {s : Nat} {lf : Nat → m3} {l : Nat} {PT : Nat → Nat → fF} (H : ptI n h z mo co s lf l s PT) : ptI n h z mo co s lf (l + 1) 0 PT := by
  intro a b h1 h2 j hj
  refine H a b ?_ h2 j hj
  rcases h1 with h1 | ⟨h1, h5⟩
  · by_cases q : a = l
    · exact Or.inr ⟨q, h2⟩
    · exact Or.inl (by omega)
  · exact absurd h5 (Nat.not_lt_zero b)
theorem kT_inj {u v : m3} {M : Nat} (hM : M ≤ 27) (hu : u.1 + u.2.1 + u.2.2 ≤ M) (hv : v.1 + v.2.1 + v.2.2 ≤ M) : kT u = kT v ↔ u = v := by
  unfold kT
  rw [kN_inj (by omega) (by omega) (by omega) (by omega) (by omega) (by omega)]
  exact ⟨fun q => m3_ext q.1 q.2.1 q.2.2, fun q => by rw [q]; exact ⟨rfl, rfl, rfl⟩⟩

theorem d_Q_findProducts_0 : decode b_Q_findProducts 0 = .ok (.iconst 0, 1) := by decide +kernel
theorem d_Q_findProducts_1 : decode b_Q_findProducts 1 = .ok (.istore_n 3, 1) := by decide +kernel
theorem d_Q_findProducts_2 : decode b_Q_findProducts 2 = .ok (.iload_n 3, 1) := by decide +kernel
theorem d_Q_findProducts_3 : decode b_Q_findProducts 3 = .ok (.aload_n 0, 1) := by decide +kernel
theorem d_Q_findProducts_4 : decode b_Q_findProducts 4 = .ok (.getfield 50, 3) := by decide +kernel
theorem d_Q_findProducts_7 : decode b_Q_findProducts 7 = .ok (.if_icmp .ge 71, 3) := by decide +kernel
theorem d_Q_findProducts_10 : decode b_Q_findProducts 10 = .ok (.iconst 0, 1) := by decide +kernel
theorem d_Q_findProducts_11 : decode b_Q_findProducts 11 = .ok (.istore 4, 2) := by decide +kernel
theorem d_Q_findProducts_13 : decode b_Q_findProducts 13 = .ok (.iload 4, 2) := by decide +kernel
theorem d_Q_findProducts_15 : decode b_Q_findProducts 15 = .ok (.aload_n 0, 1) := by decide +kernel
theorem d_Q_findProducts_16 : decode b_Q_findProducts 16 = .ok (.getfield 54, 3) := by decide +kernel
theorem d_Q_findProducts_19 : decode b_Q_findProducts 19 = .ok (.if_icmp .ge 53, 3) := by decide +kernel
theorem d_Q_findProducts_22 : decode b_Q_findProducts 22 = .ok (.aload_n 0, 1) := by decide +kernel
theorem d_Q_findProducts_23 : decode b_Q_findProducts 23 = .ok (.getfield 9, 3) := by decide +kernel
theorem d_Q_findProducts_26 : decode b_Q_findProducts 26 = .ok (.iload 4, 2) := by decide +kernel
theorem d_Q_findProducts_28 : decode b_Q_findProducts 28 = .ok (.iaload, 1) := by decide +kernel
theorem d_Q_findProducts_29 : decode b_Q_findProducts 29 = .ok (.getstatic 75, 3) := by decide +kernel
theorem d_Q_findProducts_32 : decode b_Q_findProducts 32 = .ok (.iload_n 3, 1) := by decide +kernel
theorem d_Q_findProducts_33 : decode b_Q_findProducts 33 = .ok (.iaload, 1) := by decide +kernel
theorem d_Q_findProducts_34 : decode b_Q_findProducts 34 = .ok (.iadd, 1) := by decide +kernel
theorem d_Q_findProducts_35 : decode b_Q_findProducts 35 = .ok (.istore 5, 2) := by decide +kernel
theorem d_Q_findProducts_37 : decode b_Q_findProducts 37 = .ok (.aload_n 2, 1) := by decide +kernel
theorem d_Q_findProducts_38 : decode b_Q_findProducts 38 = .ok (.aload_n 1, 1) := by decide +kernel
theorem d_Q_findProducts_39 : decode b_Q_findProducts 39 = .ok (.iload 5, 2) := by decide +kernel
theorem d_Q_findProducts_41 : decode b_Q_findProducts 41 = .ok (.aload_n 0, 1) := by decide +kernel
theorem d_Q_findProducts_42 : decode b_Q_findProducts 42 = .ok (.aload_n 0, 1) := by decide +kernel
theorem d_Q_findProducts_43 : decode b_Q_findProducts 43 = .ok (.getfield 17, 3) := by decide +kernel
theorem d_Q_findProducts_46 : decode b_Q_findProducts 46 = .ok (.bipush 16, 2) := by decide +kernel
theorem d_Q_findProducts_48 : decode b_Q_findProducts 48 = .ok (.iload_n 3, 1) := by decide +kernel
theorem d_Q_findProducts_49 : decode b_Q_findProducts 49 = .ok (.imul, 1) := by decide +kernel
theorem d_Q_findProducts_50 : decode b_Q_findProducts 50 = .ok (.iload 4, 2) := by decide +kernel
theorem d_Q_findProducts_52 : decode b_Q_findProducts 52 = .ok (.iadd, 1) := by decide +kernel
theorem d_Q_findProducts_53 : decode b_Q_findProducts 53 = .ok (.aaload, 1) := by decide +kernel
theorem d_Q_findProducts_54 : decode b_Q_findProducts 54 = .ok (.invokevirtual 78, 3) := by decide +kernel
theorem d_Q_findProducts_57 : decode b_Q_findProducts 57 = .ok (.aload_n 0, 1) := by decide +kernel
theorem d_Q_findProducts_58 : decode b_Q_findProducts 58 = .ok (.iload 5, 2) := by decide +kernel
theorem d_Q_findProducts_60 : decode b_Q_findProducts 60 = .ok (.iload 4, 2) := by decide +kernel
theorem d_Q_findProducts_62 : decode b_Q_findProducts 62 = .ok (.iload_n 3, 1) := by decide +kernel
theorem d_Q_findProducts_63 : decode b_Q_findProducts 63 = .ok (.invokevirtual 82, 3) := by decide +kernel
theorem d_Q_findProducts_66 : decode b_Q_findProducts 66 = .ok (.iinc 4 1, 3) := by decide +kernel
theorem d_Q_findProducts_69 : decode b_Q_findProducts 69 = .ok (.goto (-56), 3) := by decide +kernel
theorem d_Q_findProducts_72 : decode b_Q_findProducts 72 = .ok (.iinc 3 1, 3) := by decide +kernel
theorem d_Q_findProducts_75 : decode b_Q_findProducts 75 = .ok (.goto (-73), 3) := by decide +kernel
theorem d_Q_findProducts_78 : decode b_Q_findProducts 78 = .ok (.return_, 1) := by decide +kernel
set_option maxHeartbeats 4000000 in
set_option maxRecDepth 100000 in
theorem lp_Q_fp1 {p : Program} {l : Launch} {e : Env} {R : Room} {s : State} {m : MethodId} {args : Array Value} {below : List Frame} {meth : Method} {c : Code} {Q : State → Prop} {D : mp_G} {g : Nat → ClassId} {A : Nat → Prop} {cells slots : Nat} (hx : p.tables.exec = Jvm.exec) (hb : c.code = b_Q_findProducts) (hml : c.maxLocals = 6) (hg : ∀ w ∈ gw, w.before args s = true) (hown : s.vm.findClass R_Q = some m.cls) (hK : mp_K D classes (tys g) s) (hRf : 4 ≤ R.frames) (hRl : 102 ≤ R.locals) (hRc : cells ≤ R.cells) (hRs : slots ≤ R.slots) {B : mp_M} {qo ky pr lw ll d9 ra ka lo ma hd nl s9 n N M : Nat} {q6 q7 q8 q9 q10 q11 : Value} {kQ : Nat → Nat} {me mk mn mcap mz : Nat → Nat} {mkf mnf : Nat → Nat → Int32} {hf kp : Nat → Int32} {h : Nat → m3} {z : Nat → Nat} {mo : Nat → Nat → m3} {co : Nat → Nat → fF} {lf : Nat → m3} {l9 : Nat} (hB : lsB n h z mo co mcap mz mkf mnf hf) (hFL : FL kp N) (hN : N = tr3 (M + 1)) (hM : M ≤ 27) (hN8 : N ≤ 8000) (hs : s9 ≤ 16) (hnl : nl ≤ 3) (hkq : ∀ k, k < s9 → kQ k = kT (lf k) ∧ pl3 (lf k) < N ∧ ¬ fi h (lf k) n < n) (hxl : ∀ a, a < nl → ∀ k, k < s9 → pl3 (ad3 (xlT a) (lf k)) < N) (hl9 : l9 < nl) : ∀ (k : Nat) (i : Nat) (PT : Nat → Nat → fF) (lwf : Nat → Nat) (llf : Nat → Nat) (S : mp_M) (H : Heap) (locs : List Loc) (ls : Array Slot), i + k = s9 → (ptI n h z mo co s9 lf l9 i PT) → (lwI s9 lf l9 i lwf llf) → (∀ r, trn 16 (PT r)) → S qo = some (14, .inr (4, [.int (nI nl), .ref ky, .int (nI s9), .ref pr, .ref lw, .ref ll, q6, q7, q8, q9, q10, q11])) → S ky = some (15, .inl ((g 0), 16, .inl (fun j => nI (kQ j)))) → S pr = some (16, .inl ((g 1), 48, .inr (.inr (.inr (.inr (rfs (fun ii => pr + 1 + ii) 48)))))) → S lw = some (17, .inl ((g 0), 16, .inl (fun j => nI (lwf j)))) → S ll = some (18, .inl ((g 0), 16, .inl (fun j => nI (llf j)))) → S d9 = some (11, .inr (5, [.ref ra, .ref ka])) → S ra = some (12, .inl ((g 0), N, .inl (fun j => nI (zR j).val))) → S ka = some (13, .inl ((g 0), N, .inl kp)) → S lo = some (2, .inr (9, [.ref ma, .ref hd, .int (nI n)])) → S ma = some (4, .inl ((g 2), 12, .inr (.inr (.inr (.inr (rfs me 12)))))) → S hd = some (5, .inl ((g 0), 12, .inl hf)) → (yS g 300 12 me mk mn mcap mz mkf mnf S) → (rS g 400 48 16 (fun ii => pr + 1 + ii) (fun ii j => nI (PT ii j).val) S) → (∀ b t e9, B b = some (t, e9) → (t ≠ 12) → (t ≠ 17) → (t ≠ 18) → (t < 400 ∨ 448 ≤ t) → S b = some (t, e9)) → mp_I D classes A s.heap S H locs → lv_has ls 6 [(4, .int (nI i)), (3, .int (nI l9)), (2, .ref d9), (1, .ref lo), (0, .ref qo)] → (∀ (PT : Nat → Nat → fF) (lwf : Nat → Nat) (llf : Nat → Nat) (S : mp_M) (H : Heap) (locs : List Loc) (ls : Array Slot), (ptI n h z mo co s9 lf l9 s9 PT) → (lwI s9 lf l9 s9 lwf llf) → (∀ r, trn 16 (PT r)) → S qo = some (14, .inr (4, [.int (nI nl), .ref ky, .int (nI s9), .ref pr, .ref lw, .ref ll, q6, q7, q8, q9, q10, q11])) → S ky = some (15, .inl ((g 0), 16, .inl (fun j => nI (kQ j)))) → S pr = some (16, .inl ((g 1), 48, .inr (.inr (.inr (.inr (rfs (fun ii => pr + 1 + ii) 48)))))) → S lw = some (17, .inl ((g 0), 16, .inl (fun j => nI (lwf j)))) → S ll = some (18, .inl ((g 0), 16, .inl (fun j => nI (llf j)))) → S d9 = some (11, .inr (5, [.ref ra, .ref ka])) → S ra = some (12, .inl ((g 0), N, .inl (fun j => nI (zR j).val))) → S ka = some (13, .inl ((g 0), N, .inl kp)) → S lo = some (2, .inr (9, [.ref ma, .ref hd, .int (nI n)])) → S ma = some (4, .inl ((g 2), 12, .inr (.inr (.inr (.inr (rfs me 12)))))) → S hd = some (5, .inl ((g 0), 12, .inl hf)) → (yS g 300 12 me mk mn mcap mz mkf mnf S) → (rS g 400 48 16 (fun ii => pr + 1 + ii) (fun ii j => nI (PT ii j).val) S) → (∀ b t e9, B b = some (t, e9) → (t ≠ 12) → (t ≠ 17) → (t ≠ 18) → (t < 400 ∨ 448 ≤ t) → S b = some (t, e9)) → mp_I D classes A s.heap S H locs → lv_has ls 6 [(4, .int (nI s9)), (3, .int (nI l9)), (2, .ref d9), (1, .ref lo), (0, .ref qo)] → W p l e R s m args below meth c H locs cells slots Q (F0 m 72 ls [])) → W p l e R s m args below meth c H locs cells slots Q (F0 m 13 ls []) := by
  intro k
  induction k with
  | zero =>
    intro i PT lwf llf S H locs ls hi hpt hlw tP h_qo h_ky h_pr h_lw h_ll h_d9 h_ra h_ka h_lo h_ma h_hd hY hP hfr hI hl kx
    refine lv_iload hx hb d_Q_findProducts_13 (lv_at hl 0 rfl) ?_
    refine lv_aload_n hx hb d_Q_findProducts_15 rfl (lv_at hl 4 rfl) ?_
    refine mp_get (C := R_Q) (T := F_Q) (N := 12) (v := .int (nI s9)) hx hb hg i_Q hown hK.va hI h_qo rfl 2 (by decide) (hg _ q_221) (fun _ h9 => h9) rfl d_Q_findProducts_16 ?_
    refine lv_icmp_ge (tgt := 72) hx hb d_Q_findProducts_19 (by decide) (fun _ => ?_) (fun h9 => absurd ((nI_leI (by omega) (by omega)).mpr (by omega)) h9)
    obtain rfl : i = s9 := by omega
    exact kx PT lwf llf S H locs ls hpt hlw tP h_qo h_ky h_pr h_lw h_ll h_d9 h_ra h_ka h_lo h_ma h_hd hY hP hfr hI (lv_sub hl [0, 1, 2, 3, 4] rfl)
  | succ k ih =>
    intro i PT lwf llf S H locs ls hi hpt hlw tP h_qo h_ky h_pr h_lw h_ll h_d9 h_ra h_ka h_lo h_ma h_hd hY hP hfr hI hl kx
    obtain ⟨tk, hZk, hTk⟩ := lk_T hK
    obtain ⟨kq1, kq2, kq3⟩ := hkq i (by omega)
    have hul := hxl l9 hl9 i (by omega)
    have hdu := m3_deg hul hN
    have hdk := m3_deg kq2 hN
    refine lv_iload hx hb d_Q_findProducts_13 (lv_at hl 0 rfl) ?_
    refine lv_aload_n hx hb d_Q_findProducts_15 rfl (lv_at hl 4 rfl) ?_
    refine mp_get (C := R_Q) (T := F_Q) (N := 12) (v := .int (nI s9)) hx hb hg i_Q hown hK.va hI h_qo rfl 2 (by decide) (hg _ q_221) (fun _ h9 => h9) rfl d_Q_findProducts_16 ?_
    refine lv_icmp_ge (tgt := 72) hx hb d_Q_findProducts_19 (by decide) (fun h9 => absurd h9 (by rw [nI_leI (by omega) (by omega)]; omega)) (fun _ => ?_)
    refine lv_aload_n hx hb d_Q_findProducts_22 rfl (lv_at hl 4 rfl) ?_
    refine mp_get (C := R_Q) (T := F_Q) (N := 12) (v := .ref ky) hx hb hg i_Q hown hK.va hI h_qo rfl 1 (by decide) (hg _ q_218) (fun _ h9 => h9) rfl d_Q_findProducts_23 ?_
    refine lv_iload hx hb d_Q_findProducts_26 (lv_at hl 0 rfl) ?_
    refine mp_iald hx hb hK.va hI 0 h_ky rfl (vp_in_nI (show i < 16 by omega) (by omega)) d_Q_findProducts_28 ?_
    refine lv_topi (fun v1 ev1 => ?_)
    obtain rfl : v1 = nI (kT (lf i)) := ev1.trans (by rw [nI_clamp (by omega), kq1])
    refine mp_gets hx hb hK hI hZk hown (hg _ q_376) d_Q_findProducts_29 ?_
    refine lv_iload_n hx hb d_Q_findProducts_32 rfl (lv_at hl 1 rfl) ?_
    refine mp_ti hx hb hK hI hTk (vp_in_nI (show l9 < 3 by omega) (by decide)) rfl d_Q_findProducts_33 ?_
    refine lv_topi (fun v2 ev2 => ?_)
    obtain rfl : v2 = nI (kT (xlT l9)) := ev2.trans (by rw [nI_clamp (by omega), lk_kT])
    refine lv_iadd hx hb d_Q_findProducts_34 ?_
    refine lv_topi (fun v3 ev3 => ?_)
    obtain rfl : v3 = nI ((kT (lf i)) + (kT (xlT l9))) := ev3.trans (nI_add _ _)
    refine lv_topi (fun v4 ev4 => ?_)
    obtain rfl : v4 = nI (kN (ad3 (xlT l9) (lf i)).1 (ad3 (xlT l9) (lf i)).2.1 (ad3 (xlT l9) (lf i)).2.2) := ev4.trans (by rw [Nat.add_comm, kT_ad]; rfl)
    have h_rw : S (pr + 1 + (16 * l9 + i)) = some ((400 + (16 * l9 + i)), .inl ((g 0), 16, .inl (fun j => nI ((PT (16 * l9 + i)) j).val))) := hP (16 * l9 + i) (by omega)
    refine lv_istore (lv' := [(5, .int (nI (kN (ad3 (xlT l9) (lf i)).1 (ad3 (xlT l9) (lf i)).2.1 (ad3 (xlT l9) (lf i)).2.2))), (4, .int (nI i)), (3, .int (nI l9)), (2, .ref d9), (1, .ref lo), (0, .ref qo)]) hx hb d_Q_findProducts_35 hl (by decide) rfl (fun ls hl => ?_)
    refine lv_aload_n hx hb d_Q_findProducts_37 rfl (lv_at hl 3 rfl) ?_
    refine lv_aload_n hx hb d_Q_findProducts_38 rfl (lv_at hl 4 rfl) ?_
    refine lv_iload hx hb d_Q_findProducts_39 (lv_at hl 0 rfl) ?_
    refine lv_aload_n hx hb d_Q_findProducts_41 rfl (lv_at hl 5 rfl) ?_
    refine lv_aload_n hx hb d_Q_findProducts_42 rfl (lv_at hl 5 rfl) ?_
    refine mp_get (C := R_Q) (T := F_Q) (N := 12) (v := .ref pr) hx hb hg i_Q hown hK.va hI h_qo rfl 3 (by decide) (hg _ q_224) (fun _ h9 => h9) rfl d_Q_findProducts_43 ?_
    refine lv_bipush (v := nI 16) hx hb d_Q_findProducts_46 (by decide) ?_
    refine lv_iload_n hx hb d_Q_findProducts_48 rfl (lv_at hl 2 rfl) ?_
    refine lv_imul hx hb d_Q_findProducts_49 ?_
    refine lv_topi (fun v5 ev5 => ?_)
    obtain rfl : v5 = nI (16 * l9) := ev5.trans (pk_mul _ _)
    refine lv_iload hx hb d_Q_findProducts_50 (lv_at hl 1 rfl) ?_
    refine lv_iadd hx hb d_Q_findProducts_52 ?_
    refine lv_topi (fun v6 ev6 => ?_)
    obtain rfl : v6 = nI ((16 * l9) + i) := ev6.trans (nI_add _ _)
    refine mp_ald2 (b := pr + 1 + ((16 * l9) + i)) hx hb hK.va hI 1 h_pr rfl (vp_in_nI (show (16 * l9) + i < 48 by omega) (by omega)) (by rw [nI_clamp (by omega)]; exact rfs_at (by omega)) d_Q_findProducts_53 ?_
    refine mp_callv hI (va_runV (As := [.ref lo, .int (nI (kN (ad3 (xlT l9) (lf i)).1 (ad3 (xlT l9) (lf i)).2.1 (ad3 (xlT l9) (lf i)).2.2)), .ref qo, .ref (pr + 1 + ((16 * l9) + i))]) (rest := []) ⟨hx, hb, hml, hown, hg⟩ (c_D_writeReduced l D g S _ d9 ra ka lo ma hd n N M me mk mn mcap mz mkf mnf hf kp h z mo co qo ky (pr + 1 + (16 * l9 + i)) s9 (400 + (16 * l9 + i)) (ad3 (xlT l9) (lf i)) (.int (nI nl)) (.ref pr) (.ref lw) (.ref ll) q6 q7 q8 q9 q10 q11 (fun j => nI (kQ j)) lf (PT (16 * l9 + i)) h_d9 h_ra h_ka h_lo h_ma h_hd h_qo h_ky h_rw hY hB hFL hN hM hN8 hul hs (by omega) (fun k hk => by obtain ⟨y1, y2, y3⟩ := hkq k hk; exact ⟨congrArg nI y1, y2, y3⟩)) ⟨(callB_of 4 hg (wd_goodG q_381) rfl rfl rfl (hg _ q_20) (hg _ q_378) (by decide +kernel) ⟨Nat.le_trans (Nat.le_of_ble_eq_true rfl) hRf, Nat.le_trans (Nat.le_of_ble_eq_true rfl) hRl⟩), hg _ q_379, hg _ q_380⟩ (mp_preV (C := R_D) (T := F_D) hI hK h_d9 rfl [.ref lo, .int (nI (kN (ad3 (xlT l9) (lf i)).1 (ad3 (xlT l9) (lf i)).2.1 (ad3 (xlT l9) (lf i)).2.2)), .ref qo, .ref (pr + 1 + ((16 * l9) + i))]) rfl rfl hl.1 rfl (lv_room (Nat.le_of_ble_eq_true rfl)) d_Q_findProducts_54 ⟨by omega, by omega⟩) (fun S7 H8 locs p_9 hI => ?_)
    obtain ⟨q_ra, q_rw, fq⟩ := p_9
    have hP0 := hP
    have h_qo : S7 qo = some (14, .inr (4, [.int (nI nl), .ref ky, .int (nI s9), .ref pr, .ref lw, .ref ll, q6, q7, q8, q9, q10, q11])) := fq qo _ _ h_qo (by omega) (by omega)
    have h_ky : S7 ky = some (15, .inl ((g 0), 16, .inl (fun j => nI (kQ j)))) := fq ky _ _ h_ky (by omega) (by omega)
    have h_pr : S7 pr = some (16, .inl ((g 1), 48, .inr (.inr (.inr (.inr (rfs (fun ii => pr + 1 + ii) 48)))))) := fq pr _ _ h_pr (by omega) (by omega)
    have h_lw : S7 lw = some (17, .inl ((g 0), 16, .inl (fun j => nI (lwf j)))) := fq lw _ _ h_lw (by omega) (by omega)
    have h_ll : S7 ll = some (18, .inl ((g 0), 16, .inl (fun j => nI (llf j)))) := fq ll _ _ h_ll (by omega) (by omega)
    have h_d9 : S7 d9 = some (11, .inr (5, [.ref ra, .ref ka])) := fq d9 _ _ h_d9 (by omega) (by omega)
    have h_ka : S7 ka = some (13, .inl ((g 0), N, .inl kp)) := fq ka _ _ h_ka (by omega) (by omega)
    have h_lo : S7 lo = some (2, .inr (9, [.ref ma, .ref hd, .int (nI n)])) := fq lo _ _ h_lo (by omega) (by omega)
    have h_ma : S7 ma = some (4, .inl ((g 2), 12, .inr (.inr (.inr (.inr (rfs me 12)))))) := fq ma _ _ h_ma (by omega) (by omega)
    have h_hd : S7 hd = some (5, .inl ((g 0), 12, .inl hf)) := fq hd _ _ h_hd (by omega) (by omega)
    have hfr : ∀ b t e9, B b = some (t, e9) → (t ≠ 12) → (t ≠ 17) → (t ≠ 18) → (t < 400 ∨ 448 ≤ t) → S7 b = some (t, e9) := fun b t e9 h9 k0 k1 k2 k3 => by have h8 := hfr b t e9 h9 k0 k1 k2 k3; exact fq b _ _ h8 (by omega) (by omega)
    have hY := yS_kept hY (S1 := S7) (fun b t9 e9 hb9 h1 h2 => by have h8 : S7 b = some (t9, e9) := fq b _ _ hb9 (by omega) (by omega); rw [h8, hb9])
    have h_ra := q_ra
    have hP : rS g 400 48 16 (fun ii => pr + 1 + ii) (fun ii j => nI ((va_up PT (16 * l9 + i) (mgF s9 (fun k => nu n h z mo co (pl3 (lf k)) (ad3 (xlT l9) (lf i))) (PT (16 * l9 + i)))) ii j).val) S7 := rS_up hP0 q_rw (fun j hj hne e9 h9 => fq _ _ _ h9 (by omega) (by omega))
    refine lv_aload_n hx hb d_Q_findProducts_57 rfl (lv_at hl 5 rfl) ?_
    refine lv_iload hx hb d_Q_findProducts_58 (lv_at hl 0 rfl) ?_
    refine lv_iload hx hb d_Q_findProducts_60 (lv_at hl 1 rfl) ?_
    refine lv_iload_n hx hb d_Q_findProducts_62 rfl (lv_at hl 2 rfl) ?_
    refine mp_callv hI (va_runV (As := [.int (nI (kN (ad3 (xlT l9) (lf i)).1 (ad3 (xlT l9) (lf i)).2.1 (ad3 (xlT l9) (lf i)).2.2)), .int (nI i), .int (nI l9)]) (rest := []) ⟨hx, hb, hml, hown, hg⟩ (c_Q_noteLower l D g S7 _ qo ky lw ll s9 (kN (ad3 (xlT l9) (lf i)).1 (ad3 (xlT l9) (lf i)).2.1 (ad3 (xlT l9) (lf i)).2.2) i l9 (.int (nI nl)) (.ref pr) q6 q7 q8 q9 q10 q11 kQ lwf llf h_qo h_ky h_lw h_ll hs (fun j hj => by obtain ⟨y1, y2, _⟩ := hkq j hj; have y4 := m3_deg y2 hN; rw [y1]; unfold kT kN; omega) (by unfold kN; omega)) ⟨(callB_of 3 hg (wd_goodG q_385) rfl rfl rfl (hg _ q_21) (hg _ q_382) (by decide +kernel) ⟨Nat.le_trans (Nat.le_of_ble_eq_true rfl) hRf, Nat.le_trans (Nat.le_of_ble_eq_true rfl) hRl⟩), hg _ q_384, hg _ qs_5⟩ (mp_preV (C := R_Q) (T := F_Q) hI hK h_qo rfl [.int (nI (kN (ad3 (xlT l9) (lf i)).1 (ad3 (xlT l9) (lf i)).2.1 (ad3 (xlT l9) (lf i)).2.2)), .int (nI i), .int (nI l9)]) rfl rfl hl.1 rfl (lv_room (Nat.le_of_ble_eq_true rfl)) d_Q_findProducts_63 ⟨by omega, by omega⟩) (fun S11 H12 locs p_13 hI => ?_)
    obtain ⟨q_lw, q_ll, fq⟩ := p_13
    have h_qo : S11 qo = some (14, .inr (4, [.int (nI nl), .ref ky, .int (nI s9), .ref pr, .ref lw, .ref ll, q6, q7, q8, q9, q10, q11])) := fq qo _ _ h_qo (by omega) (by omega)
    have h_ky : S11 ky = some (15, .inl ((g 0), 16, .inl (fun j => nI (kQ j)))) := fq ky _ _ h_ky (by omega) (by omega)
    have h_pr : S11 pr = some (16, .inl ((g 1), 48, .inr (.inr (.inr (.inr (rfs (fun ii => pr + 1 + ii) 48)))))) := fq pr _ _ h_pr (by omega) (by omega)
    have h_d9 : S11 d9 = some (11, .inr (5, [.ref ra, .ref ka])) := fq d9 _ _ h_d9 (by omega) (by omega)
    have h_ra : S11 ra = some (12, .inl ((g 0), N, .inl (fun j => nI (zR j).val))) := fq ra _ _ h_ra (by omega) (by omega)
    have h_ka : S11 ka = some (13, .inl ((g 0), N, .inl kp)) := fq ka _ _ h_ka (by omega) (by omega)
    have h_lo : S11 lo = some (2, .inr (9, [.ref ma, .ref hd, .int (nI n)])) := fq lo _ _ h_lo (by omega) (by omega)
    have h_ma : S11 ma = some (4, .inl ((g 2), 12, .inr (.inr (.inr (.inr (rfs me 12)))))) := fq ma _ _ h_ma (by omega) (by omega)
    have h_hd : S11 hd = some (5, .inl ((g 0), 12, .inl hf)) := fq hd _ _ h_hd (by omega) (by omega)
    have hfr : ∀ b t e9, B b = some (t, e9) → (t ≠ 12) → (t ≠ 17) → (t ≠ 18) → (t < 400 ∨ 448 ≤ t) → S11 b = some (t, e9) := fun b t e9 h9 k0 k1 k2 k3 => by have h8 := hfr b t e9 h9 k0 k1 k2 k3; exact fq b _ _ h8 (by omega) (by omega)
    have hY := yS_kept hY (S1 := S11) (fun b t9 e9 hb9 h1 h2 => by have h8 : S11 b = some (t9, e9) := fq b _ _ hb9 (by omega) (by omega); rw [h8, hb9])
    have hP := rS_kept hP (S1 := S11) (fun b t9 e9 hb9 h1 h2 => by have h8 : S11 b = some (t9, e9) := fq b _ _ hb9 (by omega) (by omega); rw [h8, hb9])
    have h_lw := q_lw
    have h_ll := q_ll
    refine lv_iinc (v := nI (i + 1)) (lv' := [(4, .int (nI (i + 1))), (5, .int (nI (kN (ad3 (xlT l9) (lf i)).1 (ad3 (xlT l9) (lf i)).2.1 (ad3 (xlT l9) (lf i)).2.2))), (3, .int (nI l9)), (2, .ref d9), (1, .ref lo), (0, .ref qo)]) hx hb d_Q_findProducts_66 hl (k := 1) rfl (nI_1 _) (by decide) rfl (fun ls hl => ?_)
    refine lv_goto (tgt := 13) hx hb d_Q_findProducts_69 (by decide) ?_
    exact ih (i + 1) (va_up PT (16 * l9 + i) (mgF s9 (fun k => nu n h z mo co (pl3 (lf k)) (ad3 (xlT l9) (lf i))) (PT (16 * l9 + i)))) (lwN s9 kQ (kN (ad3 (xlT l9) (lf i)).1 (ad3 (xlT l9) (lf i)).2.1 (ad3 (xlT l9) (lf i)).2.2) i s9 lwf) (lwN s9 kQ (kN (ad3 (xlT l9) (lf i)).1 (ad3 (xlT l9) (lf i)).2.1 (ad3 (xlT l9) (lf i)).2.2) l9 s9 llf) S11 H12 locs ls (by omega) (ptI_up hpt hs (by omega) (fun j hj => by rw [mgF_lt hj])) (lwI_up hlw (by omega) (fun o9 ho => by obtain ⟨y1, y2, _⟩ := hkq o9 ho; rw [y1]; exact kT_inj hM (m3_deg y2 hN) hdu)) (va_upt tP (mg_t16 hs (tP _))) h_qo h_ky h_pr h_lw h_ll h_d9 h_ra h_ka h_lo h_ma h_hd hY hP hfr hI (lv_sub hl [0, 2, 3, 4, 5] rfl) kx
set_option maxHeartbeats 4000000 in
set_option maxRecDepth 100000 in
theorem lp_Q_fp2 {p : Program} {l : Launch} {e : Env} {R : Room} {s : State} {m : MethodId} {args : Array Value} {below : List Frame} {meth : Method} {c : Code} {Q : State → Prop} {D : mp_G} {g : Nat → ClassId} {A : Nat → Prop} {cells slots : Nat} (hx : p.tables.exec = Jvm.exec) (hb : c.code = b_Q_findProducts) (hml : c.maxLocals = 6) (hg : ∀ w ∈ gw, w.before args s = true) (hown : s.vm.findClass R_Q = some m.cls) (hK : mp_K D classes (tys g) s) (hRf : 4 ≤ R.frames) (hRl : 102 ≤ R.locals) (hRc : cells ≤ R.cells) (hRs : slots ≤ R.slots) {B : mp_M} {qo ky pr lw ll d9 ra ka lo ma hd nl s9 n N M : Nat} {q6 q7 q8 q9 q10 q11 : Value} {kQ : Nat → Nat} {me mk mn mcap mz : Nat → Nat} {mkf mnf : Nat → Nat → Int32} {hf kp : Nat → Int32} {h : Nat → m3} {z : Nat → Nat} {mo : Nat → Nat → m3} {co : Nat → Nat → fF} {lf : Nat → m3} (hB : lsB n h z mo co mcap mz mkf mnf hf) (hFL : FL kp N) (hN : N = tr3 (M + 1)) (hM : M ≤ 27) (hN8 : N ≤ 8000) (hs : s9 ≤ 16) (hnl : nl ≤ 3) (hkq : ∀ k, k < s9 → kQ k = kT (lf k) ∧ pl3 (lf k) < N ∧ ¬ fi h (lf k) n < n) (hxl : ∀ a, a < nl → ∀ k, k < s9 → pl3 (ad3 (xlT a) (lf k)) < N) : ∀ (k : Nat) (i : Nat) (PT : Nat → Nat → fF) (lwf : Nat → Nat) (llf : Nat → Nat) (S : mp_M) (H : Heap) (locs : List Loc) (ls : Array Slot), i + k = nl → (ptI n h z mo co s9 lf i 0 PT) → (lwI s9 lf i 0 lwf llf) → (∀ r, trn 16 (PT r)) → S qo = some (14, .inr (4, [.int (nI nl), .ref ky, .int (nI s9), .ref pr, .ref lw, .ref ll, q6, q7, q8, q9, q10, q11])) → S ky = some (15, .inl ((g 0), 16, .inl (fun j => nI (kQ j)))) → S pr = some (16, .inl ((g 1), 48, .inr (.inr (.inr (.inr (rfs (fun ii => pr + 1 + ii) 48)))))) → S lw = some (17, .inl ((g 0), 16, .inl (fun j => nI (lwf j)))) → S ll = some (18, .inl ((g 0), 16, .inl (fun j => nI (llf j)))) → S d9 = some (11, .inr (5, [.ref ra, .ref ka])) → S ra = some (12, .inl ((g 0), N, .inl (fun j => nI (zR j).val))) → S ka = some (13, .inl ((g 0), N, .inl kp)) → S lo = some (2, .inr (9, [.ref ma, .ref hd, .int (nI n)])) → S ma = some (4, .inl ((g 2), 12, .inr (.inr (.inr (.inr (rfs me 12)))))) → S hd = some (5, .inl ((g 0), 12, .inl hf)) → (yS g 300 12 me mk mn mcap mz mkf mnf S) → (rS g 400 48 16 (fun ii => pr + 1 + ii) (fun ii j => nI (PT ii j).val) S) → (∀ b t e9, B b = some (t, e9) → (t ≠ 12) → (t ≠ 17) → (t ≠ 18) → (t < 400 ∨ 448 ≤ t) → S b = some (t, e9)) → mp_I D classes A s.heap S H locs → lv_has ls 6 [(3, .int (nI i)), (2, .ref d9), (1, .ref lo), (0, .ref qo)] → (∀ (PT : Nat → Nat → fF) (lwf : Nat → Nat) (llf : Nat → Nat) (S : mp_M) (H : Heap) (locs : List Loc) (ls : Array Slot), (ptI n h z mo co s9 lf nl 0 PT) → (lwI s9 lf nl 0 lwf llf) → (∀ r, trn 16 (PT r)) → S qo = some (14, .inr (4, [.int (nI nl), .ref ky, .int (nI s9), .ref pr, .ref lw, .ref ll, q6, q7, q8, q9, q10, q11])) → S ky = some (15, .inl ((g 0), 16, .inl (fun j => nI (kQ j)))) → S pr = some (16, .inl ((g 1), 48, .inr (.inr (.inr (.inr (rfs (fun ii => pr + 1 + ii) 48)))))) → S lw = some (17, .inl ((g 0), 16, .inl (fun j => nI (lwf j)))) → S ll = some (18, .inl ((g 0), 16, .inl (fun j => nI (llf j)))) → S d9 = some (11, .inr (5, [.ref ra, .ref ka])) → S ra = some (12, .inl ((g 0), N, .inl (fun j => nI (zR j).val))) → S ka = some (13, .inl ((g 0), N, .inl kp)) → S lo = some (2, .inr (9, [.ref ma, .ref hd, .int (nI n)])) → S ma = some (4, .inl ((g 2), 12, .inr (.inr (.inr (.inr (rfs me 12)))))) → S hd = some (5, .inl ((g 0), 12, .inl hf)) → (yS g 300 12 me mk mn mcap mz mkf mnf S) → (rS g 400 48 16 (fun ii => pr + 1 + ii) (fun ii j => nI (PT ii j).val) S) → (∀ b t e9, B b = some (t, e9) → (t ≠ 12) → (t ≠ 17) → (t ≠ 18) → (t < 400 ∨ 448 ≤ t) → S b = some (t, e9)) → mp_I D classes A s.heap S H locs → lv_has ls 6 [(3, .int (nI nl)), (2, .ref d9), (1, .ref lo), (0, .ref qo)] → W p l e R s m args below meth c H locs cells slots Q (F0 m 78 ls [])) → W p l e R s m args below meth c H locs cells slots Q (F0 m 2 ls []) := by
  intro k
  induction k with
  | zero =>
    intro i PT lwf llf S H locs ls hi hpt hlw tP h_qo h_ky h_pr h_lw h_ll h_d9 h_ra h_ka h_lo h_ma h_hd hY hP hfr hI hl kx
    refine lv_iload_n hx hb d_Q_findProducts_2 rfl (lv_at hl 0 rfl) ?_
    refine lv_aload_n hx hb d_Q_findProducts_3 rfl (lv_at hl 3 rfl) ?_
    refine mp_get (C := R_Q) (T := F_Q) (N := 12) (v := .int (nI nl)) hx hb hg i_Q hown hK.va hI h_qo rfl 0 (by decide) (hg _ q_217) (fun _ h9 => h9) rfl d_Q_findProducts_4 ?_
    refine lv_icmp_ge (tgt := 78) hx hb d_Q_findProducts_7 (by decide) (fun _ => ?_) (fun h9 => absurd ((nI_leI (by omega) (by omega)).mpr (by omega)) h9)
    obtain rfl : i = nl := by omega
    exact kx PT lwf llf S H locs ls hpt hlw tP h_qo h_ky h_pr h_lw h_ll h_d9 h_ra h_ka h_lo h_ma h_hd hY hP hfr hI (lv_sub hl [0, 1, 2, 3] rfl)
  | succ k ih =>
    intro i PT lwf llf S H locs ls hi hpt hlw tP h_qo h_ky h_pr h_lw h_ll h_d9 h_ra h_ka h_lo h_ma h_hd hY hP hfr hI hl kx
    refine lv_iload_n hx hb d_Q_findProducts_2 rfl (lv_at hl 0 rfl) ?_
    refine lv_aload_n hx hb d_Q_findProducts_3 rfl (lv_at hl 3 rfl) ?_
    refine mp_get (C := R_Q) (T := F_Q) (N := 12) (v := .int (nI nl)) hx hb hg i_Q hown hK.va hI h_qo rfl 0 (by decide) (hg _ q_217) (fun _ h9 => h9) rfl d_Q_findProducts_4 ?_
    refine lv_icmp_ge (tgt := 78) hx hb d_Q_findProducts_7 (by decide) (fun h9 => absurd h9 (by rw [nI_leI (by omega) (by omega)]; omega)) (fun _ => ?_)
    refine lv_iconst (v := nI 0) hx hb d_Q_findProducts_10 (by decide) ?_
    refine lv_istore (lv' := [(4, .int (nI 0)), (3, .int (nI i)), (2, .ref d9), (1, .ref lo), (0, .ref qo)]) hx hb d_Q_findProducts_11 hl (by decide) rfl (fun ls hl => ?_)
    refine lp_Q_fp1 (B := B) (qo := qo) (ky := ky) (pr := pr) (lw := lw) (ll := ll) (d9 := d9) (ra := ra) (ka := ka) (lo := lo) (ma := ma) (hd := hd) (nl := nl) (s9 := s9) (n := n) (N := N) (M := M) (q6 := q6) (q7 := q7) (q8 := q8) (q9 := q9) (q10 := q10) (q11 := q11) (kQ := kQ) (me := me) (mk := mk) (mn := mn) (mcap := mcap) (mz := mz) (mkf := mkf) (mnf := mnf) (hf := hf) (kp := kp) (h := h) (z := z) (mo := mo) (co := co) (lf := lf) (l9 := i) hx hb hml hg hown hK (Nat.le_trans (Nat.le_of_ble_eq_true rfl) hRf) (Nat.le_trans (Nat.le_of_ble_eq_true rfl) hRl) (by omega) (by omega) hB hFL hN hM hN8 hs hnl hkq hxl (by omega) s9 0 PT lwf llf S H _ ls (by omega) hpt hlw tP h_qo h_ky h_pr h_lw h_ll h_d9 h_ra h_ka h_lo h_ma h_hd hY hP hfr hI (lv_sub hl [0, 1, 2, 3, 4] rfl) (fun PT2 lw2 ll2 S1 H2 locs ls hpt2 hlw2 tP2 j_qo j_ky j_pr j_lw j_ll j_d9 j_ra j_ka j_lo j_ma j_hd hY hP hfr hI hl => ?_)
    refine lv_iinc (v := nI (i + 1)) (lv' := [(3, .int (nI (i + 1))), (4, .int (nI s9)), (2, .ref d9), (1, .ref lo), (0, .ref qo)]) hx hb d_Q_findProducts_72 hl (k := 1) rfl (nI_1 _) (by decide) rfl (fun ls hl => ?_)
    refine lv_goto (tgt := 2) hx hb d_Q_findProducts_75 (by decide) ?_
    exact ih (i + 1) PT2 lw2 ll2 S1 H2 locs ls (by omega) (ptI_next hpt2) (lwI_next hlw2) tP2 j_qo j_ky j_pr j_lw j_ll j_d9 j_ra j_ka j_lo j_ma j_hd hY hP hfr hI (lv_sub hl [0, 2, 3, 4] rfl) kx
set_option maxHeartbeats 4000000 in
set_option maxRecDepth 100000 in
/-- the tables of the letters -/
theorem c_Q_findProducts (l : Launch) (D : mp_G) (g : Nat → ClassId) (S : mp_M) (sz : Nat) (qo ky pr lw ll d9 ra ka lo ma hd nl s9 n N M : Nat) (q6 q7 q8 q9 q10 q11 : Value) (kQ : Nat → Nat) (me mk mn mcap mz : Nat → Nat) (mkf mnf : Nat → Nat → Int32) (hf kp : Nat → Int32) (h : Nat → m3) (z : Nat → Nat) (mo : Nat → Nat → m3) (co : Nat → Nat → fF) (lf : Nat → m3) (PT : Nat → Nat → fF) (lwf llf : Nat → Nat) (h_qo : S qo = some (14, .inr (4, [.int (nI nl), .ref ky, .int (nI s9), .ref pr, .ref lw, .ref ll, q6, q7, q8, q9, q10, q11]))) (h_ky : S ky = some (15, .inl ((g 0), 16, .inl (fun j => nI (kQ j))))) (h_pr : S pr = some (16, .inl ((g 1), 48, .inr (.inr (.inr (.inr (rfs (fun ii => pr + 1 + ii) 48))))))) (h_lw : S lw = some (17, .inl ((g 0), 16, .inl (fun j => nI (lwf j))))) (h_ll : S ll = some (18, .inl ((g 0), 16, .inl (fun j => nI (llf j))))) (h_d9 : S d9 = some (11, .inr (5, [.ref ra, .ref ka]))) (h_ra : S ra = some (12, .inl ((g 0), N, .inl (fun j => nI (zR j).val)))) (h_ka : S ka = some (13, .inl ((g 0), N, .inl kp))) (h_lo : S lo = some (2, .inr (9, [.ref ma, .ref hd, .int (nI n)]))) (h_ma : S ma = some (4, .inl ((g 2), 12, .inr (.inr (.inr (.inr (rfs me 12))))))) (h_hd : S hd = some (5, .inl ((g 0), 12, .inl hf))) (hY : yS g 300 12 me mk mn mcap mz mkf mnf S) (hP : rS g 400 48 16 (fun ii => pr + 1 + ii) (fun ii j => nI (PT ii j).val) S) (hB : lsB n h z mo co mcap mz mkf mnf hf) (hFL : FL kp N) (hN : N = tr3 (M + 1)) (hM : M ≤ 27) (hN8 : N ≤ 8000) (hs : s9 ≤ 16) (hnl : nl ≤ 3) (hkq : ∀ k, k < s9 → kQ k = kT (lf k) ∧ pl3 (lf k) < N ∧ ¬ fi h (lf k) n < n) (hxl : ∀ a, a < nl → ∀ k, k < s9 → pl3 (ad3 (xlT a) (lf k)) < N) (tP : ∀ r, trn 16 (PT r)) : Met l y_Q_findProducts w_Q_findProducts ({ frames := 4, cells := 0, slots := 0, locals := 102 }) (va_Pc [.ref qo, .ref lo, .ref d9] (mp_B0 D classes (tys g) S sz)) (va_Qv (fun (S1 : mp_M) => ∃ (PT1 : Nat → Nat → fF) (lw1 ll1 : Nat → Nat), ptI n h z mo co s9 lf nl 0 PT1 ∧ lwI s9 lf nl 0 lw1 ll1 ∧ (∀ r, trn 16 (PT1 r)) ∧ S1 ra = some (12, .inl ((g 0), N, .inl (fun j => nI (zR j).val))) ∧ S1 lw = some (17, .inl ((g 0), 16, .inl (fun j => nI (lw1 j)))) ∧ S1 ll = some (18, .inl ((g 0), 16, .inl (fun j => nI (ll1 j)))) ∧ (rS g 400 48 16 (fun ii => pr + 1 + ii) (fun ii j => nI (PT1 ii j).val) S1) ∧ (∀ b t e9, S b = some (t, e9) → (t ≠ 12) → (t ≠ 17) → (t ≠ 18) → (t < 400 ∨ 448 ≤ t) → S1 b = some (t, e9))) (mp_B1 D classes S sz) (mp_A S sz)) 0 0 (mp_A S sz) := by
  refine Met.ofW (cc := b_Q_findProducts) (maxL := 6) (ret := none) (by decide) rfl ?_
  intro p e s m args below meth c s₁ B hml hv
  obtain ⟨rfl, hsz, hH, hK⟩ := hv
  have hx := B.exec
  have hb := B.bytes
  have hr := B.returns
  have hts := atoms_spec (ws := w_Q_findProducts) B.pre
  have hg : ∀ w ∈ gw, w.before _ s = true := fun w h => hts w (List.mem_cons_of_mem _ h)
  have hown : s.vm.findClass R_Q = some m.cls := findClass_of_methodNamed B.named
  have hlocks := B.notSynchronized
  subst hsz
  have hI := mp_I.start hH
  have hl := lv_entry ([.ref qo, .ref lo, .ref d9]) (n := 6) (Nat.le_of_ble_eq_true rfl)
  rw [lg_entry_eq]
  generalize (lg_sl ([.ref qo, .ref lo, .ref d9]) ++ List.replicate (6 - (lg_sl ([.ref qo, .ref lo, .ref d9])).length) Slot.unset).toArray = ls at hl ⊢
  have hl : lv_has ls 6 [(0, .ref qo), (1, .ref lo), (2, .ref d9)] := hl
  have hfr : ∀ b t e9, S b = some (t, e9) → (t ≠ 12) → (t ≠ 17) → (t ≠ 18) → (t < 400 ∨ 448 ≤ t) → S b = some (t, e9) := fun _ _ _ h9 _ _ _ _ => h9
  refine lv_iconst (v := nI 0) hx hb d_Q_findProducts_0 (by decide) ?_
  refine lv_istore_n (lv' := [(3, .int (nI 0)), (0, .ref qo), (1, .ref lo), (2, .ref d9)]) hx hb d_Q_findProducts_1 rfl hl (by decide) rfl (fun ls hl => ?_)
  refine lp_Q_fp2 (B := S) (qo := qo) (ky := ky) (pr := pr) (lw := lw) (ll := ll) (d9 := d9) (ra := ra) (ka := ka) (lo := lo) (ma := ma) (hd := hd) (nl := nl) (s9 := s9) (n := n) (N := N) (M := M) (q6 := q6) (q7 := q7) (q8 := q8) (q9 := q9) (q10 := q10) (q11 := q11) (kQ := kQ) (me := me) (mk := mk) (mn := mn) (mcap := mcap) (mz := mz) (mkf := mkf) (mnf := mnf) (hf := hf) (kp := kp) (h := h) (z := z) (mo := mo) (co := co) (lf := lf) hx hb hml hg hown hK (Nat.le_of_ble_eq_true rfl) (Nat.le_of_ble_eq_true rfl) (Nat.le_of_ble_eq_true rfl) (Nat.le_of_ble_eq_true rfl) hB hFL hN hM hN8 hs hnl hkq hxl nl 0 PT lwf llf S s.heap _ ls (by omega) (fun a b h1 => absurd h1 (by unfold prD; omega)) (fun o9 ho ⟨a, b, h1, _⟩ => absurd h1 (by unfold prD; omega)) tP h_qo h_ky h_pr h_lw h_ll h_d9 h_ra h_ka h_lo h_ma h_hd hY hP hfr hI (lv_sub hl [0, 3, 2, 1] rfl) (fun PT1 lw1 ll1 S1 H2 locs ls hpt hlw tP j_qo j_ky j_pr j_lw j_ll j_d9 j_ra j_ka j_lo j_ma j_hd hY hP hfr hI hl => ?_)
  refine mp_vret hx hb hr hlocks hI (Nat.le_of_ble_eq_true rfl) (Nat.le_of_ble_eq_true rfl) ?_ d_Q_findProducts_78
  exact ⟨PT1, lw1, ll1, hpt, hlw, tP, j_ra, j_lw, j_ll, hP, hfr⟩
