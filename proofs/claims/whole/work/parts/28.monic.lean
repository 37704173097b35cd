/-- the first i of f, behind them g -/
def mrg (f g : Nat → Int32) (i : Nat) : Nat → Int32 := fun j => if j < i then f j else g j
theorem mrg_0 (f g : Nat → Int32) : mrg f g 0 = g := by funext j; unfold mrg; rw [if_neg (Nat.not_lt_zero j)]
theorem mrg_up (f g : Nat → Int32) (i : Nat) : upd (mrg f g i) i (f i) = mrg f g (i + 1) := by
  funext j
  unfold upd mrg
  by_cases e : j = i
  · subst e; rw [if_pos rfl, if_pos (by omega)]
  · rw [if_neg e]
    by_cases h : j < i
    · rw [if_pos h, if_pos (by omega)]
    · rw [if_neg h, if_neg (by omega)]
theorem mrg_lt {f g : Nat → Int32} {i j : Nat} (h : j < i) : mrg f g i j = f j := by unfold mrg; rw [if_pos h]
theorem m2_lt {a b : Nat} (ha : a < 32003) (hb : b < 32003) : a * b < 2 ^ 31 := Nat.lt_of_le_of_lt (Nat.mul_le_mul (Nat.le_of_lt_succ (show a < 32002 + 1 by omega)) (Nat.le_of_lt_succ (show b < 32002 + 1 by omega))) (by decide)
theorem d_Y_becomeMonic_0 : decode b_Y_becomeMonic 0 = .ok (.aload_n 0, 1) := by decide +kernel
theorem d_Y_becomeMonic_1 : decode b_Y_becomeMonic 1 = .ok (.getfield 9, 3) := by decide +kernel
theorem d_Y_becomeMonic_4 : decode b_Y_becomeMonic 4 = .ok (.arraylength, 1) := by decide +kernel
theorem d_Y_becomeMonic_5 : decode b_Y_becomeMonic 5 = .ok (.aload_n 1, 1) := by decide +kernel
theorem d_Y_becomeMonic_6 : decode b_Y_becomeMonic 6 = .ok (.getfield 18, 3) := by decide +kernel
theorem d_Y_becomeMonic_9 : decode b_Y_becomeMonic 9 = .ok (.if_icmp .ge 23, 3) := by decide +kernel
theorem d_Y_becomeMonic_12 : decode b_Y_becomeMonic 12 = .ok (.aload_n 0, 1) := by decide +kernel
theorem d_Y_becomeMonic_13 : decode b_Y_becomeMonic 13 = .ok (.aload_n 1, 1) := by decide +kernel
theorem d_Y_becomeMonic_14 : decode b_Y_becomeMonic 14 = .ok (.getfield 18, 3) := by decide +kernel
theorem d_Y_becomeMonic_17 : decode b_Y_becomeMonic 17 = .ok (.newarray .int, 2) := by decide +kernel
theorem d_Y_becomeMonic_19 : decode b_Y_becomeMonic 19 = .ok (.putfield 9, 3) := by decide +kernel
theorem d_Y_becomeMonic_22 : decode b_Y_becomeMonic 22 = .ok (.aload_n 0, 1) := by decide +kernel
theorem d_Y_becomeMonic_23 : decode b_Y_becomeMonic 23 = .ok (.aload_n 1, 1) := by decide +kernel
theorem d_Y_becomeMonic_24 : decode b_Y_becomeMonic 24 = .ok (.getfield 18, 3) := by decide +kernel
theorem d_Y_becomeMonic_27 : decode b_Y_becomeMonic 27 = .ok (.newarray .int, 2) := by decide +kernel
theorem d_Y_becomeMonic_29 : decode b_Y_becomeMonic 29 = .ok (.putfield 15, 3) := by decide +kernel
theorem d_Y_becomeMonic_32 : decode b_Y_becomeMonic 32 = .ok (.aload_n 0, 1) := by decide +kernel
theorem d_Y_becomeMonic_33 : decode b_Y_becomeMonic 33 = .ok (.aload_n 1, 1) := by decide +kernel
theorem d_Y_becomeMonic_34 : decode b_Y_becomeMonic 34 = .ok (.getfield 18, 3) := by decide +kernel
theorem d_Y_becomeMonic_37 : decode b_Y_becomeMonic 37 = .ok (.putfield 18, 3) := by decide +kernel
theorem d_Y_becomeMonic_40 : decode b_Y_becomeMonic 40 = .ok (.aload_n 0, 1) := by decide +kernel
theorem d_Y_becomeMonic_41 : decode b_Y_becomeMonic 41 = .ok (.getfield 18, 3) := by decide +kernel
theorem d_Y_becomeMonic_44 : decode b_Y_becomeMonic 44 = .ok (.ifCond .le 15, 3) := by decide +kernel
theorem d_Y_becomeMonic_47 : decode b_Y_becomeMonic 47 = .ok (.aload_n 1, 1) := by decide +kernel
theorem d_Y_becomeMonic_48 : decode b_Y_becomeMonic 48 = .ok (.getfield 15, 3) := by decide +kernel
theorem d_Y_becomeMonic_51 : decode b_Y_becomeMonic 51 = .ok (.iconst 0, 1) := by decide +kernel
theorem d_Y_becomeMonic_52 : decode b_Y_becomeMonic 52 = .ok (.iaload, 1) := by decide +kernel
theorem d_Y_becomeMonic_53 : decode b_Y_becomeMonic 53 = .ok (.invokestatic 35, 3) := by decide +kernel
theorem d_Y_becomeMonic_56 : decode b_Y_becomeMonic 56 = .ok (.goto 4, 3) := by decide +kernel
theorem d_Y_becomeMonic_59 : decode b_Y_becomeMonic 59 = .ok (.iconst 1, 1) := by decide +kernel
theorem d_Y_becomeMonic_60 : decode b_Y_becomeMonic 60 = .ok (.istore_n 2, 1) := by decide +kernel
theorem d_Y_becomeMonic_61 : decode b_Y_becomeMonic 61 = .ok (.iconst 0, 1) := by decide +kernel
theorem d_Y_becomeMonic_62 : decode b_Y_becomeMonic 62 = .ok (.istore_n 3, 1) := by decide +kernel
theorem d_Y_becomeMonic_63 : decode b_Y_becomeMonic 63 = .ok (.iload_n 3, 1) := by decide +kernel
theorem d_Y_becomeMonic_64 : decode b_Y_becomeMonic 64 = .ok (.aload_n 0, 1) := by decide +kernel
theorem d_Y_becomeMonic_65 : decode b_Y_becomeMonic 65 = .ok (.getfield 18, 3) := by decide +kernel
theorem d_Y_becomeMonic_68 : decode b_Y_becomeMonic 68 = .ok (.if_icmp .ge 39, 3) := by decide +kernel
theorem d_Y_becomeMonic_71 : decode b_Y_becomeMonic 71 = .ok (.aload_n 0, 1) := by decide +kernel
theorem d_Y_becomeMonic_72 : decode b_Y_becomeMonic 72 = .ok (.getfield 9, 3) := by decide +kernel
theorem d_Y_becomeMonic_75 : decode b_Y_becomeMonic 75 = .ok (.iload_n 3, 1) := by decide +kernel
theorem d_Y_becomeMonic_76 : decode b_Y_becomeMonic 76 = .ok (.aload_n 1, 1) := by decide +kernel
theorem d_Y_becomeMonic_77 : decode b_Y_becomeMonic 77 = .ok (.getfield 9, 3) := by decide +kernel
theorem d_Y_becomeMonic_80 : decode b_Y_becomeMonic 80 = .ok (.iload_n 3, 1) := by decide +kernel
theorem d_Y_becomeMonic_81 : decode b_Y_becomeMonic 81 = .ok (.iaload, 1) := by decide +kernel
theorem d_Y_becomeMonic_82 : decode b_Y_becomeMonic 82 = .ok (.iastore, 1) := by decide +kernel
theorem d_Y_becomeMonic_83 : decode b_Y_becomeMonic 83 = .ok (.aload_n 0, 1) := by decide +kernel
theorem d_Y_becomeMonic_84 : decode b_Y_becomeMonic 84 = .ok (.getfield 15, 3) := by decide +kernel
theorem d_Y_becomeMonic_87 : decode b_Y_becomeMonic 87 = .ok (.iload_n 3, 1) := by decide +kernel
theorem d_Y_becomeMonic_88 : decode b_Y_becomeMonic 88 = .ok (.aload_n 1, 1) := by decide +kernel
theorem d_Y_becomeMonic_89 : decode b_Y_becomeMonic 89 = .ok (.getfield 15, 3) := by decide +kernel
theorem d_Y_becomeMonic_92 : decode b_Y_becomeMonic 92 = .ok (.iload_n 3, 1) := by decide +kernel
theorem d_Y_becomeMonic_93 : decode b_Y_becomeMonic 93 = .ok (.iaload, 1) := by decide +kernel
theorem d_Y_becomeMonic_94 : decode b_Y_becomeMonic 94 = .ok (.iload_n 2, 1) := by decide +kernel
theorem d_Y_becomeMonic_95 : decode b_Y_becomeMonic 95 = .ok (.imul, 1) := by decide +kernel
theorem d_Y_becomeMonic_96 : decode b_Y_becomeMonic 96 = .ok (.sipush 32003, 3) := by decide +kernel
theorem d_Y_becomeMonic_99 : decode b_Y_becomeMonic 99 = .ok (.irem, 1) := by decide +kernel
theorem d_Y_becomeMonic_100 : decode b_Y_becomeMonic 100 = .ok (.iastore, 1) := by decide +kernel
theorem d_Y_becomeMonic_101 : decode b_Y_becomeMonic 101 = .ok (.iinc 3 1, 3) := by decide +kernel
theorem d_Y_becomeMonic_104 : decode b_Y_becomeMonic 104 = .ok (.goto (-41), 3) := by decide +kernel
theorem d_Y_becomeMonic_107 : decode b_Y_becomeMonic 107 = .ok (.return_, 1) := by decide +kernel
set_option maxHeartbeats 4000000 in
set_option maxRecDepth 100000 in
theorem lp_Y_monic {p : Program} {l : Launch} {e : Env} {R : Room} {s : State} {m : MethodId} {args : Array Value} {below : List Frame} {meth : Method} {c : Code} {Q : State → Prop} {D : mp_G} {g : Nat → ClassId} {A : Nat → Prop} {cells slots : Nat} (hx : p.tables.exec = Jvm.exec) (hb : c.code = b_Y_becomeMonic) (hml : c.maxLocals = 4) (hg : ∀ w ∈ gw, w.before args s = true) (hown : s.vm.findClass R_Y = some m.cls) (hK : mp_K D classes (tys g) s) (hRf : 0 ≤ R.frames) (hRl : 0 ≤ R.locals) (hRc : cells ≤ R.cells) (hRs : slots ≤ R.slots) {B : mp_M} {o ka na y kb nb T U cap cp2 z w9 : Nat} {kf nf ka0 na0 : Nat → Int32} {X : Nat → Nat} (hTU : T + 2 < U ∨ U + 2 < T) (hX : ∀ i, i < z → nf i = nI (X i) ∧ X i < 32003) (hw : w9 < 32003) (hz : z ≤ cap) (hz2 : z ≤ cp2) (hcap : cap ≤ 2048) (hcp2 : cp2 ≤ 2048) : ∀ (k i : Nat) (S : mp_M) (H : Heap) (locs : List Loc) (ls : Array Slot), i + k = z → S o = some (T, .inr (3, [.ref ka, .ref na, .int (nI z)])) → S ka = some ((T + 1), .inl ((g 0), cap, .inl (mrg kf ka0 i))) → S na = some ((T + 2), .inl ((g 0), cap, .inl (mrg (fun j => nI (X j * w9 % 32003)) na0 i))) → S y = some (U, .inr (3, [.ref kb, .ref nb, .int (nI z)])) → S kb = some ((U + 1), .inl ((g 0), cp2, .inl kf)) → S nb = some ((U + 2), .inl ((g 0), cp2, .inl nf)) → (∀ b, B b ≠ none → b ≠ o → b ≠ ka → b ≠ na → S b = B b) → mp_I D classes A s.heap S H locs → lv_has ls 4 [(3, .int (nI i)), (2, .int (nI w9)), (1, .ref y), (0, .ref o)] → (∀ (S : mp_M) (H : Heap) (locs : List Loc) (ls : Array Slot), S o = some (T, .inr (3, [.ref ka, .ref na, .int (nI z)])) → S ka = some ((T + 1), .inl ((g 0), cap, .inl (mrg kf ka0 z))) → S na = some ((T + 2), .inl ((g 0), cap, .inl (mrg (fun j => nI (X j * w9 % 32003)) na0 z))) → S y = some (U, .inr (3, [.ref kb, .ref nb, .int (nI z)])) → S kb = some ((U + 1), .inl ((g 0), cp2, .inl kf)) → S nb = some ((U + 2), .inl ((g 0), cp2, .inl nf)) → (∀ b, B b ≠ none → b ≠ o → b ≠ ka → b ≠ na → S b = B b) → mp_I D classes A s.heap S H locs → lv_has ls 4 [(3, .int (nI z)), (2, .int (nI w9)), (1, .ref y), (0, .ref o)] → W p l e R s m args below meth c H locs cells slots Q (F0 m 107 ls [])) → W p l e R s m args below meth c H locs cells slots Q (F0 m 63 ls []) := by
  intro k
  induction k with
  | zero =>
    intro i S H locs ls hi h_o h_ka h_na h_y h_kb h_nb hfr hI hl kx
    obtain rfl : i = z := by omega
    refine lv_iload_n hx hb d_Y_becomeMonic_63 rfl (lv_at hl 0 rfl) ?_
    refine lv_aload_n hx hb d_Y_becomeMonic_64 rfl (lv_at hl 3 rfl) ?_
    refine mp_get (C := R_Y) (T := F_Y) (N := 3) (v := .int (nI i)) hx hb hg i_Y hown hK.va hI h_o rfl 2 (by decide) (hg _ q_51) (fun _ h9 => h9) rfl d_Y_becomeMonic_65 ?_
    refine lv_icmp_ge (tgt := 107) hx hb d_Y_becomeMonic_68 (by decide) (fun _ => ?_) (fun h9 => absurd ((nI_leI (by omega) (by omega)).mpr (by omega)) h9)
    exact kx S H locs ls h_o h_ka h_na h_y h_kb h_nb hfr hI hl
  | succ k ih =>
    intro i S H locs ls hi h_o h_ka h_na h_y h_kb h_nb hfr hI hl kx
    refine lv_iload_n hx hb d_Y_becomeMonic_63 rfl (lv_at hl 0 rfl) ?_
    refine lv_aload_n hx hb d_Y_becomeMonic_64 rfl (lv_at hl 3 rfl) ?_
    refine mp_get (C := R_Y) (T := F_Y) (N := 3) (v := .int (nI z)) hx hb hg i_Y hown hK.va hI h_o rfl 2 (by decide) (hg _ q_51) (fun _ h9 => h9) rfl d_Y_becomeMonic_65 ?_
    refine lv_icmp_ge (tgt := 107) hx hb d_Y_becomeMonic_68 (by decide) (fun h9 => absurd h9 (by rw [nI_leI (by omega) (by omega)]; omega)) (fun _ => ?_)
    obtain ⟨k1, k2⟩ := hX i (by omega)
    refine lv_aload_n hx hb d_Y_becomeMonic_71 rfl (lv_at hl 3 rfl) ?_
    refine mp_get (C := R_Y) (T := F_Y) (N := 3) (v := .ref ka) hx hb hg i_Y hown hK.va hI h_o rfl 0 (by decide) (hg _ q_45) (fun _ h9 => h9) rfl d_Y_becomeMonic_72 ?_
    refine lv_iload_n hx hb d_Y_becomeMonic_75 rfl (lv_at hl 0 rfl) ?_
    refine lv_aload_n hx hb d_Y_becomeMonic_76 rfl (lv_at hl 2 rfl) ?_
    refine mp_get (C := R_Y) (T := F_Y) (N := 3) (v := .ref kb) hx hb hg i_Y hown hK.va hI h_y rfl 0 (by decide) (hg _ q_45) (fun _ h9 => h9) rfl d_Y_becomeMonic_77 ?_
    refine lv_iload_n hx hb d_Y_becomeMonic_80 rfl (lv_at hl 0 rfl) ?_
    refine mp_iald hx hb hK.va hI 0 h_kb rfl (vp_in_nI (show i < cp2 by omega) (by omega)) d_Y_becomeMonic_81 ?_
    refine lv_topi (fun v1 ev1 => ?_)
    obtain rfl : v1 = kf i := ev1.trans (by rw [nI_clamp (by omega)])
    refine mp_iast hx hb hK.va hI 0 h_ka rfl (vp_in_nI (show i < cap by omega) (by omega)) d_Y_becomeMonic_82 (fun S2 H3 locs e_4 hI => ?_)
    have e_4 : S2 = va_up S ka (some ((T + 1), .inl ((g 0), cap, .inl (upd (mrg kf ka0 i) (nI i).toNatClampNeg (kf i))))) := e_4
    have h_o : S2 o = some (T, .inr (3, [.ref ka, .ref na, .int (nI z)])) := by rw [e_4]; exact mp_keep h_o h_ka (by omega)
    have h_na : S2 na = some ((T + 2), .inl ((g 0), cap, .inl (mrg (fun j => nI (X j * w9 % 32003)) na0 i))) := by rw [e_4]; exact mp_keep h_na h_ka (by omega)
    have h_y : S2 y = some (U, .inr (3, [.ref kb, .ref nb, .int (nI z)])) := by rw [e_4]; exact mp_keep h_y h_ka (by omega)
    have h_kb : S2 kb = some ((U + 1), .inl ((g 0), cp2, .inl kf)) := by rw [e_4]; exact mp_keep h_kb h_ka (by omega)
    have h_nb : S2 nb = some ((U + 2), .inl ((g 0), cp2, .inl nf)) := by rw [e_4]; exact mp_keep h_nb h_ka (by omega)
    have h_ka : S2 ka = some ((T + 1), .inl ((g 0), cap, .inl (upd (mrg kf ka0 i) (nI i).toNatClampNeg (kf i)))) := by rw [e_4]; exact mp_us _ _ _
    have hfr : ∀ b, B b ≠ none → b ≠ o → b ≠ ka → b ≠ na → S2 b = B b := fun b h9 k0 k1 k2 => by rw [e_4]; exact (mp_un k1).trans (hfr b h9 k0 k1 k2)
    rw [nI_clamp (by omega), mrg_up] at h_ka
    refine lv_aload_n hx hb d_Y_becomeMonic_83 rfl (lv_at hl 3 rfl) ?_
    refine mp_get (C := R_Y) (T := F_Y) (N := 3) (v := .ref na) hx hb hg i_Y hown hK.va hI h_o rfl 1 (by decide) (hg _ q_48) (fun _ h9 => h9) rfl d_Y_becomeMonic_84 ?_
    refine lv_iload_n hx hb d_Y_becomeMonic_87 rfl (lv_at hl 0 rfl) ?_
    refine lv_aload_n hx hb d_Y_becomeMonic_88 rfl (lv_at hl 2 rfl) ?_
    refine mp_get (C := R_Y) (T := F_Y) (N := 3) (v := .ref nb) hx hb hg i_Y hown hK.va hI h_y rfl 1 (by decide) (hg _ q_48) (fun _ h9 => h9) rfl d_Y_becomeMonic_89 ?_
    refine lv_iload_n hx hb d_Y_becomeMonic_92 rfl (lv_at hl 0 rfl) ?_
    refine mp_iald hx hb hK.va hI 0 h_nb rfl (vp_in_nI (show i < cp2 by omega) (by omega)) d_Y_becomeMonic_93 ?_
    refine lv_topi (fun v5 ev5 => ?_)
    obtain rfl : v5 = nI (X i) := ev5.trans (by rw [nI_clamp (by omega)]; exact k1)
    refine lv_iload_n hx hb d_Y_becomeMonic_94 rfl (lv_at hl 1 rfl) ?_
    refine lv_imul hx hb d_Y_becomeMonic_95 ?_
    refine lv_topi (fun v6 ev6 => ?_)
    obtain rfl : v6 = nI ((X i) * w9) := ev6.trans (pk_mul _ _)
    refine lv_sipush (v := nI 32003) hx hb d_Y_becomeMonic_96 (by decide) ?_
    refine lv_irem hx hb d_Y_becomeMonic_99 (by decide) ?_
    refine lv_topi (fun v7 ev7 => ?_)
    obtain rfl : v7 = nI (((X i) * w9) % 32003) := ev7.trans (pk_rem (m2_lt k2 hw) (by omega) (by omega))
    refine mp_iast hx hb hK.va hI 0 h_na rfl (vp_in_nI (show i < cap by omega) (by omega)) d_Y_becomeMonic_100 (fun S8 H9 locs e_10 hI => ?_)
    have e_10 : S8 = va_up S2 na (some ((T + 2), .inl ((g 0), cap, .inl (upd (mrg (fun j => nI (X j * w9 % 32003)) na0 i) (nI i).toNatClampNeg (nI (((X i) * w9) % 32003)))))) := e_10
    have h_o : S8 o = some (T, .inr (3, [.ref ka, .ref na, .int (nI z)])) := by rw [e_10]; exact mp_keep h_o h_na (by omega)
    have h_ka : S8 ka = some ((T + 1), .inl ((g 0), cap, .inl (mrg kf ka0 (i + 1)))) := by rw [e_10]; exact mp_keep h_ka h_na (by omega)
    have h_y : S8 y = some (U, .inr (3, [.ref kb, .ref nb, .int (nI z)])) := by rw [e_10]; exact mp_keep h_y h_na (by omega)
    have h_kb : S8 kb = some ((U + 1), .inl ((g 0), cp2, .inl kf)) := by rw [e_10]; exact mp_keep h_kb h_na (by omega)
    have h_nb : S8 nb = some ((U + 2), .inl ((g 0), cp2, .inl nf)) := by rw [e_10]; exact mp_keep h_nb h_na (by omega)
    have h_na : S8 na = some ((T + 2), .inl ((g 0), cap, .inl (upd (mrg (fun j => nI (X j * w9 % 32003)) na0 i) (nI i).toNatClampNeg (nI (((X i) * w9) % 32003))))) := by rw [e_10]; exact mp_us _ _ _
    have hfr : ∀ b, B b ≠ none → b ≠ o → b ≠ ka → b ≠ na → S8 b = B b := fun b h9 k0 k1 k2 => by rw [e_10]; exact (mp_un k2).trans (hfr b h9 k0 k1 k2)
    rw [nI_clamp (by omega)] at h_na
    have h_na : S8 na = some ((T + 2), .inl ((g 0), cap, .inl (mrg (fun j => nI (X j * w9 % 32003)) na0 (i + 1)))) := by rw [← mrg_up]; exact h_na
    refine lv_iinc (v := nI (i + 1)) (lv' := [(3, .int (nI (i + 1))), (2, .int (nI w9)), (1, .ref y), (0, .ref o)]) hx hb d_Y_becomeMonic_101 hl (k := 0) rfl (nI_1 _) (by decide) rfl (fun ls hl => ?_)
    refine lv_goto (tgt := 63) hx hb d_Y_becomeMonic_104 (by decide) ?_
    exact ih (i + 1) S8 H9 locs ls (by omega) h_o h_ka h_na h_y h_kb h_nb hfr hI (lv_sub hl [0, 1, 2, 3] rfl) kx
set_option maxHeartbeats 4000000 in
set_option maxRecDepth 100000 in
/-- over the number at the head -/
theorem c_Y_becomeMonic (l : Launch) (D : mp_G) (g : Nat → ClassId) (S : mp_M) (sz : Nat) (o ka na y kb nb T U cap cp2 z : Nat) (z0 : Int32) (kf nf ka0 na0 : Nat → Int32) (X : Nat → Nat) (h_o : S o = some (T, .inr (3, [.ref ka, .ref na, .int z0]))) (h_ka : S ka = some ((T + 1), .inl ((g 0), cap, .inl ka0))) (h_na : S na = some ((T + 2), .inl ((g 0), cap, .inl na0))) (h_y : S y = some (U, .inr (3, [.ref kb, .ref nb, .int (nI z)]))) (h_kb : S kb = some ((U + 1), .inl ((g 0), cp2, .inl kf))) (h_nb : S nb = some ((U + 2), .inl ((g 0), cp2, .inl nf))) (hTU : T + 2 < U ∨ U + 2 < T) (hX : ∀ i, i < z → nf i = nI (X i) ∧ X i < 32003) (hz2 : z ≤ cp2) (hz3 : z ≤ 1000) (hcap : cap ≤ 2048) (hcp2 : cp2 ≤ 2048) : Met l y_Y_becomeMonic w_Y_becomeMonic ({ frames := 1, cells := 2, slots := 4096, locals := 23 }) (va_Pc [.ref o, .ref y] (mp_B0 D classes (tys g) S sz)) (va_Qv (fun (S1 : mp_M) => ∃ (ka1 na1 cap1 : Nat) (kf1 nf1 : Nat → Int32), S1 o = some (T, .inr (3, [.ref ka1, .ref na1, .int (nI z)])) ∧ S1 ka1 = some ((T + 1), .inl ((g 0), cap1, .inl kf1)) ∧ S1 na1 = some ((T + 2), .inl ((g 0), cap1, .inl nf1)) ∧ z ≤ cap1 ∧ cap1 ≤ 2048 ∧ (∀ j, j < z → kf1 j = kf j) ∧ (∀ j, j < z → nf1 j = nI (X j * (if z = 0 then 1 else X 0 ^ 32001 % 32003) % 32003)) ∧ (∀ b, S b ≠ none → b ≠ o → b ≠ ka → b ≠ na → S1 b = S b)) (mp_B1 D classes S sz) (mp_A S sz)) 2 4096 (mp_A S sz) := by
  refine Met.ofW (cc := b_Y_becomeMonic) (maxL := 4) (ret := none) (by decide) rfl ?_
  intro p e s m args below meth c s₁ B hml hv
  obtain ⟨rfl, hsz, hH, hK⟩ := hv
  have hx := B.exec
  have hb := B.bytes
  have hr := B.returns
  have hts := atoms_spec (ws := w_Y_becomeMonic) B.pre
  have hg : ∀ w ∈ gw, w.before _ s = true := fun w h => hts w (List.mem_cons_of_mem _ h)
  have hown : s.vm.findClass R_Y = some m.cls := findClass_of_methodNamed B.named
  have hlocks := B.notSynchronized
  subst hsz
  have hI := mp_I.start hH
  have hl := lv_entry ([.ref o, .ref y]) (n := 4) (Nat.le_of_ble_eq_true rfl)
  rw [lg_entry_eq]
  generalize (lg_sl ([.ref o, .ref y]) ++ List.replicate (4 - (lg_sl ([.ref o, .ref y])).length) Slot.unset).toArray = ls at hl ⊢
  have hl : lv_has ls 4 [(0, .ref o), (1, .ref y)] := hl
  have hfr : ∀ b, S b ≠ none → b ≠ o → b ≠ ka → b ≠ na → S b = S b := fun _ _ _ _ _ => rfl
  refine lv_aload_n hx hb d_Y_becomeMonic_0 rfl (lv_at hl 0 rfl) ?_
  refine mp_get (C := R_Y) (T := F_Y) (N := 3) (v := .ref ka) hx hb hg i_Y hown hK.va hI h_o rfl 0 (by decide) (hg _ q_45) (fun _ h9 => h9) rfl d_Y_becomeMonic_1 ?_
  refine mp_alen (v := nI cap) hx hb hK.va hI 0 h_ka rfl rfl d_Y_becomeMonic_4 ?_
  refine lv_aload_n hx hb d_Y_becomeMonic_5 rfl (lv_at hl 1 rfl) ?_
  refine mp_get (C := R_Y) (T := F_Y) (N := 3) (v := .int (nI z)) hx hb hg i_Y hown hK.va hI h_y rfl 2 (by decide) (hg _ q_51) (fun _ h9 => h9) rfl d_Y_becomeMonic_6 ?_
  refine lv_icmp_ge (tgt := 32) hx hb d_Y_becomeMonic_9 (by decide) (fun c1 => ?_) (fun c1 => ?_)
  · rw [nI_leI (by omega) (by omega)] at c1
    refine lv_aload_n hx hb d_Y_becomeMonic_32 rfl (lv_at hl 0 rfl) ?_
    refine lv_aload_n hx hb d_Y_becomeMonic_33 rfl (lv_at hl 1 rfl) ?_
    refine mp_get (C := R_Y) (T := F_Y) (N := 3) (v := .int (nI z)) hx hb hg i_Y hown hK.va hI h_y rfl 2 (by decide) (hg _ q_51) (fun _ h9 => h9) rfl d_Y_becomeMonic_34 ?_
    refine mp_put (C := R_Y) (T := F_Y) (N := 3) (v := .int (nI z)) (ty := .int) hx hb hg i_Y t_Y t_Y_ok n_Y hown hK.va hI h_o rfl 2 (by decide) (hg _ q_51) (fun _ h9 => h9) rfl (by decide +kernel) (rfl) rfl (Nat.le_of_ble_eq_true rfl) d_Y_becomeMonic_37 (fun S1 H2 locs e_3 hI => ?_)
    have e_3 : S1 = va_up S o (some (T, .inr (3, [.ref ka, .ref na, .int (nI z)]))) := e_3
    have h_ka : S1 ka = some ((T + 1), .inl ((g 0), cap, .inl ka0)) := by rw [e_3]; exact mp_keep h_ka h_o (by omega)
    have h_na : S1 na = some ((T + 2), .inl ((g 0), cap, .inl na0)) := by rw [e_3]; exact mp_keep h_na h_o (by omega)
    have h_y : S1 y = some (U, .inr (3, [.ref kb, .ref nb, .int (nI z)])) := by rw [e_3]; exact mp_keep h_y h_o (by omega)
    have h_kb : S1 kb = some ((U + 1), .inl ((g 0), cp2, .inl kf)) := by rw [e_3]; exact mp_keep h_kb h_o (by omega)
    have h_nb : S1 nb = some ((U + 2), .inl ((g 0), cp2, .inl nf)) := by rw [e_3]; exact mp_keep h_nb h_o (by omega)
    have h_o : S1 o = some (T, .inr (3, [.ref ka, .ref na, .int (nI z)])) := by rw [e_3]; exact mp_us _ _ _
    have hfr : ∀ b, S b ≠ none → b ≠ o → b ≠ ka → b ≠ na → S1 b = S b := fun b h9 k0 k1 k2 => by rw [e_3]; exact (mp_un k0).trans (hfr b h9 k0 k1 k2)
    refine lv_aload_n hx hb d_Y_becomeMonic_40 rfl (lv_at hl 0 rfl) ?_
    refine mp_get (C := R_Y) (T := F_Y) (N := 3) (v := .int (nI z)) hx hb hg i_Y hown hK.va hI h_o rfl 2 (by decide) (hg _ q_51) (fun _ h9 => h9) rfl d_Y_becomeMonic_41 ?_
    refine lv_if_le (tgt := 59) hx hb d_Y_becomeMonic_44 (by decide) (fun c2 => ?_) (fun c2 => ?_)
    · rw [zI_le (by omega)] at c2
      refine lv_iconst (v := nI 1) hx hb d_Y_becomeMonic_59 (by decide) ?_
      refine lv_topi (fun v4 ev4 => ?_)
      obtain rfl : v4 = nI (if z = 0 then 1 else X 0 ^ 32001 % 32003) := ev4.trans (by rw [if_pos (by omega)])
      refine lv_istore_n (lv' := [(2, .int (nI (if z = 0 then 1 else X 0 ^ 32001 % 32003))), (0, .ref o), (1, .ref y)]) hx hb d_Y_becomeMonic_60 rfl hl (by decide) rfl (fun ls hl => ?_)
      refine lv_iconst (v := nI 0) hx hb d_Y_becomeMonic_61 (by decide) ?_
      refine lv_istore_n (lv' := [(3, .int (nI 0)), (2, .int (nI (if z = 0 then 1 else X 0 ^ 32001 % 32003))), (0, .ref o), (1, .ref y)]) hx hb d_Y_becomeMonic_62 rfl hl (by decide) rfl (fun ls hl => ?_)
      have hw9 : (if z = 0 then 1 else X 0 ^ 32001 % 32003) < 32003 := by by_cases e9 : z = 0; (rw [if_pos e9]; decide); (rw [if_neg e9]; exact Nat.mod_lt _ (show 0 < 32003 by decide))
      refine lp_Y_monic (B := S1) (o := o) (ka := ka) (na := na) (y := y) (kb := kb) (nb := nb) (T := T) (U := U) (cap := cap) (cp2 := cp2) (z := z) (w9 := (if z = 0 then 1 else X 0 ^ 32001 % 32003)) (kf := kf) (nf := nf) (ka0 := ka0) (na0 := na0) (X := X) hx hb hml hg hown hK (Nat.le_of_ble_eq_true rfl) (Nat.le_of_ble_eq_true rfl) (Nat.le_of_ble_eq_true rfl) (Nat.le_of_ble_eq_true rfl) hTU hX hw9 (by omega) hz2 (by omega) hcp2 z 0 S1 H2 _ ls (by omega) h_o (by rw [mrg_0]; exact h_ka) (by rw [mrg_0]; exact h_na) h_y h_kb h_nb (fun _ _ _ _ _ => rfl) hI (lv_sub hl [0, 1, 3, 2] rfl) (fun S9 H9 locs9 ls9 j_o j_ka j_na _ _ _ hf9 hI hl => ?_)
      refine mp_vret hx hb hr hlocks hI (Nat.le_of_ble_eq_true rfl) (Nat.le_of_ble_eq_true rfl) ?_ d_Y_becomeMonic_107
      exact ⟨ka, na, cap, _, _, j_o, j_ka, j_na, by omega, by omega, fun j hj => mrg_lt hj, fun j hj => mrg_lt hj, fun b h9 k0 k1 k2 => (hf9 b (by rw [hfr b h9 k0 k1 k2]; exact h9) k0 k1 k2).trans (hfr b h9 k0 k1 k2)⟩
    · rw [zI_le (by omega)] at c2
      obtain ⟨k1, k2⟩ := hX 0 (by omega)
      refine lv_aload_n hx hb d_Y_becomeMonic_47 rfl (lv_at hl 1 rfl) ?_
      refine mp_get (C := R_Y) (T := F_Y) (N := 3) (v := .ref nb) hx hb hg i_Y hown hK.va hI h_y rfl 1 (by decide) (hg _ q_48) (fun _ h9 => h9) rfl d_Y_becomeMonic_48 ?_
      refine lv_iconst (v := nI 0) hx hb d_Y_becomeMonic_51 (by decide) ?_
      refine mp_iald hx hb hK.va hI 0 h_nb rfl (vp_in_nI (show 0 < cp2 by omega) (by omega)) d_Y_becomeMonic_52 ?_
      refine lv_topi (fun v5 ev5 => ?_)
      obtain rfl : v5 = nI (X 0) := ev5.trans (by rw [nI_clamp (by decide)]; exact k1)
      refine mp_calli hI (va_runSN (As := [.int (nI (X 0))]) (rest := []) ⟨hx, hb, hml, hown, hg⟩ (c_B_inverse l D g S1 _ (X 0) k2) ⟨(va_cnB 1 hg (wd_goodG q_414) rfl rfl rfl (hK.nw q_731 rfl) (hg _ q_1) (by decide +kernel) ⟨Nat.le_of_ble_eq_true rfl, Nat.le_of_ble_eq_true rfl⟩), hg _ q_413, trivial⟩ (mp_pre hI hK [.int (nI (X 0))]) rfl rfl hl.1 rfl (lv_room (Nat.le_of_ble_eq_true rfl)) d_Y_becomeMonic_53 ⟨Nat.le_of_ble_eq_true rfl, Nat.le_of_ble_eq_true rfl⟩) (fun r9 S6 H7 locs p_8 hI => ?_)
      obtain ⟨er9, eS10⟩ := p_8
      rw [eS10] at hI
      have er9 : r9 = nI (X 0 ^ 32001 % 32003) := er9
      subst er9
      refine lv_topi (fun v11 ev11 => ?_)
      obtain rfl : v11 = nI (if z = 0 then 1 else X 0 ^ 32001 % 32003) := ev11.trans (by rw [if_neg (by omega)])
      refine lv_goto (tgt := 60) hx hb d_Y_becomeMonic_56 (by decide) ?_
      refine lv_istore_n (lv' := [(2, .int (nI (if z = 0 then 1 else X 0 ^ 32001 % 32003))), (0, .ref o), (1, .ref y)]) hx hb d_Y_becomeMonic_60 rfl hl (by decide) rfl (fun ls hl => ?_)
      refine lv_iconst (v := nI 0) hx hb d_Y_becomeMonic_61 (by decide) ?_
      refine lv_istore_n (lv' := [(3, .int (nI 0)), (2, .int (nI (if z = 0 then 1 else X 0 ^ 32001 % 32003))), (0, .ref o), (1, .ref y)]) hx hb d_Y_becomeMonic_62 rfl hl (by decide) rfl (fun ls hl => ?_)
      have hw9 : (if z = 0 then 1 else X 0 ^ 32001 % 32003) < 32003 := by by_cases e9 : z = 0; (rw [if_pos e9]; decide); (rw [if_neg e9]; exact Nat.mod_lt _ (show 0 < 32003 by decide))
      refine lp_Y_monic (B := S1) (o := o) (ka := ka) (na := na) (y := y) (kb := kb) (nb := nb) (T := T) (U := U) (cap := cap) (cp2 := cp2) (z := z) (w9 := (if z = 0 then 1 else X 0 ^ 32001 % 32003)) (kf := kf) (nf := nf) (ka0 := ka0) (na0 := na0) (X := X) hx hb hml hg hown hK (Nat.le_of_ble_eq_true rfl) (Nat.le_of_ble_eq_true rfl) (Nat.le_of_ble_eq_true rfl) (Nat.le_of_ble_eq_true rfl) hTU hX hw9 (by omega) hz2 (by omega) hcp2 z 0 S1 H7 _ ls (by omega) h_o (by rw [mrg_0]; exact h_ka) (by rw [mrg_0]; exact h_na) h_y h_kb h_nb (fun _ _ _ _ _ => rfl) hI (lv_sub hl [0, 1, 3, 2] rfl) (fun S9 H9 locs9 ls9 j_o j_ka j_na _ _ _ hf9 hI hl => ?_)
      refine mp_vret hx hb hr hlocks hI (Nat.le_of_ble_eq_true rfl) (Nat.le_of_ble_eq_true rfl) ?_ d_Y_becomeMonic_107
      exact ⟨ka, na, cap, _, _, j_o, j_ka, j_na, by omega, by omega, fun j hj => mrg_lt hj, fun j hj => mrg_lt hj, fun b h9 k0 k1 k2 => (hf9 b (by rw [hfr b h9 k0 k1 k2]; exact h9) k0 k1 k2).trans (hfr b h9 k0 k1 k2)⟩
  · rw [nI_leI (by omega) (by omega)] at c1
    refine lv_aload_n hx hb d_Y_becomeMonic_12 rfl (lv_at hl 0 rfl) ?_
    refine lv_aload_n hx hb d_Y_becomeMonic_13 rfl (lv_at hl 1 rfl) ?_
    refine mp_get (C := R_Y) (T := F_Y) (N := 3) (v := .int (nI z)) hx hb hg i_Y hown hK.va hI h_y rfl 2 (by decide) (hg _ q_51) (fun _ h9 => h9) rfl d_Y_becomeMonic_14 ?_
    have hI0 := hI
    refine mp_newi (N' := z) hx hb (hg _ q_60) hK.va hI 0 (T + 1) rfl (nI_pos (by omega)) (nI_clamp (by omega)) (show z * 4 ≤ 536870912 by omega) (Nat.le_of_ble_eq_true rfl) (show _ ≤ 4096 by omega) d_Y_becomeMonic_17 (fun S12 H13 z_15 e_14 hI => ?_)
    obtain ⟨a16, ea16⟩ : ∃ z, z = s.heap.size := ⟨_, rfl⟩
    have g_a16 : s.heap.size ≤ a16 := by rw [ea16]; exact hI0.2.2.1.1
    rw [← ea16] at z_15 e_14
    refine W.eq (g2 := F0 m 19 ls [.ref a16, .ref o]) (by rw [ea16]) ?_
    have h_o : S12 o = some (T, .inr (3, [.ref ka, .ref na, .int z0])) := by rw [e_14]; exact mp_keepN h_o z_15
    have h_ka : S12 ka = some ((T + 1), .inl ((g 0), cap, .inl ka0)) := by rw [e_14]; exact mp_keepN h_ka z_15
    have h_na : S12 na = some ((T + 2), .inl ((g 0), cap, .inl na0)) := by rw [e_14]; exact mp_keepN h_na z_15
    have h_y : S12 y = some (U, .inr (3, [.ref kb, .ref nb, .int (nI z)])) := by rw [e_14]; exact mp_keepN h_y z_15
    have h_kb : S12 kb = some ((U + 1), .inl ((g 0), cp2, .inl kf)) := by rw [e_14]; exact mp_keepN h_kb z_15
    have h_nb : S12 nb = some ((U + 2), .inl ((g 0), cp2, .inl nf)) := by rw [e_14]; exact mp_keepN h_nb z_15
    have h_17 : S12 a16 = some ((T + 1), .inl ((g 0), z, .inl (fun _ => 0))) := by rw [e_14]; exact mp_us _ _ _
    have nb_a16 : ∀ b, S b ≠ none → b ≠ o → b ≠ ka → b ≠ na → b ≠ a16 := fun b h9 k0 k1 k2 z9 => h9 ((hfr b h9 k0 k1 k2).symm.trans (by rw [z9]; exact z_15))
    have hfr : ∀ b, S b ≠ none → b ≠ o → b ≠ ka → b ≠ na → S12 b = S b := fun b h9 k0 k1 k2 => by rw [e_14]; exact (mp_un (nb_a16 b h9 k0 k1 k2)).trans (hfr b h9 k0 k1 k2)
    refine mp_put (C := R_Y) (T := F_Y) (N := 3) (v := .ref a16) (ty := .array .int) hx hb hg i_Y t_Y t_Y_ok n_Y hown hK.va hI h_o rfl 0 (by decide) (hg _ q_45) (fun _ h9 => h9) rfl (by decide +kernel) (rfl) rfl (Nat.le_of_ble_eq_true rfl) d_Y_becomeMonic_19 (fun S18 H19 locs e_20 hI => ?_)
    have e_20 : S18 = va_up S12 o (some (T, .inr (3, [.ref a16, .ref na, .int z0]))) := e_20
    have h_ka : S18 ka = some ((T + 1), .inl ((g 0), cap, .inl ka0)) := by rw [e_20]; exact mp_keep h_ka h_o (by omega)
    have h_na : S18 na = some ((T + 2), .inl ((g 0), cap, .inl na0)) := by rw [e_20]; exact mp_keep h_na h_o (by omega)
    have h_y : S18 y = some (U, .inr (3, [.ref kb, .ref nb, .int (nI z)])) := by rw [e_20]; exact mp_keep h_y h_o (by omega)
    have h_kb : S18 kb = some ((U + 1), .inl ((g 0), cp2, .inl kf)) := by rw [e_20]; exact mp_keep h_kb h_o (by omega)
    have h_nb : S18 nb = some ((U + 2), .inl ((g 0), cp2, .inl nf)) := by rw [e_20]; exact mp_keep h_nb h_o (by omega)
    have h_17 : S18 a16 = some ((T + 1), .inl ((g 0), z, .inl (fun _ => 0))) := by rw [e_20]; exact mp_keep h_17 h_o (by omega)
    have h_o : S18 o = some (T, .inr (3, [.ref a16, .ref na, .int z0])) := by rw [e_20]; exact mp_us _ _ _
    have hfr : ∀ b, S b ≠ none → b ≠ o → b ≠ ka → b ≠ na → S18 b = S b := fun b h9 k0 k1 k2 => by rw [e_20]; exact (mp_un k0).trans (hfr b h9 k0 k1 k2)
    refine lv_aload_n hx hb d_Y_becomeMonic_22 rfl (lv_at hl 0 rfl) ?_
    refine lv_aload_n hx hb d_Y_becomeMonic_23 rfl (lv_at hl 1 rfl) ?_
    refine mp_get (C := R_Y) (T := F_Y) (N := 3) (v := .int (nI z)) hx hb hg i_Y hown hK.va hI h_y rfl 2 (by decide) (hg _ q_51) (fun _ h9 => h9) rfl d_Y_becomeMonic_24 ?_
    have hI0 := hI
    refine mp_newi (N' := z) hx hb (hg _ q_60) hK.va hI 0 (T + 2) rfl (nI_pos (by omega)) (nI_clamp (by omega)) (show z * 4 ≤ 536870912 by omega) (Nat.le_of_ble_eq_true rfl) (show _ ≤ 4096 by omega) d_Y_becomeMonic_27 (fun S21 H22 z_24 e_23 hI => ?_)
    obtain ⟨a25, ea25⟩ : ∃ z, z = H19.size := ⟨_, rfl⟩
    have g_a25 : s.heap.size ≤ a25 := by rw [ea25]; exact hI0.2.2.1.1
    rw [← ea25] at z_24 e_23
    refine W.eq (g2 := F0 m 29 ls [.ref a25, .ref o]) (by rw [ea25]) ?_
    have h_o : S21 o = some (T, .inr (3, [.ref a16, .ref na, .int z0])) := by rw [e_23]; exact mp_keepN h_o z_24
    have h_ka : S21 ka = some ((T + 1), .inl ((g 0), cap, .inl ka0)) := by rw [e_23]; exact mp_keepN h_ka z_24
    have h_na : S21 na = some ((T + 2), .inl ((g 0), cap, .inl na0)) := by rw [e_23]; exact mp_keepN h_na z_24
    have h_y : S21 y = some (U, .inr (3, [.ref kb, .ref nb, .int (nI z)])) := by rw [e_23]; exact mp_keepN h_y z_24
    have h_kb : S21 kb = some ((U + 1), .inl ((g 0), cp2, .inl kf)) := by rw [e_23]; exact mp_keepN h_kb z_24
    have h_nb : S21 nb = some ((U + 2), .inl ((g 0), cp2, .inl nf)) := by rw [e_23]; exact mp_keepN h_nb z_24
    have h_17 : S21 a16 = some ((T + 1), .inl ((g 0), z, .inl (fun _ => 0))) := by rw [e_23]; exact mp_keepN h_17 z_24
    have h_26 : S21 a25 = some ((T + 2), .inl ((g 0), z, .inl (fun _ => 0))) := by rw [e_23]; exact mp_us _ _ _
    have nb_a25 : ∀ b, S b ≠ none → b ≠ o → b ≠ ka → b ≠ na → b ≠ a25 := fun b h9 k0 k1 k2 z9 => h9 ((hfr b h9 k0 k1 k2).symm.trans (by rw [z9]; exact z_24))
    have hfr : ∀ b, S b ≠ none → b ≠ o → b ≠ ka → b ≠ na → S21 b = S b := fun b h9 k0 k1 k2 => by rw [e_23]; exact (mp_un (nb_a25 b h9 k0 k1 k2)).trans (hfr b h9 k0 k1 k2)
    refine mp_put (C := R_Y) (T := F_Y) (N := 3) (v := .ref a25) (ty := .array .int) hx hb hg i_Y t_Y t_Y_ok n_Y hown hK.va hI h_o rfl 1 (by decide) (hg _ q_48) (fun _ h9 => h9) rfl (by decide +kernel) (rfl) rfl (Nat.le_of_ble_eq_true rfl) d_Y_becomeMonic_29 (fun S27 H28 locs e_29 hI => ?_)
    have e_29 : S27 = va_up S21 o (some (T, .inr (3, [.ref a16, .ref a25, .int z0]))) := e_29
    have h_ka : S27 ka = some ((T + 1), .inl ((g 0), cap, .inl ka0)) := by rw [e_29]; exact mp_keep h_ka h_o (by omega)
    have h_na : S27 na = some ((T + 2), .inl ((g 0), cap, .inl na0)) := by rw [e_29]; exact mp_keep h_na h_o (by omega)
    have h_y : S27 y = some (U, .inr (3, [.ref kb, .ref nb, .int (nI z)])) := by rw [e_29]; exact mp_keep h_y h_o (by omega)
    have h_kb : S27 kb = some ((U + 1), .inl ((g 0), cp2, .inl kf)) := by rw [e_29]; exact mp_keep h_kb h_o (by omega)
    have h_nb : S27 nb = some ((U + 2), .inl ((g 0), cp2, .inl nf)) := by rw [e_29]; exact mp_keep h_nb h_o (by omega)
    have h_17 : S27 a16 = some ((T + 1), .inl ((g 0), z, .inl (fun _ => 0))) := by rw [e_29]; exact mp_keep h_17 h_o (by omega)
    have h_26 : S27 a25 = some ((T + 2), .inl ((g 0), z, .inl (fun _ => 0))) := by rw [e_29]; exact mp_keep h_26 h_o (by omega)
    have h_o : S27 o = some (T, .inr (3, [.ref a16, .ref a25, .int z0])) := by rw [e_29]; exact mp_us _ _ _
    have hfr : ∀ b, S b ≠ none → b ≠ o → b ≠ ka → b ≠ na → S27 b = S b := fun b h9 k0 k1 k2 => by rw [e_29]; exact (mp_un k0).trans (hfr b h9 k0 k1 k2)
    refine lv_aload_n hx hb d_Y_becomeMonic_32 rfl (lv_at hl 0 rfl) ?_
    refine lv_aload_n hx hb d_Y_becomeMonic_33 rfl (lv_at hl 1 rfl) ?_
    refine mp_get (C := R_Y) (T := F_Y) (N := 3) (v := .int (nI z)) hx hb hg i_Y hown hK.va hI h_y rfl 2 (by decide) (hg _ q_51) (fun _ h9 => h9) rfl d_Y_becomeMonic_34 ?_
    refine mp_put (C := R_Y) (T := F_Y) (N := 3) (v := .int (nI z)) (ty := .int) hx hb hg i_Y t_Y t_Y_ok n_Y hown hK.va hI h_o rfl 2 (by decide) (hg _ q_51) (fun _ h9 => h9) rfl (by decide +kernel) (rfl) rfl (Nat.le_of_ble_eq_true rfl) d_Y_becomeMonic_37 (fun S30 H31 locs e_32 hI => ?_)
    have e_32 : S30 = va_up S27 o (some (T, .inr (3, [.ref a16, .ref a25, .int (nI z)]))) := e_32
    have h_ka : S30 ka = some ((T + 1), .inl ((g 0), cap, .inl ka0)) := by rw [e_32]; exact mp_keep h_ka h_o (by omega)
    have h_na : S30 na = some ((T + 2), .inl ((g 0), cap, .inl na0)) := by rw [e_32]; exact mp_keep h_na h_o (by omega)
    have h_y : S30 y = some (U, .inr (3, [.ref kb, .ref nb, .int (nI z)])) := by rw [e_32]; exact mp_keep h_y h_o (by omega)
    have h_kb : S30 kb = some ((U + 1), .inl ((g 0), cp2, .inl kf)) := by rw [e_32]; exact mp_keep h_kb h_o (by omega)
    have h_nb : S30 nb = some ((U + 2), .inl ((g 0), cp2, .inl nf)) := by rw [e_32]; exact mp_keep h_nb h_o (by omega)
    have h_17 : S30 a16 = some ((T + 1), .inl ((g 0), z, .inl (fun _ => 0))) := by rw [e_32]; exact mp_keep h_17 h_o (by omega)
    have h_26 : S30 a25 = some ((T + 2), .inl ((g 0), z, .inl (fun _ => 0))) := by rw [e_32]; exact mp_keep h_26 h_o (by omega)
    have h_o : S30 o = some (T, .inr (3, [.ref a16, .ref a25, .int (nI z)])) := by rw [e_32]; exact mp_us _ _ _
    have hfr : ∀ b, S b ≠ none → b ≠ o → b ≠ ka → b ≠ na → S30 b = S b := fun b h9 k0 k1 k2 => by rw [e_32]; exact (mp_un k0).trans (hfr b h9 k0 k1 k2)
    refine lv_aload_n hx hb d_Y_becomeMonic_40 rfl (lv_at hl 0 rfl) ?_
    refine mp_get (C := R_Y) (T := F_Y) (N := 3) (v := .int (nI z)) hx hb hg i_Y hown hK.va hI h_o rfl 2 (by decide) (hg _ q_51) (fun _ h9 => h9) rfl d_Y_becomeMonic_41 ?_
    refine lv_if_le (tgt := 59) hx hb d_Y_becomeMonic_44 (by decide) (fun c2 => ?_) (fun c2 => ?_)
    · rw [zI_le (by omega)] at c2
      refine lv_iconst (v := nI 1) hx hb d_Y_becomeMonic_59 (by decide) ?_
      refine lv_topi (fun v33 ev33 => ?_)
      obtain rfl : v33 = nI (if z = 0 then 1 else X 0 ^ 32001 % 32003) := ev33.trans (by rw [if_pos (by omega)])
      refine lv_istore_n (lv' := [(2, .int (nI (if z = 0 then 1 else X 0 ^ 32001 % 32003))), (0, .ref o), (1, .ref y)]) hx hb d_Y_becomeMonic_60 rfl hl (by decide) rfl (fun ls hl => ?_)
      refine lv_iconst (v := nI 0) hx hb d_Y_becomeMonic_61 (by decide) ?_
      refine lv_istore_n (lv' := [(3, .int (nI 0)), (2, .int (nI (if z = 0 then 1 else X 0 ^ 32001 % 32003))), (0, .ref o), (1, .ref y)]) hx hb d_Y_becomeMonic_62 rfl hl (by decide) rfl (fun ls hl => ?_)
      have hw9 : (if z = 0 then 1 else X 0 ^ 32001 % 32003) < 32003 := by by_cases e9 : z = 0; (rw [if_pos e9]; decide); (rw [if_neg e9]; exact Nat.mod_lt _ (show 0 < 32003 by decide))
      refine lp_Y_monic (B := S30) (o := o) (ka := a16) (na := a25) (y := y) (kb := kb) (nb := nb) (T := T) (U := U) (cap := z) (cp2 := cp2) (z := z) (w9 := (if z = 0 then 1 else X 0 ^ 32001 % 32003)) (kf := kf) (nf := nf) (ka0 := (fun _ => 0)) (na0 := (fun _ => 0)) (X := X) hx hb hml hg hown hK (Nat.le_of_ble_eq_true rfl) (Nat.le_of_ble_eq_true rfl) (Nat.le_of_ble_eq_true rfl) (show _ ≤ 4096 by omega) hTU hX hw9 (by omega) hz2 (by omega) hcp2 z 0 S30 H31 _ ls (by omega) h_o (by rw [mrg_0]; exact h_17) (by rw [mrg_0]; exact h_26) h_y h_kb h_nb (fun _ _ _ _ _ => rfl) hI (lv_sub hl [0, 1, 3, 2] rfl) (fun S9 H9 locs9 ls9 j_o j_ka j_na _ _ _ hf9 hI hl => ?_)
      refine mp_vret hx hb hr hlocks hI (Nat.le_of_ble_eq_true rfl) (show _ ≤ 4096 by omega) ?_ d_Y_becomeMonic_107
      exact ⟨a16, a25, z, _, _, j_o, j_ka, j_na, by omega, by omega, fun j hj => mrg_lt hj, fun j hj => mrg_lt hj, fun b h9 k0 k1 k2 => (hf9 b (by rw [hfr b h9 k0 k1 k2]; exact h9) k0 (nb_a16 b h9 k0 k1 k2) (nb_a25 b h9 k0 k1 k2)).trans (hfr b h9 k0 k1 k2)⟩
    · rw [zI_le (by omega)] at c2
      obtain ⟨k1, k2⟩ := hX 0 (by omega)
      refine lv_aload_n hx hb d_Y_becomeMonic_47 rfl (lv_at hl 1 rfl) ?_
      refine mp_get (C := R_Y) (T := F_Y) (N := 3) (v := .ref nb) hx hb hg i_Y hown hK.va hI h_y rfl 1 (by decide) (hg _ q_48) (fun _ h9 => h9) rfl d_Y_becomeMonic_48 ?_
      refine lv_iconst (v := nI 0) hx hb d_Y_becomeMonic_51 (by decide) ?_
      refine mp_iald hx hb hK.va hI 0 h_nb rfl (vp_in_nI (show 0 < cp2 by omega) (by omega)) d_Y_becomeMonic_52 ?_
      refine lv_topi (fun v34 ev34 => ?_)
      obtain rfl : v34 = nI (X 0) := ev34.trans (by rw [nI_clamp (by decide)]; exact k1)
      refine mp_calli hI (va_runSN (As := [.int (nI (X 0))]) (rest := []) ⟨hx, hb, hml, hown, hg⟩ (c_B_inverse l D g S30 _ (X 0) k2) ⟨(va_cnB 1 hg (wd_goodG q_414) rfl rfl rfl (hK.nw q_731 rfl) (hg _ q_1) (by decide +kernel) ⟨Nat.le_of_ble_eq_true rfl, Nat.le_of_ble_eq_true rfl⟩), hg _ q_413, trivial⟩ (mp_pre hI hK [.int (nI (X 0))]) rfl rfl hl.1 rfl (lv_room (Nat.le_of_ble_eq_true rfl)) d_Y_becomeMonic_53 ⟨Nat.le_of_ble_eq_true rfl, show _ ≤ 4096 by omega⟩) (fun r38 S35 H36 locs p_37 hI => ?_)
      obtain ⟨er38, eS39⟩ := p_37
      rw [eS39] at hI
      have er38 : r38 = nI (X 0 ^ 32001 % 32003) := er38
      subst er38
      refine lv_topi (fun v40 ev40 => ?_)
      obtain rfl : v40 = nI (if z = 0 then 1 else X 0 ^ 32001 % 32003) := ev40.trans (by rw [if_neg (by omega)])
      refine lv_goto (tgt := 60) hx hb d_Y_becomeMonic_56 (by decide) ?_
      refine lv_istore_n (lv' := [(2, .int (nI (if z = 0 then 1 else X 0 ^ 32001 % 32003))), (0, .ref o), (1, .ref y)]) hx hb d_Y_becomeMonic_60 rfl hl (by decide) rfl (fun ls hl => ?_)
      refine lv_iconst (v := nI 0) hx hb d_Y_becomeMonic_61 (by decide) ?_
      refine lv_istore_n (lv' := [(3, .int (nI 0)), (2, .int (nI (if z = 0 then 1 else X 0 ^ 32001 % 32003))), (0, .ref o), (1, .ref y)]) hx hb d_Y_becomeMonic_62 rfl hl (by decide) rfl (fun ls hl => ?_)
      have hw9 : (if z = 0 then 1 else X 0 ^ 32001 % 32003) < 32003 := by by_cases e9 : z = 0; (rw [if_pos e9]; decide); (rw [if_neg e9]; exact Nat.mod_lt _ (show 0 < 32003 by decide))
      refine lp_Y_monic (B := S30) (o := o) (ka := a16) (na := a25) (y := y) (kb := kb) (nb := nb) (T := T) (U := U) (cap := z) (cp2 := cp2) (z := z) (w9 := (if z = 0 then 1 else X 0 ^ 32001 % 32003)) (kf := kf) (nf := nf) (ka0 := (fun _ => 0)) (na0 := (fun _ => 0)) (X := X) hx hb hml hg hown hK (Nat.le_of_ble_eq_true rfl) (Nat.le_of_ble_eq_true rfl) (Nat.le_of_ble_eq_true rfl) (show _ ≤ 4096 by omega) hTU hX hw9 (by omega) hz2 (by omega) hcp2 z 0 S30 H36 _ ls (by omega) h_o (by rw [mrg_0]; exact h_17) (by rw [mrg_0]; exact h_26) h_y h_kb h_nb (fun _ _ _ _ _ => rfl) hI (lv_sub hl [0, 1, 3, 2] rfl) (fun S9 H9 locs9 ls9 j_o j_ka j_na _ _ _ hf9 hI hl => ?_)
      refine mp_vret hx hb hr hlocks hI (Nat.le_of_ble_eq_true rfl) (show _ ≤ 4096 by omega) ?_ d_Y_becomeMonic_107
      exact ⟨a16, a25, z, _, _, j_o, j_ka, j_na, by omega, by omega, fun j hj => mrg_lt hj, fun j hj => mrg_lt hj, fun b h9 k0 k1 k2 => (hf9 b (by rw [hfr b h9 k0 k1 k2]; exact h9) k0 (nb_a16 b h9 k0 k1 k2) (nb_a25 b h9 k0 k1 k2)).trans (hfr b h9 k0 k1 k2)⟩
