theorem nI_dec (n : Nat) : nI (n + 1) + (-1) = nI n := by rw [← nI_1, Int32.add_assoc, show (1 : Int32) + (-1) = 0 from by decide, Int32.add_zero]
/-- what stands from i on up to z has moved up by one -/
def shR (f : Nat → Int32) (i z : Nat) : Nat → Int32 := fun j => if i < j ∧ j ≤ z then f (j - 1) else f j
theorem shR_z (f : Nat → Int32) (z : Nat) : shR f z z = f := by funext j; unfold shR; rw [if_neg (by omega)]
theorem shR_at (f : Nat → Int32) (i z : Nat) : shR f (i + 1) z i = f i := by unfold shR; rw [if_neg (by omega)]
theorem shR_up {f : Nat → Int32} {i z : Nat} (h : i < z) : upd (shR f (i + 1) z) (i + 1) (f i) = shR f i z := by
  funext j
  unfold upd shR
  by_cases e : j = i + 1
  · subst e; rw [if_pos rfl, if_pos (by omega)]; rfl
  · rw [if_neg e]
    by_cases h2 : i + 1 < j ∧ j ≤ z
    · rw [if_pos h2, if_pos (by omega)]
    · rw [if_neg h2, if_neg (by omega)]
theorem shR_lo {f : Nat → Int32} {i z j : Nat} (h : j ≤ i) : shR f i z j = f j := by unfold shR; rw [if_neg (by omega)]
theorem shR_hi {f : Nat → Int32} {i z j : Nat} (h : i ≤ j) (h2 : j < z) : shR f i z (j + 1) = f j := by unfold shR; rw [if_pos (by omega)]; rfl
/-- what stands above sp, up to i, has moved down by one -/
def shL (f : Nat → Int32) (sp i : Nat) : Nat → Int32 := fun j => if sp ≤ j ∧ j < i then f (j + 1) else f j
theorem shL_0 (f : Nat → Int32) (sp : Nat) : shL f sp sp = f := by funext j; unfold shL; rw [if_neg (by omega)]
theorem shL_at (f : Nat → Int32) (sp i : Nat) : shL f sp i (i + 1) = f (i + 1) := by unfold shL; rw [if_neg (by omega)]
theorem shL_up {f : Nat → Int32} {sp i : Nat} (h : sp ≤ i) : upd (shL f sp i) i (f (i + 1)) = shL f sp (i + 1) := by
  funext j
  unfold upd shL
  by_cases e : j = i
  · subst e; rw [if_pos rfl, if_pos (by omega)]
  · rw [if_neg e]
    by_cases h2 : sp ≤ j ∧ j < i
    · rw [if_pos h2, if_pos (by omega)]
    · rw [if_neg h2, if_neg (by omega)]
theorem cpy_at {f g : Nat → Int32} {n j : Nat} (h : j < n) : va_cpy f g 0 0 n j = f j := by unfold va_cpy; rw [if_pos (by omega)]; congr 1; omega
theorem d_Y_closeUp_0 : decode b_Y_closeUp 0 = .ok (.aload_n 0, 1) := by decide +kernel
theorem d_Y_closeUp_1 : decode b_Y_closeUp 1 = .ok (.dup, 1) := by decide +kernel
theorem d_Y_closeUp_2 : decode b_Y_closeUp 2 = .ok (.getfield 18, 3) := by decide +kernel
theorem d_Y_closeUp_5 : decode b_Y_closeUp 5 = .ok (.iconst 1, 1) := by decide +kernel
theorem d_Y_closeUp_6 : decode b_Y_closeUp 6 = .ok (.isub, 1) := by decide +kernel
theorem d_Y_closeUp_7 : decode b_Y_closeUp 7 = .ok (.putfield 18, 3) := by decide +kernel
theorem d_Y_closeUp_10 : decode b_Y_closeUp 10 = .ok (.iload_n 1, 1) := by decide +kernel
theorem d_Y_closeUp_11 : decode b_Y_closeUp 11 = .ok (.istore_n 2, 1) := by decide +kernel
theorem d_Y_closeUp_12 : decode b_Y_closeUp 12 = .ok (.iload_n 2, 1) := by decide +kernel
theorem d_Y_closeUp_13 : decode b_Y_closeUp 13 = .ok (.aload_n 0, 1) := by decide +kernel
theorem d_Y_closeUp_14 : decode b_Y_closeUp 14 = .ok (.getfield 18, 3) := by decide +kernel
theorem d_Y_closeUp_17 : decode b_Y_closeUp 17 = .ok (.if_icmp .ge 37, 3) := by decide +kernel
theorem d_Y_closeUp_20 : decode b_Y_closeUp 20 = .ok (.aload_n 0, 1) := by decide +kernel
theorem d_Y_closeUp_21 : decode b_Y_closeUp 21 = .ok (.getfield 9, 3) := by decide +kernel
theorem d_Y_closeUp_24 : decode b_Y_closeUp 24 = .ok (.iload_n 2, 1) := by decide +kernel
theorem d_Y_closeUp_25 : decode b_Y_closeUp 25 = .ok (.aload_n 0, 1) := by decide +kernel
theorem d_Y_closeUp_26 : decode b_Y_closeUp 26 = .ok (.getfield 9, 3) := by decide +kernel
theorem d_Y_closeUp_29 : decode b_Y_closeUp 29 = .ok (.iload_n 2, 1) := by decide +kernel
theorem d_Y_closeUp_30 : decode b_Y_closeUp 30 = .ok (.iconst 1, 1) := by decide +kernel
theorem d_Y_closeUp_31 : decode b_Y_closeUp 31 = .ok (.iadd, 1) := by decide +kernel
theorem d_Y_closeUp_32 : decode b_Y_closeUp 32 = .ok (.iaload, 1) := by decide +kernel
theorem d_Y_closeUp_33 : decode b_Y_closeUp 33 = .ok (.iastore, 1) := by decide +kernel
theorem d_Y_closeUp_34 : decode b_Y_closeUp 34 = .ok (.aload_n 0, 1) := by decide +kernel
theorem d_Y_closeUp_35 : decode b_Y_closeUp 35 = .ok (.getfield 15, 3) := by decide +kernel
theorem d_Y_closeUp_38 : decode b_Y_closeUp 38 = .ok (.iload_n 2, 1) := by decide +kernel
theorem d_Y_closeUp_39 : decode b_Y_closeUp 39 = .ok (.aload_n 0, 1) := by decide +kernel
theorem d_Y_closeUp_40 : decode b_Y_closeUp 40 = .ok (.getfield 15, 3) := by decide +kernel
theorem d_Y_closeUp_43 : decode b_Y_closeUp 43 = .ok (.iload_n 2, 1) := by decide +kernel
theorem d_Y_closeUp_44 : decode b_Y_closeUp 44 = .ok (.iconst 1, 1) := by decide +kernel
theorem d_Y_closeUp_45 : decode b_Y_closeUp 45 = .ok (.iadd, 1) := by decide +kernel
theorem d_Y_closeUp_46 : decode b_Y_closeUp 46 = .ok (.iaload, 1) := by decide +kernel
theorem d_Y_closeUp_47 : decode b_Y_closeUp 47 = .ok (.iastore, 1) := by decide +kernel
theorem d_Y_closeUp_48 : decode b_Y_closeUp 48 = .ok (.iinc 2 1, 3) := by decide +kernel
theorem d_Y_closeUp_51 : decode b_Y_closeUp 51 = .ok (.goto (-39), 3) := by decide +kernel
theorem d_Y_closeUp_54 : decode b_Y_closeUp 54 = .ok (.return_, 1) := by decide +kernel
theorem d_Y_makeRoom_12 : decode b_Y_makeRoom 12 = .ok (.aload_n 0, 1) := by decide +kernel
theorem d_Y_makeRoom_13 : decode b_Y_makeRoom 13 = .ok (.aload_n 0, 1) := by decide +kernel
theorem d_Y_makeRoom_14 : decode b_Y_makeRoom 14 = .ok (.getfield 9, 3) := by decide +kernel
theorem d_Y_makeRoom_17 : decode b_Y_makeRoom 17 = .ok (.iconst 2, 1) := by decide +kernel
theorem d_Y_makeRoom_18 : decode b_Y_makeRoom 18 = .ok (.aload_n 0, 1) := by decide +kernel
theorem d_Y_makeRoom_19 : decode b_Y_makeRoom 19 = .ok (.getfield 18, 3) := by decide +kernel
theorem d_Y_makeRoom_22 : decode b_Y_makeRoom 22 = .ok (.imul, 1) := by decide +kernel
theorem d_Y_makeRoom_23 : decode b_Y_makeRoom 23 = .ok (.invokestatic 29, 3) := by decide +kernel
theorem d_Y_makeRoom_26 : decode b_Y_makeRoom 26 = .ok (.putfield 9, 3) := by decide +kernel
theorem d_Y_makeRoom_29 : decode b_Y_makeRoom 29 = .ok (.aload_n 0, 1) := by decide +kernel
theorem d_Y_makeRoom_30 : decode b_Y_makeRoom 30 = .ok (.aload_n 0, 1) := by decide +kernel
theorem d_Y_makeRoom_31 : decode b_Y_makeRoom 31 = .ok (.getfield 15, 3) := by decide +kernel
theorem d_Y_makeRoom_34 : decode b_Y_makeRoom 34 = .ok (.iconst 2, 1) := by decide +kernel
theorem d_Y_makeRoom_35 : decode b_Y_makeRoom 35 = .ok (.aload_n 0, 1) := by decide +kernel
theorem d_Y_makeRoom_36 : decode b_Y_makeRoom 36 = .ok (.getfield 18, 3) := by decide +kernel
theorem d_Y_makeRoom_39 : decode b_Y_makeRoom 39 = .ok (.imul, 1) := by decide +kernel
theorem d_Y_makeRoom_40 : decode b_Y_makeRoom 40 = .ok (.invokestatic 29, 3) := by decide +kernel
theorem d_Y_makeRoom_43 : decode b_Y_makeRoom 43 = .ok (.putfield 15, 3) := by decide +kernel
theorem d_Y_makeRoom_56 : decode b_Y_makeRoom 56 = .ok (.aload_n 0, 1) := by decide +kernel
theorem d_Y_makeRoom_57 : decode b_Y_makeRoom 57 = .ok (.getfield 9, 3) := by decide +kernel
theorem d_Y_makeRoom_60 : decode b_Y_makeRoom 60 = .ok (.iload_n 2, 1) := by decide +kernel
theorem d_Y_makeRoom_61 : decode b_Y_makeRoom 61 = .ok (.aload_n 0, 1) := by decide +kernel
theorem d_Y_makeRoom_62 : decode b_Y_makeRoom 62 = .ok (.getfield 9, 3) := by decide +kernel
theorem d_Y_makeRoom_65 : decode b_Y_makeRoom 65 = .ok (.iload_n 2, 1) := by decide +kernel
theorem d_Y_makeRoom_66 : decode b_Y_makeRoom 66 = .ok (.iconst 1, 1) := by decide +kernel
theorem d_Y_makeRoom_67 : decode b_Y_makeRoom 67 = .ok (.isub, 1) := by decide +kernel
theorem d_Y_makeRoom_68 : decode b_Y_makeRoom 68 = .ok (.iaload, 1) := by decide +kernel
theorem d_Y_makeRoom_69 : decode b_Y_makeRoom 69 = .ok (.iastore, 1) := by decide +kernel
theorem d_Y_makeRoom_70 : decode b_Y_makeRoom 70 = .ok (.aload_n 0, 1) := by decide +kernel
theorem d_Y_makeRoom_71 : decode b_Y_makeRoom 71 = .ok (.getfield 15, 3) := by decide +kernel
theorem d_Y_makeRoom_74 : decode b_Y_makeRoom 74 = .ok (.iload_n 2, 1) := by decide +kernel
theorem d_Y_makeRoom_75 : decode b_Y_makeRoom 75 = .ok (.aload_n 0, 1) := by decide +kernel
theorem d_Y_makeRoom_76 : decode b_Y_makeRoom 76 = .ok (.getfield 15, 3) := by decide +kernel
theorem d_Y_makeRoom_79 : decode b_Y_makeRoom 79 = .ok (.iload_n 2, 1) := by decide +kernel
theorem d_Y_makeRoom_80 : decode b_Y_makeRoom 80 = .ok (.iconst 1, 1) := by decide +kernel
theorem d_Y_makeRoom_81 : decode b_Y_makeRoom 81 = .ok (.isub, 1) := by decide +kernel
theorem d_Y_makeRoom_82 : decode b_Y_makeRoom 82 = .ok (.iaload, 1) := by decide +kernel
theorem d_Y_makeRoom_83 : decode b_Y_makeRoom 83 = .ok (.iastore, 1) := by decide +kernel
theorem d_Y_makeRoom_84 : decode b_Y_makeRoom 84 = .ok (.iinc 2 (-1), 3) := by decide +kernel
theorem d_Y_makeRoom_87 : decode b_Y_makeRoom 87 = .ok (.goto (-36), 3) := by decide +kernel
set_option maxHeartbeats 4000000 in
set_option maxRecDepth 100000 in
theorem lp_Y_makeRoom {p : Program} {l : Launch} {e : Env} {R : Room} {s : State} {m : MethodId} {args : Array Value} {below : List Frame} {meth : Method} {c : Code} {Q : State → Prop} {D : mp_G} {g : Nat → ClassId} {A : Nat → Prop} {cells slots : Nat} (hx : p.tables.exec = Jvm.exec) (hb : c.code = b_Y_makeRoom) (hml : c.maxLocals = 3) (hg : ∀ w ∈ gw, w.before args s = true) (hown : s.vm.findClass R_Y = some m.cls) (hK : mp_K D classes (tys g) s) {B : mp_M} {o ka na T cap z sp : Nat} {kf nf : Nat → Int32} (hz : z < cap) (hcap : cap ≤ 2048) : ∀ (k : Nat) (S : mp_M) (H : Heap) (locs : List Loc) (ls : Array Slot), sp + k ≤ z → S o = some (T, .inr (3, [.ref ka, .ref na, .int (nI z)])) → S ka = some ((T + 1), .inl ((g 0), cap, .inl (shR kf (sp + k) z))) → S na = some ((T + 2), .inl ((g 0), cap, .inl (shR nf (sp + k) z))) → (∀ b, B b ≠ none → b ≠ o → b ≠ ka → b ≠ na → S b = B b) → mp_I D classes A s.heap S H locs → lv_has ls 3 [(2, .int (nI (sp + k))), (1, .int (nI sp)), (0, .ref o)] → (∀ (S : mp_M) (H : Heap) (locs : List Loc) (ls : Array Slot), S o = some (T, .inr (3, [.ref ka, .ref na, .int (nI z)])) → S ka = some ((T + 1), .inl ((g 0), cap, .inl (shR kf sp z))) → S na = some ((T + 2), .inl ((g 0), cap, .inl (shR nf sp z))) → (∀ b, B b ≠ none → b ≠ o → b ≠ ka → b ≠ na → S b = B b) → mp_I D classes A s.heap S H locs → lv_has ls 3 [(0, .ref o)] → W p l e R s m args below meth c H locs cells slots Q (F0 m 90 ls [])) → W p l e R s m args below meth c H locs cells slots Q (F0 m 51 ls []) := by
  intro k
  induction k with
  | zero =>
    intro S H locs ls hi h_o h_ka h_na hfr hI hl kx
    refine lv_iload_n hx hb d_Y_makeRoom_51 rfl (lv_at hl 0 rfl) ?_
    refine lv_iload_n hx hb d_Y_makeRoom_52 rfl (lv_at hl 1 rfl) ?_
    refine lv_icmp_le (tgt := 90) hx hb d_Y_makeRoom_53 (by decide) (fun _ => ?_) (fun h9 => absurd ((nI_leI (by omega) (by omega)).mpr (by omega)) h9)
    exact kx S H locs ls h_o h_ka h_na hfr hI (lv_sub hl [2] rfl)
  | succ k ih =>
    intro S H locs ls hi h_o h_ka h_na hfr hI hl kx
    refine lv_iload_n hx hb d_Y_makeRoom_51 rfl (lv_at hl 0 rfl) ?_
    refine lv_iload_n hx hb d_Y_makeRoom_52 rfl (lv_at hl 1 rfl) ?_
    refine lv_icmp_le (tgt := 90) hx hb d_Y_makeRoom_53 (by decide) (fun h9 => absurd h9 (by rw [nI_leI (by omega) (by omega)]; omega)) (fun _ => ?_)
    refine lv_aload_n hx hb d_Y_makeRoom_56 rfl (lv_at hl 2 rfl) ?_
    refine mp_get (C := R_Y) (T := F_Y) (N := 3) (v := .ref ka) hx hb hg i_Y hown hK.va hI h_o rfl 0 (by decide) (hg _ q_45) (fun _ h9 => h9) rfl d_Y_makeRoom_57 ?_
    refine lv_iload_n hx hb d_Y_makeRoom_60 rfl (lv_at hl 0 rfl) ?_
    refine lv_aload_n hx hb d_Y_makeRoom_61 rfl (lv_at hl 2 rfl) ?_
    refine mp_get (C := R_Y) (T := F_Y) (N := 3) (v := .ref ka) hx hb hg i_Y hown hK.va hI h_o rfl 0 (by decide) (hg _ q_45) (fun _ h9 => h9) rfl d_Y_makeRoom_62 ?_
    refine lv_iload_n hx hb d_Y_makeRoom_65 rfl (lv_at hl 0 rfl) ?_
    refine lv_iconst (v := nI 1) hx hb d_Y_makeRoom_66 (by decide) ?_
    refine lv_isub hx hb d_Y_makeRoom_67 ?_
    refine lv_topi (fun v1 ev1 => ?_)
    obtain rfl : v1 = nI (sp + k) := ev1.trans (pk_sub (show 1 ≤ sp + (k + 1) by omega))
    refine mp_iald hx hb hK.va hI 0 h_ka rfl (vp_in_nI (show sp + k < cap by omega) (by omega)) d_Y_makeRoom_68 ?_
    refine lv_topi (fun v2 ev2 => ?_)
    obtain rfl : v2 = kf (sp + k) := ev2.trans (by rw [nI_clamp (by omega)]; exact shR_at kf (sp + k) z)
    refine mp_iast hx hb hK.va hI 0 h_ka rfl (vp_in_nI (show sp + (k + 1) < cap by omega) (by omega)) d_Y_makeRoom_69 (fun S3 H4 locs e_5 hI => ?_)
    have e_5 : S3 = va_up S ka (some ((T + 1), .inl ((g 0), cap, .inl (upd (shR kf (sp + (k + 1)) z) (nI (sp + (k + 1))).toNatClampNeg (kf (sp + k)))))) := e_5
    have h_o : S3 o = some (T, .inr (3, [.ref ka, .ref na, .int (nI z)])) := by rw [e_5]; exact mp_keep h_o h_ka (by omega)
    have h_na : S3 na = some ((T + 2), .inl ((g 0), cap, .inl (shR nf (sp + (k + 1)) z))) := by rw [e_5]; exact mp_keep h_na h_ka (by omega)
    have h_ka : S3 ka = some ((T + 1), .inl ((g 0), cap, .inl (upd (shR kf (sp + (k + 1)) z) (nI (sp + (k + 1))).toNatClampNeg (kf (sp + k))))) := by rw [e_5]; exact mp_us _ _ _
    have hfr : ∀ b, B b ≠ none → b ≠ o → b ≠ ka → b ≠ na → S3 b = B b := fun b h9 k0 k1 k2 => by rw [e_5]; exact (mp_un k1).trans (hfr b h9 k0 k1 k2)
    rw [nI_clamp (by omega)] at h_ka
    have h_ka : S3 ka = some ((T + 1), .inl ((g 0), cap, .inl (shR kf (sp + k) z))) := by rw [← shR_up (show sp + k < z by omega)]; exact h_ka
    refine lv_aload_n hx hb d_Y_makeRoom_70 rfl (lv_at hl 2 rfl) ?_
    refine mp_get (C := R_Y) (T := F_Y) (N := 3) (v := .ref na) hx hb hg i_Y hown hK.va hI h_o rfl 1 (by decide) (hg _ q_48) (fun _ h9 => h9) rfl d_Y_makeRoom_71 ?_
    refine lv_iload_n hx hb d_Y_makeRoom_74 rfl (lv_at hl 0 rfl) ?_
    refine lv_aload_n hx hb d_Y_makeRoom_75 rfl (lv_at hl 2 rfl) ?_
    refine mp_get (C := R_Y) (T := F_Y) (N := 3) (v := .ref na) hx hb hg i_Y hown hK.va hI h_o rfl 1 (by decide) (hg _ q_48) (fun _ h9 => h9) rfl d_Y_makeRoom_76 ?_
    refine lv_iload_n hx hb d_Y_makeRoom_79 rfl (lv_at hl 0 rfl) ?_
    refine lv_iconst (v := nI 1) hx hb d_Y_makeRoom_80 (by decide) ?_
    refine lv_isub hx hb d_Y_makeRoom_81 ?_
    refine lv_topi (fun v6 ev6 => ?_)
    obtain rfl : v6 = nI (sp + k) := ev6.trans (pk_sub (show 1 ≤ sp + (k + 1) by omega))
    refine mp_iald hx hb hK.va hI 0 h_na rfl (vp_in_nI (show sp + k < cap by omega) (by omega)) d_Y_makeRoom_82 ?_
    refine lv_topi (fun v7 ev7 => ?_)
    obtain rfl : v7 = nf (sp + k) := ev7.trans (by rw [nI_clamp (by omega)]; exact shR_at nf (sp + k) z)
    refine mp_iast hx hb hK.va hI 0 h_na rfl (vp_in_nI (show sp + (k + 1) < cap by omega) (by omega)) d_Y_makeRoom_83 (fun S8 H9 locs e_10 hI => ?_)
    have e_10 : S8 = va_up S3 na (some ((T + 2), .inl ((g 0), cap, .inl (upd (shR nf (sp + (k + 1)) z) (nI (sp + (k + 1))).toNatClampNeg (nf (sp + k)))))) := e_10
    have h_o : S8 o = some (T, .inr (3, [.ref ka, .ref na, .int (nI z)])) := by rw [e_10]; exact mp_keep h_o h_na (by omega)
    have h_ka : S8 ka = some ((T + 1), .inl ((g 0), cap, .inl (shR kf (sp + k) z))) := by rw [e_10]; exact mp_keep h_ka h_na (by omega)
    have h_na : S8 na = some ((T + 2), .inl ((g 0), cap, .inl (upd (shR nf (sp + (k + 1)) z) (nI (sp + (k + 1))).toNatClampNeg (nf (sp + k))))) := by rw [e_10]; exact mp_us _ _ _
    have hfr : ∀ b, B b ≠ none → b ≠ o → b ≠ ka → b ≠ na → S8 b = B b := fun b h9 k0 k1 k2 => by rw [e_10]; exact (mp_un k2).trans (hfr b h9 k0 k1 k2)
    rw [nI_clamp (by omega)] at h_na
    have h_na : S8 na = some ((T + 2), .inl ((g 0), cap, .inl (shR nf (sp + k) z))) := by rw [← shR_up (show sp + k < z by omega)]; exact h_na
    refine lv_iinc (v := nI (sp + k)) (lv' := [(2, .int (nI (sp + k))), (1, .int (nI sp)), (0, .ref o)]) hx hb d_Y_makeRoom_84 hl (k := 0) rfl (nI_dec (sp + k)) (by decide) rfl (fun ls hl => ?_)
    refine lv_goto (tgt := 51) hx hb d_Y_makeRoom_87 (by decide) ?_
    exact ih S8 H9 locs ls (by omega) h_o h_ka h_na hfr hI (lv_sub hl [0, 1, 2] rfl) kx
set_option maxHeartbeats 4000000 in
set_option maxRecDepth 100000 in
/-- room at a spot -/
theorem c_Y_makeRoom (l : Launch) (D : mp_G) (g : Nat → ClassId) (S : mp_M) (sz : Nat) (o ka na T cap z sp : Nat) (kf nf : Nat → Int32) (h_o : S o = some (T, .inr (3, [.ref ka, .ref na, .int (nI z)]))) (h_ka : S ka = some ((T + 1), .inl ((g 0), cap, .inl kf))) (h_na : S na = some ((T + 2), .inl ((g 0), cap, .inl nf))) (hz : z ≤ cap) (hcap : cap ≤ 2048) (hc4 : 4 ≤ cap) (hz2 : z ≤ 1000) (hsp : sp ≤ z) : Met l y_Y_makeRoom w_Y_makeRoom ({ frames := 2, cells := 2, slots := 4096, locals := 82 }) (va_Pc [.ref o, .int (nI sp)] (mp_B0 D classes (tys g) S sz)) (va_Qv (fun (S1 : mp_M) => ∃ (ka1 na1 cap1 : Nat) (kf1 nf1 : Nat → Int32), S1 o = some (T, .inr (3, [.ref ka1, .ref na1, .int (nI (z + 1))])) ∧ S1 ka1 = some ((T + 1), .inl ((g 0), cap1, .inl kf1)) ∧ S1 na1 = some ((T + 2), .inl ((g 0), cap1, .inl nf1)) ∧ z < cap1 ∧ 4 ≤ cap1 ∧ cap1 ≤ 2048 ∧ (∀ j, j ≤ sp → j < z → kf1 j = kf j) ∧ (∀ j, sp ≤ j → j < z → kf1 (j + 1) = kf j) ∧ (∀ j, j ≤ sp → j < z → nf1 j = nf j) ∧ (∀ j, sp ≤ j → j < z → nf1 (j + 1) = nf j) ∧ (∀ b, S b ≠ none → b ≠ o → b ≠ ka → b ≠ na → S1 b = S b) ∧ (∀ b, S b ≠ none → b ≠ o → b ≠ ka → b ≠ na → b ≠ ka1 ∧ b ≠ na1)) (mp_B1 D classes S sz) (mp_A S sz)) 2 4096 (mp_A S sz) := by
  refine Met.ofW (cc := b_Y_makeRoom) (maxL := 3) (ret := none) (by decide) rfl ?_
  intro p e s m args below meth c s₁ B hml hv
  obtain ⟨rfl, hsz, hH, hK⟩ := hv
  have hx := B.exec
  have hb := B.bytes
  have hr := B.returns
  have hts := atoms_spec (ws := w_Y_makeRoom) B.pre
  have hg : ∀ w ∈ gw, w.before _ s = true := fun w h => hts w (List.mem_cons_of_mem _ h)
  have hown : s.vm.findClass R_Y = some m.cls := findClass_of_methodNamed B.named
  have hlocks := B.notSynchronized
  subst hsz
  have hI := mp_I.start hH
  have hl := lv_entry ([.ref o, .int (nI sp)]) (n := 3) (Nat.le_of_ble_eq_true rfl)
  rw [lg_entry_eq]
  generalize (lg_sl ([.ref o, .int (nI sp)]) ++ List.replicate (3 - (lg_sl ([.ref o, .int (nI sp)])).length) Slot.unset).toArray = ls at hl ⊢
  have hl : lv_has ls 3 [(0, .ref o), (1, .int (nI sp))] := hl
  have hfr : ∀ b, S b ≠ none → b ≠ o → b ≠ ka → b ≠ na → S b = S b := fun _ _ _ _ _ => rfl
  refine lv_aload_n hx hb d_Y_makeRoom_0 rfl (lv_at hl 0 rfl) ?_
  refine mp_get (C := R_Y) (T := F_Y) (N := 3) (v := .int (nI z)) hx hb hg i_Y hown hK.va hI h_o rfl 2 (by decide) (hg _ q_51) (fun _ h9 => h9) rfl d_Y_makeRoom_1 ?_
  refine lv_aload_n hx hb d_Y_makeRoom_4 rfl (lv_at hl 0 rfl) ?_
  refine mp_get (C := R_Y) (T := F_Y) (N := 3) (v := .ref ka) hx hb hg i_Y hown hK.va hI h_o rfl 0 (by decide) (hg _ q_45) (fun _ h9 => h9) rfl d_Y_makeRoom_5 ?_
  refine mp_alen (v := nI cap) hx hb hK.va hI 0 h_ka rfl rfl d_Y_makeRoom_8 ?_
  refine lv_icmp_ne (tgt := 46) hx hb d_Y_makeRoom_9 (by decide) (fun c1 => ?_) (fun c1 => ?_)
  · rw [nI_eq (by omega) (by omega)] at c1
    have hzc : z < cap := by omega
    refine lv_aload_n hx hb d_Y_makeRoom_46 rfl (lv_at hl 0 rfl) ?_
    refine mp_get (C := R_Y) (T := F_Y) (N := 3) (v := .int (nI z)) hx hb hg i_Y hown hK.va hI h_o rfl 2 (by decide) (hg _ q_51) (fun _ h9 => h9) rfl d_Y_makeRoom_47 ?_
    refine lv_istore_n (lv' := [(2, .int (nI z)), (0, .ref o), (1, .int (nI sp))]) hx hb d_Y_makeRoom_50 rfl hl (by decide) rfl (fun ls hl => ?_)
    refine lp_Y_makeRoom (B := S) (o := o) (ka := ka) (na := na) (T := T) (cap := cap) (z := z) (sp := sp) (kf := kf) (nf := nf) hx hb hml hg hown hK (by omega) (by omega) (z - sp) S s.heap _ ls (by omega) h_o (by rw [show sp + (z - sp) = z by omega, shR_z]; exact h_ka) (by rw [show sp + (z - sp) = z by omega, shR_z]; exact h_na) (fun _ _ _ _ _ => rfl) hI (by rw [show sp + (z - sp) = z by omega]; exact lv_sub hl [0, 2, 1] rfl) (fun S9 H9 locs9 ls9 h_o h_ka h_na hf9 hI hl => ?_)
    have hfr : ∀ b, S b ≠ none → b ≠ o → b ≠ ka → b ≠ na → S9 b = S b := fun b h9 k0 k1 k2 => hf9 b h9 k0 k1 k2
    refine lv_aload_n hx hb d_Y_makeRoom_90 rfl (lv_at hl 0 rfl) ?_
    refine lv_dup hx hb d_Y_makeRoom_91 rfl ?_
    refine mp_get (C := R_Y) (T := F_Y) (N := 3) (v := .int (nI z)) hx hb hg i_Y hown hK.va hI h_o rfl 2 (by decide) (hg _ q_51) (fun _ h9 => h9) rfl d_Y_makeRoom_92 ?_
    refine lv_iconst (v := nI 1) hx hb d_Y_makeRoom_95 (by decide) ?_
    refine lv_iadd hx hb d_Y_makeRoom_96 ?_
    refine lv_topi (fun v1 ev1 => ?_)
    obtain rfl : v1 = nI (z + 1) := ev1.trans (nI_add _ _)
    refine mp_put (C := R_Y) (T := F_Y) (N := 3) (v := .int (nI (z + 1))) (ty := .int) hx hb hg i_Y t_Y t_Y_ok n_Y hown hK.va hI h_o rfl 2 (by decide) (hg _ q_51) (fun _ h9 => h9) rfl (by decide +kernel) (rfl) rfl (Nat.le_of_ble_eq_true rfl) d_Y_makeRoom_97 (fun S2 H3 locs e_4 hI => ?_)
    have e_4 : S2 = va_up S9 o (some (T, .inr (3, [.ref ka, .ref na, .int (nI (z + 1))]))) := e_4
    have h_ka : S2 ka = some ((T + 1), .inl ((g 0), cap, .inl (shR kf sp z))) := by rw [e_4]; exact mp_keep h_ka h_o (by omega)
    have h_na : S2 na = some ((T + 2), .inl ((g 0), cap, .inl (shR nf sp z))) := by rw [e_4]; exact mp_keep h_na h_o (by omega)
    have h_o : S2 o = some (T, .inr (3, [.ref ka, .ref na, .int (nI (z + 1))])) := by rw [e_4]; exact mp_us _ _ _
    have hfr : ∀ b, S b ≠ none → b ≠ o → b ≠ ka → b ≠ na → S2 b = S b := fun b h9 k0 k1 k2 => by rw [e_4]; exact (mp_un k0).trans (hfr b h9 k0 k1 k2)
    refine mp_vret hx hb hr hlocks hI (Nat.le_of_ble_eq_true rfl) (Nat.le_of_ble_eq_true rfl) ?_ d_Y_makeRoom_100
    exact ⟨ka, na, cap, _, _, h_o, h_ka, h_na, by omega, by omega, by omega, fun j h1 h2 => (shR_lo h1).trans (rfl), fun j h1 h2 => (shR_hi h1 h2).trans (rfl), fun j h1 h2 => (shR_lo h1).trans (rfl), fun j h1 h2 => (shR_hi h1 h2).trans (rfl), hfr, fun b _ _ k1 k2 => ⟨k1, k2⟩⟩
  · rw [nI_eq (by omega) (by omega)] at c1
    have hzc : z = cap := by omega
    refine lv_aload_n hx hb d_Y_makeRoom_12 rfl (lv_at hl 0 rfl) ?_
    refine lv_aload_n hx hb d_Y_makeRoom_13 rfl (lv_at hl 0 rfl) ?_
    refine mp_get (C := R_Y) (T := F_Y) (N := 3) (v := .ref ka) hx hb hg i_Y hown hK.va hI h_o rfl 0 (by decide) (hg _ q_45) (fun _ h9 => h9) rfl d_Y_makeRoom_14 ?_
    refine lv_iconst (v := nI 2) hx hb d_Y_makeRoom_17 (by decide) ?_
    refine lv_aload_n hx hb d_Y_makeRoom_18 rfl (lv_at hl 0 rfl) ?_
    refine mp_get (C := R_Y) (T := F_Y) (N := 3) (v := .int (nI z)) hx hb hg i_Y hown hK.va hI h_o rfl 2 (by decide) (hg _ q_51) (fun _ h9 => h9) rfl d_Y_makeRoom_19 ?_
    refine lv_imul hx hb d_Y_makeRoom_22 ?_
    refine lv_topi (fun v5 ev5 => ?_)
    obtain rfl : v5 = nI (2 * z) := ev5.trans (pk_mul _ _)
    refine mp_callr hI (va_runS (As := [.ref ka, .int (nI (2 * z))]) (rest := [.ref o]) ⟨hx, hb, hml, hown, hg⟩ (c_A_copyOf l D g S _ ka (T + 1) cap (2 * z) (T + 1) kf h_ka (by omega) (by omega) (by omega)) ⟨(callB_of 2 hg (wd_goodG q_702) rfl rfl rfl (hg _ q_14) (hg _ q_700) (by decide +kernel) ⟨Nat.le_of_ble_eq_true rfl, Nat.le_of_ble_eq_true rfl⟩), hg _ q_701⟩ (mp_pre hI hK [.ref ka, .int (nI (2 * z))]) rfl rfl hl.1 rfl (lv_room (Nat.le_of_ble_eq_true rfl)) d_Y_makeRoom_23 ⟨Nat.le_of_ble_eq_true rfl, show _ ≤ 4096 by omega⟩) (fun r9 S6 H7 locs p_8 hI => ?_)
    obtain ⟨n_r9, h_r9, f_r9⟩ := p_8
    have nb_r9 : ∀ b, S b ≠ none → b ≠ o → b ≠ ka → b ≠ na → b ≠ r9 := fun b h9 k0 k1 k2 z9 => h9 ((hfr b h9 k0 k1 k2).symm.trans (by rw [z9]; exact n_r9))
    have h_o : S6 o = some (T, .inr (3, [.ref ka, .ref na, .int (nI z)])) := (f_r9 o (mp_in h_o)).trans h_o
    have h_ka : S6 ka = some ((T + 1), .inl ((g 0), cap, .inl kf)) := (f_r9 ka (mp_in h_ka)).trans h_ka
    have h_na : S6 na = some ((T + 2), .inl ((g 0), cap, .inl nf)) := (f_r9 na (mp_in h_na)).trans h_na
    have hfr : ∀ b, S b ≠ none → b ≠ o → b ≠ ka → b ≠ na → S6 b = S b := fun b h9 k0 k1 k2 => (f_r9 b (by rw [hfr b h9 k0 k1 k2]; exact h9)).trans (hfr b h9 k0 k1 k2)
    refine mp_put (C := R_Y) (T := F_Y) (N := 3) (v := .ref r9) (ty := .array .int) hx hb hg i_Y t_Y t_Y_ok n_Y hown hK.va hI h_o rfl 0 (by decide) (hg _ q_45) (fun _ h9 => h9) rfl (by decide +kernel) (rfl) rfl (Nat.le_of_ble_eq_true rfl) d_Y_makeRoom_26 (fun S10 H11 locs e_12 hI => ?_)
    have e_12 : S10 = va_up S6 o (some (T, .inr (3, [.ref r9, .ref na, .int (nI z)]))) := e_12
    have h_ka : S10 ka = some ((T + 1), .inl ((g 0), cap, .inl kf)) := by rw [e_12]; exact mp_keep h_ka h_o (by omega)
    have h_na : S10 na = some ((T + 2), .inl ((g 0), cap, .inl nf)) := by rw [e_12]; exact mp_keep h_na h_o (by omega)
    have h_r9 : S10 r9 = some ((T + 1), .inl ((g 0), (2 * z), .inl (va_cpy kf (fun _ => 0) 0 0 cap))) := by rw [e_12]; exact mp_keep h_r9 h_o (by omega)
    have h_o : S10 o = some (T, .inr (3, [.ref r9, .ref na, .int (nI z)])) := by rw [e_12]; exact mp_us _ _ _
    have hfr : ∀ b, S b ≠ none → b ≠ o → b ≠ ka → b ≠ na → S10 b = S b := fun b h9 k0 k1 k2 => by rw [e_12]; exact (mp_un k0).trans (hfr b h9 k0 k1 k2)
    refine lv_aload_n hx hb d_Y_makeRoom_29 rfl (lv_at hl 0 rfl) ?_
    refine lv_aload_n hx hb d_Y_makeRoom_30 rfl (lv_at hl 0 rfl) ?_
    refine mp_get (C := R_Y) (T := F_Y) (N := 3) (v := .ref na) hx hb hg i_Y hown hK.va hI h_o rfl 1 (by decide) (hg _ q_48) (fun _ h9 => h9) rfl d_Y_makeRoom_31 ?_
    refine lv_iconst (v := nI 2) hx hb d_Y_makeRoom_34 (by decide) ?_
    refine lv_aload_n hx hb d_Y_makeRoom_35 rfl (lv_at hl 0 rfl) ?_
    refine mp_get (C := R_Y) (T := F_Y) (N := 3) (v := .int (nI z)) hx hb hg i_Y hown hK.va hI h_o rfl 2 (by decide) (hg _ q_51) (fun _ h9 => h9) rfl d_Y_makeRoom_36 ?_
    refine lv_imul hx hb d_Y_makeRoom_39 ?_
    refine lv_topi (fun v13 ev13 => ?_)
    obtain rfl : v13 = nI (2 * z) := ev13.trans (pk_mul _ _)
    refine mp_callr hI (va_runS (As := [.ref na, .int (nI (2 * z))]) (rest := [.ref o]) ⟨hx, hb, hml, hown, hg⟩ (c_A_copyOf l D g S10 _ na (T + 2) cap (2 * z) (T + 2) nf h_na (by omega) (by omega) (by omega)) ⟨(callB_of 2 hg (wd_goodG q_702) rfl rfl rfl (hg _ q_14) (hg _ q_700) (by decide +kernel) ⟨Nat.le_of_ble_eq_true rfl, Nat.le_of_ble_eq_true rfl⟩), hg _ q_701⟩ (mp_pre hI hK [.ref na, .int (nI (2 * z))]) rfl rfl hl.1 rfl (lv_room (Nat.le_of_ble_eq_true rfl)) d_Y_makeRoom_40 ⟨Nat.le_of_ble_eq_true rfl, show _ ≤ 4096 by omega⟩) (fun r17 S14 H15 locs p_16 hI => ?_)
    obtain ⟨n_r17, h_r17, f_r17⟩ := p_16
    have nb_r17 : ∀ b, S b ≠ none → b ≠ o → b ≠ ka → b ≠ na → b ≠ r17 := fun b h9 k0 k1 k2 z9 => h9 ((hfr b h9 k0 k1 k2).symm.trans (by rw [z9]; exact n_r17))
    have h_o : S14 o = some (T, .inr (3, [.ref r9, .ref na, .int (nI z)])) := (f_r17 o (mp_in h_o)).trans h_o
    have h_ka : S14 ka = some ((T + 1), .inl ((g 0), cap, .inl kf)) := (f_r17 ka (mp_in h_ka)).trans h_ka
    have h_na : S14 na = some ((T + 2), .inl ((g 0), cap, .inl nf)) := (f_r17 na (mp_in h_na)).trans h_na
    have h_r9 : S14 r9 = some ((T + 1), .inl ((g 0), (2 * z), .inl (va_cpy kf (fun _ => 0) 0 0 cap))) := (f_r17 r9 (mp_in h_r9)).trans h_r9
    have hfr : ∀ b, S b ≠ none → b ≠ o → b ≠ ka → b ≠ na → S14 b = S b := fun b h9 k0 k1 k2 => (f_r17 b (by rw [hfr b h9 k0 k1 k2]; exact h9)).trans (hfr b h9 k0 k1 k2)
    refine mp_put (C := R_Y) (T := F_Y) (N := 3) (v := .ref r17) (ty := .array .int) hx hb hg i_Y t_Y t_Y_ok n_Y hown hK.va hI h_o rfl 1 (by decide) (hg _ q_48) (fun _ h9 => h9) rfl (by decide +kernel) (rfl) rfl (Nat.le_of_ble_eq_true rfl) d_Y_makeRoom_43 (fun S18 H19 locs e_20 hI => ?_)
    have e_20 : S18 = va_up S14 o (some (T, .inr (3, [.ref r9, .ref r17, .int (nI z)]))) := e_20
    have h_ka : S18 ka = some ((T + 1), .inl ((g 0), cap, .inl kf)) := by rw [e_20]; exact mp_keep h_ka h_o (by omega)
    have h_na : S18 na = some ((T + 2), .inl ((g 0), cap, .inl nf)) := by rw [e_20]; exact mp_keep h_na h_o (by omega)
    have h_r9 : S18 r9 = some ((T + 1), .inl ((g 0), (2 * z), .inl (va_cpy kf (fun _ => 0) 0 0 cap))) := by rw [e_20]; exact mp_keep h_r9 h_o (by omega)
    have h_r17 : S18 r17 = some ((T + 2), .inl ((g 0), (2 * z), .inl (va_cpy nf (fun _ => 0) 0 0 cap))) := by rw [e_20]; exact mp_keep h_r17 h_o (by omega)
    have h_o : S18 o = some (T, .inr (3, [.ref r9, .ref r17, .int (nI z)])) := by rw [e_20]; exact mp_us _ _ _
    have hfr : ∀ b, S b ≠ none → b ≠ o → b ≠ ka → b ≠ na → S18 b = S b := fun b h9 k0 k1 k2 => by rw [e_20]; exact (mp_un k0).trans (hfr b h9 k0 k1 k2)
    refine lv_aload_n hx hb d_Y_makeRoom_46 rfl (lv_at hl 0 rfl) ?_
    refine mp_get (C := R_Y) (T := F_Y) (N := 3) (v := .int (nI z)) hx hb hg i_Y hown hK.va hI h_o rfl 2 (by decide) (hg _ q_51) (fun _ h9 => h9) rfl d_Y_makeRoom_47 ?_
    refine lv_istore_n (lv' := [(2, .int (nI z)), (0, .ref o), (1, .int (nI sp))]) hx hb d_Y_makeRoom_50 rfl hl (by decide) rfl (fun ls hl => ?_)
    refine lp_Y_makeRoom (B := S18) (o := o) (ka := r9) (na := r17) (T := T) (cap := (2 * z)) (z := z) (sp := sp) (kf := (va_cpy kf (fun _ => 0) 0 0 cap)) (nf := (va_cpy nf (fun _ => 0) 0 0 cap)) hx hb hml hg hown hK (by omega) (by omega) (z - sp) S18 H19 _ ls (by omega) h_o (by rw [show sp + (z - sp) = z by omega, shR_z]; exact h_r9) (by rw [show sp + (z - sp) = z by omega, shR_z]; exact h_r17) (fun _ _ _ _ _ => rfl) hI (by rw [show sp + (z - sp) = z by omega]; exact lv_sub hl [0, 2, 1] rfl) (fun S9 H9 locs9 ls9 h_o h_ka h_na hf9 hI hl => ?_)
    have hfr : ∀ b, S b ≠ none → b ≠ o → b ≠ ka → b ≠ na → S9 b = S b := fun b h9 k0 k1 k2 => (hf9 b (by rw [hfr b h9 k0 k1 k2]; exact h9) k0 (nb_r9 b h9 k0 k1 k2) (nb_r17 b h9 k0 k1 k2)).trans (hfr b h9 k0 k1 k2)
    refine lv_aload_n hx hb d_Y_makeRoom_90 rfl (lv_at hl 0 rfl) ?_
    refine lv_dup hx hb d_Y_makeRoom_91 rfl ?_
    refine mp_get (C := R_Y) (T := F_Y) (N := 3) (v := .int (nI z)) hx hb hg i_Y hown hK.va hI h_o rfl 2 (by decide) (hg _ q_51) (fun _ h9 => h9) rfl d_Y_makeRoom_92 ?_
    refine lv_iconst (v := nI 1) hx hb d_Y_makeRoom_95 (by decide) ?_
    refine lv_iadd hx hb d_Y_makeRoom_96 ?_
    refine lv_topi (fun v21 ev21 => ?_)
    obtain rfl : v21 = nI (z + 1) := ev21.trans (nI_add _ _)
    refine mp_put (C := R_Y) (T := F_Y) (N := 3) (v := .int (nI (z + 1))) (ty := .int) hx hb hg i_Y t_Y t_Y_ok n_Y hown hK.va hI h_o rfl 2 (by decide) (hg _ q_51) (fun _ h9 => h9) rfl (by decide +kernel) (rfl) rfl (Nat.le_of_ble_eq_true rfl) d_Y_makeRoom_97 (fun S22 H23 locs e_24 hI => ?_)
    have e_24 : S22 = va_up S9 o (some (T, .inr (3, [.ref r9, .ref r17, .int (nI (z + 1))]))) := e_24
    have h_ka : S22 r9 = some ((T + 1), .inl ((g 0), (2 * z), .inl (shR (va_cpy kf (fun _ => 0) 0 0 cap) sp z))) := by rw [e_24]; exact mp_keep h_ka h_o (by omega)
    have h_na : S22 r17 = some ((T + 2), .inl ((g 0), (2 * z), .inl (shR (va_cpy nf (fun _ => 0) 0 0 cap) sp z))) := by rw [e_24]; exact mp_keep h_na h_o (by omega)
    have h_o : S22 o = some (T, .inr (3, [.ref r9, .ref r17, .int (nI (z + 1))])) := by rw [e_24]; exact mp_us _ _ _
    have hfr : ∀ b, S b ≠ none → b ≠ o → b ≠ ka → b ≠ na → S22 b = S b := fun b h9 k0 k1 k2 => by rw [e_24]; exact (mp_un k0).trans (hfr b h9 k0 k1 k2)
    refine mp_vret hx hb hr hlocks hI (Nat.le_of_ble_eq_true rfl) (show _ ≤ 4096 by omega) ?_ d_Y_makeRoom_100
    exact ⟨r9, r17, (2 * z), _, _, h_o, h_ka, h_na, by omega, by omega, by omega, fun j h1 h2 => (shR_lo h1).trans (cpy_at (by omega)), fun j h1 h2 => (shR_hi h1 h2).trans (cpy_at (by omega)), fun j h1 h2 => (shR_lo h1).trans (cpy_at (by omega)), fun j h1 h2 => (shR_hi h1 h2).trans (cpy_at (by omega)), hfr, fun b h9 k0 k1 k2 => ⟨nb_r9 b h9 k0 k1 k2, nb_r17 b h9 k0 k1 k2⟩⟩
set_option maxHeartbeats 4000000 in
set_option maxRecDepth 100000 in
theorem lp_Y_closeUp {p : Program} {l : Launch} {e : Env} {R : Room} {s : State} {m : MethodId} {args : Array Value} {below : List Frame} {meth : Method} {c : Code} {Q : State → Prop} {D : mp_G} {g : Nat → ClassId} {A : Nat → Prop} {cells slots : Nat} (hx : p.tables.exec = Jvm.exec) (hb : c.code = b_Y_closeUp) (hml : c.maxLocals = 3) (hg : ∀ w ∈ gw, w.before args s = true) (hown : s.vm.findClass R_Y = some m.cls) (hK : mp_K D classes (tys g) s) (hRf : 0 ≤ R.frames) (hRl : 0 ≤ R.locals) (hRc : cells ≤ R.cells) (hRs : slots ≤ R.slots) {B : mp_M} {o ka na T cap z sp : Nat} {kf nf : Nat → Int32} (hz : z < cap) (hcap : cap ≤ 2048) : ∀ (k i : Nat) (S : mp_M) (H : Heap) (locs : List Loc) (ls : Array Slot), i + k = z → (sp ≤ i) → S o = some (T, .inr (3, [.ref ka, .ref na, .int (nI z)])) → S ka = some ((T + 1), .inl ((g 0), cap, .inl (shL kf sp i))) → S na = some ((T + 2), .inl ((g 0), cap, .inl (shL nf sp i))) → (∀ b, B b ≠ none → b ≠ o → b ≠ ka → b ≠ na → S b = B b) → mp_I D classes A s.heap S H locs → lv_has ls 3 [(2, .int (nI i)), (1, .int (nI sp)), (0, .ref o)] → (∀ (S : mp_M) (H : Heap) (locs : List Loc) (ls : Array Slot), (sp ≤ z) → S o = some (T, .inr (3, [.ref ka, .ref na, .int (nI z)])) → S ka = some ((T + 1), .inl ((g 0), cap, .inl (shL kf sp z))) → S na = some ((T + 2), .inl ((g 0), cap, .inl (shL nf sp z))) → (∀ b, B b ≠ none → b ≠ o → b ≠ ka → b ≠ na → S b = B b) → mp_I D classes A s.heap S H locs → lv_has ls 3 [(2, .int (nI z)), (1, .int (nI sp)), (0, .ref o)] → W p l e R s m args below meth c H locs cells slots Q (F0 m 54 ls [])) → W p l e R s m args below meth c H locs cells slots Q (F0 m 12 ls []) := by
  intro k
  induction k with
  | zero =>
    intro i S H locs ls hi hsi h_o h_ka h_na hfr hI hl kx
    obtain rfl : i = z := by omega
    refine lv_iload_n hx hb d_Y_closeUp_12 rfl (lv_at hl 0 rfl) ?_
    refine lv_aload_n hx hb d_Y_closeUp_13 rfl (lv_at hl 2 rfl) ?_
    refine mp_get (C := R_Y) (T := F_Y) (N := 3) (v := .int (nI i)) hx hb hg i_Y hown hK.va hI h_o rfl 2 (by decide) (hg _ q_51) (fun _ h9 => h9) rfl d_Y_closeUp_14 ?_
    refine lv_icmp_ge (tgt := 54) hx hb d_Y_closeUp_17 (by decide) (fun _ => ?_) (fun h9 => absurd ((nI_leI (by omega) (by omega)).mpr (by omega)) h9)
    exact kx S H locs ls hsi h_o h_ka h_na hfr hI hl
  | succ k ih =>
    intro i S H locs ls hi hsi h_o h_ka h_na hfr hI hl kx
    refine lv_iload_n hx hb d_Y_closeUp_12 rfl (lv_at hl 0 rfl) ?_
    refine lv_aload_n hx hb d_Y_closeUp_13 rfl (lv_at hl 2 rfl) ?_
    refine mp_get (C := R_Y) (T := F_Y) (N := 3) (v := .int (nI z)) hx hb hg i_Y hown hK.va hI h_o rfl 2 (by decide) (hg _ q_51) (fun _ h9 => h9) rfl d_Y_closeUp_14 ?_
    refine lv_icmp_ge (tgt := 54) hx hb d_Y_closeUp_17 (by decide) (fun h9 => absurd h9 (by rw [nI_leI (by omega) (by omega)]; omega)) (fun _ => ?_)
    refine lv_aload_n hx hb d_Y_closeUp_20 rfl (lv_at hl 2 rfl) ?_
    refine mp_get (C := R_Y) (T := F_Y) (N := 3) (v := .ref ka) hx hb hg i_Y hown hK.va hI h_o rfl 0 (by decide) (hg _ q_45) (fun _ h9 => h9) rfl d_Y_closeUp_21 ?_
    refine lv_iload_n hx hb d_Y_closeUp_24 rfl (lv_at hl 0 rfl) ?_
    refine lv_aload_n hx hb d_Y_closeUp_25 rfl (lv_at hl 2 rfl) ?_
    refine mp_get (C := R_Y) (T := F_Y) (N := 3) (v := .ref ka) hx hb hg i_Y hown hK.va hI h_o rfl 0 (by decide) (hg _ q_45) (fun _ h9 => h9) rfl d_Y_closeUp_26 ?_
    refine lv_iload_n hx hb d_Y_closeUp_29 rfl (lv_at hl 0 rfl) ?_
    refine lv_iconst (v := nI 1) hx hb d_Y_closeUp_30 (by decide) ?_
    refine lv_iadd hx hb d_Y_closeUp_31 ?_
    refine lv_topi (fun v1 ev1 => ?_)
    obtain rfl : v1 = nI (i + 1) := ev1.trans (nI_add _ _)
    refine mp_iald hx hb hK.va hI 0 h_ka rfl (vp_in_nI (show i + 1 < cap by omega) (by omega)) d_Y_closeUp_32 ?_
    refine lv_topi (fun v2 ev2 => ?_)
    obtain rfl : v2 = kf (i + 1) := ev2.trans (by rw [nI_clamp (by omega)]; exact shL_at kf sp i)
    refine mp_iast hx hb hK.va hI 0 h_ka rfl (vp_in_nI (show i < cap by omega) (by omega)) d_Y_closeUp_33 (fun S3 H4 locs e_5 hI => ?_)
    have e_5 : S3 = va_up S ka (some ((T + 1), .inl ((g 0), cap, .inl (upd (shL kf sp i) (nI i).toNatClampNeg (kf (i + 1)))))) := e_5
    have h_o : S3 o = some (T, .inr (3, [.ref ka, .ref na, .int (nI z)])) := by rw [e_5]; exact mp_keep h_o h_ka (by omega)
    have h_na : S3 na = some ((T + 2), .inl ((g 0), cap, .inl (shL nf sp i))) := by rw [e_5]; exact mp_keep h_na h_ka (by omega)
    have h_ka : S3 ka = some ((T + 1), .inl ((g 0), cap, .inl (upd (shL kf sp i) (nI i).toNatClampNeg (kf (i + 1))))) := by rw [e_5]; exact mp_us _ _ _
    have hfr : ∀ b, B b ≠ none → b ≠ o → b ≠ ka → b ≠ na → S3 b = B b := fun b h9 k0 k1 k2 => by rw [e_5]; exact (mp_un k1).trans (hfr b h9 k0 k1 k2)
    rw [nI_clamp (by omega), shL_up hsi] at h_ka
    refine lv_aload_n hx hb d_Y_closeUp_34 rfl (lv_at hl 2 rfl) ?_
    refine mp_get (C := R_Y) (T := F_Y) (N := 3) (v := .ref na) hx hb hg i_Y hown hK.va hI h_o rfl 1 (by decide) (hg _ q_48) (fun _ h9 => h9) rfl d_Y_closeUp_35 ?_
    refine lv_iload_n hx hb d_Y_closeUp_38 rfl (lv_at hl 0 rfl) ?_
    refine lv_aload_n hx hb d_Y_closeUp_39 rfl (lv_at hl 2 rfl) ?_
    refine mp_get (C := R_Y) (T := F_Y) (N := 3) (v := .ref na) hx hb hg i_Y hown hK.va hI h_o rfl 1 (by decide) (hg _ q_48) (fun _ h9 => h9) rfl d_Y_closeUp_40 ?_
    refine lv_iload_n hx hb d_Y_closeUp_43 rfl (lv_at hl 0 rfl) ?_
    refine lv_iconst (v := nI 1) hx hb d_Y_closeUp_44 (by decide) ?_
    refine lv_iadd hx hb d_Y_closeUp_45 ?_
    refine lv_topi (fun v6 ev6 => ?_)
    obtain rfl : v6 = nI (i + 1) := ev6.trans (nI_add _ _)
    refine mp_iald hx hb hK.va hI 0 h_na rfl (vp_in_nI (show i + 1 < cap by omega) (by omega)) d_Y_closeUp_46 ?_
    refine lv_topi (fun v7 ev7 => ?_)
    obtain rfl : v7 = nf (i + 1) := ev7.trans (by rw [nI_clamp (by omega)]; exact shL_at nf sp i)
    refine mp_iast hx hb hK.va hI 0 h_na rfl (vp_in_nI (show i < cap by omega) (by omega)) d_Y_closeUp_47 (fun S8 H9 locs e_10 hI => ?_)
    have e_10 : S8 = va_up S3 na (some ((T + 2), .inl ((g 0), cap, .inl (upd (shL nf sp i) (nI i).toNatClampNeg (nf (i + 1)))))) := e_10
    have h_o : S8 o = some (T, .inr (3, [.ref ka, .ref na, .int (nI z)])) := by rw [e_10]; exact mp_keep h_o h_na (by omega)
    have h_ka : S8 ka = some ((T + 1), .inl ((g 0), cap, .inl (shL kf sp (i + 1)))) := by rw [e_10]; exact mp_keep h_ka h_na (by omega)
    have h_na : S8 na = some ((T + 2), .inl ((g 0), cap, .inl (upd (shL nf sp i) (nI i).toNatClampNeg (nf (i + 1))))) := by rw [e_10]; exact mp_us _ _ _
    have hfr : ∀ b, B b ≠ none → b ≠ o → b ≠ ka → b ≠ na → S8 b = B b := fun b h9 k0 k1 k2 => by rw [e_10]; exact (mp_un k2).trans (hfr b h9 k0 k1 k2)
    rw [nI_clamp (by omega), shL_up hsi] at h_na
    refine lv_iinc (v := nI (i + 1)) (lv' := [(2, .int (nI (i + 1))), (1, .int (nI sp)), (0, .ref o)]) hx hb d_Y_closeUp_48 hl (k := 0) rfl (nI_1 _) (by decide) rfl (fun ls hl => ?_)
    refine lv_goto (tgt := 12) hx hb d_Y_closeUp_51 (by decide) ?_
    exact ih (i + 1) S8 H9 locs ls (by omega) (by omega) h_o h_ka h_na hfr hI (lv_sub hl [0, 1, 2] rfl) kx
set_option maxHeartbeats 4000000 in
set_option maxRecDepth 100000 in
/-- a spot closed -/
theorem c_Y_closeUp (l : Launch) (D : mp_G) (g : Nat → ClassId) (S : mp_M) (sz : Nat) (o ka na T cap z sp : Nat) (kf nf : Nat → Int32) (h_o : S o = some (T, .inr (3, [.ref ka, .ref na, .int (nI (z + 1))]))) (h_ka : S ka = some ((T + 1), .inl ((g 0), cap, .inl kf))) (h_na : S na = some ((T + 2), .inl ((g 0), cap, .inl nf))) (hz : z < cap) (hcap : cap ≤ 2048) (hsp : sp ≤ z) : Met l y_Y_closeUp w_Y_closeUp ({ frames := 0, cells := 0, slots := 0, locals := 0 }) (va_Pc [.ref o, .int (nI sp)] (mp_B0 D classes (tys g) S sz)) (va_Qv (fun (S1 : mp_M) => S1 o = some (T, .inr (3, [.ref ka, .ref na, .int (nI z)])) ∧ S1 ka = some ((T + 1), .inl ((g 0), cap, .inl (shL kf sp z))) ∧ S1 na = some ((T + 2), .inl ((g 0), cap, .inl (shL nf sp z))) ∧ (∀ b, S b ≠ none → b ≠ o → b ≠ ka → b ≠ na → S1 b = S b)) (mp_B1 D classes S sz) (mp_A S sz)) 0 0 (mp_A S sz) := by
  refine Met.ofW (cc := b_Y_closeUp) (maxL := 3) (ret := none) (by decide) rfl ?_
  intro p e s m args below meth c s₁ B hml hv
  obtain ⟨rfl, hsz, hH, hK⟩ := hv
  have hx := B.exec
  have hb := B.bytes
  have hr := B.returns
  have hts := atoms_spec (ws := w_Y_closeUp) B.pre
  have hg : ∀ w ∈ gw, w.before _ s = true := fun w h => hts w (List.mem_cons_of_mem _ h)
  have hown : s.vm.findClass R_Y = some m.cls := findClass_of_methodNamed B.named
  have hlocks := B.notSynchronized
  subst hsz
  have hI := mp_I.start hH
  have hl := lv_entry ([.ref o, .int (nI sp)]) (n := 3) (Nat.le_of_ble_eq_true rfl)
  rw [lg_entry_eq]
  generalize (lg_sl ([.ref o, .int (nI sp)]) ++ List.replicate (3 - (lg_sl ([.ref o, .int (nI sp)])).length) Slot.unset).toArray = ls at hl ⊢
  have hl : lv_has ls 3 [(0, .ref o), (1, .int (nI sp))] := hl
  have hfr : ∀ b, S b ≠ none → b ≠ o → b ≠ ka → b ≠ na → S b = S b := fun _ _ _ _ _ => rfl
  refine lv_aload_n hx hb d_Y_closeUp_0 rfl (lv_at hl 0 rfl) ?_
  refine lv_dup hx hb d_Y_closeUp_1 rfl ?_
  refine mp_get (C := R_Y) (T := F_Y) (N := 3) (v := .int (nI (z + 1))) hx hb hg i_Y hown hK.va hI h_o rfl 2 (by decide) (hg _ q_51) (fun _ h9 => h9) rfl d_Y_closeUp_2 ?_
  refine lv_iconst (v := nI 1) hx hb d_Y_closeUp_5 (by decide) ?_
  refine lv_isub hx hb d_Y_closeUp_6 ?_
  refine lv_topi (fun v1 ev1 => ?_)
  obtain rfl : v1 = nI ((z + 1) - 1) := ev1.trans (pk_sub (by omega))
  refine mp_put (C := R_Y) (T := F_Y) (N := 3) (v := .int (nI ((z + 1) - 1))) (ty := .int) hx hb hg i_Y t_Y t_Y_ok n_Y hown hK.va hI h_o rfl 2 (by decide) (hg _ q_51) (fun _ h9 => h9) rfl (by decide +kernel) (rfl) rfl (Nat.le_of_ble_eq_true rfl) d_Y_closeUp_7 (fun S2 H3 locs e_4 hI => ?_)
  have e_4 : S2 = va_up S o (some (T, .inr (3, [.ref ka, .ref na, .int (nI ((z + 1) - 1))]))) := e_4
  have h_ka : S2 ka = some ((T + 1), .inl ((g 0), cap, .inl kf)) := by rw [e_4]; exact mp_keep h_ka h_o (by omega)
  have h_na : S2 na = some ((T + 2), .inl ((g 0), cap, .inl nf)) := by rw [e_4]; exact mp_keep h_na h_o (by omega)
  have h_o : S2 o = some (T, .inr (3, [.ref ka, .ref na, .int (nI ((z + 1) - 1))])) := by rw [e_4]; exact mp_us _ _ _
  have hfr : ∀ b, S b ≠ none → b ≠ o → b ≠ ka → b ≠ na → S2 b = S b := fun b h9 k0 k1 k2 => by rw [e_4]; exact (mp_un k0).trans (hfr b h9 k0 k1 k2)
  refine lv_iload_n hx hb d_Y_closeUp_10 rfl (lv_at hl 1 rfl) ?_
  refine lv_istore_n (lv' := [(2, .int (nI sp)), (0, .ref o), (1, .int (nI sp))]) hx hb d_Y_closeUp_11 rfl hl (by decide) rfl (fun ls hl => ?_)
  have h_o : S2 o = some (T, .inr (3, [.ref ka, .ref na, .int (nI z)])) := h_o
  refine lp_Y_closeUp (B := S) (o := o) (ka := ka) (na := na) (T := T) (cap := cap) (z := z) (sp := sp) (kf := kf) (nf := nf) hx hb hml hg hown hK (Nat.le_of_ble_eq_true rfl) (Nat.le_of_ble_eq_true rfl) (Nat.le_of_ble_eq_true rfl) (Nat.le_of_ble_eq_true rfl) hz hcap (z - sp) sp S2 H3 _ ls (by omega) (Nat.le_refl _) h_o (by rw [shL_0]; exact h_ka) (by rw [shL_0]; exact h_na) hfr hI (lv_sub hl [0, 2, 1] rfl) (fun S9 H9 locs9 ls9 _ h_o h_ka h_na hfr hI hl => ?_)
  refine mp_vret hx hb hr hlocks hI (Nat.le_of_ble_eq_true rfl) (Nat.le_of_ble_eq_true rfl) ?_ d_Y_closeUp_54
  exact ⟨h_o, h_ka, h_na, hfr⟩
