theorem and15 (x : Int32) : ∃ v, v < 16 ∧ x &&& nI 15 = nI v := by
  refine ⟨(x &&& nI 15).toBitVec.toNat, ?_, ?_⟩
  · have h : (x &&& nI 15).toBitVec.toNat = x.toBitVec.toNat &&& 15 := by
      rw [Int32.toBitVec_and, BitVec.toNat_and]; rfl
    rw [h]; exact Nat.lt_of_le_of_lt Nat.and_le_right (by decide)
  · apply Int32.toBitVec_inj.mp
    apply BitVec.eq_of_toNat_eq
    rw [show (nI (x &&& nI 15).toBitVec.toNat).toBitVec = BitVec.ofNat 32 (x &&& nI 15).toBitVec.toNat from rfl, BitVec.toNat_ofNat]
    exact (Nat.mod_eq_of_lt (BitVec.isLt _)).symm
/-- the classes and array classes at the law's start -/
theorem lw_mpK {s : State} {args : Array Value} (hts : ∀ w ∈ lw_tbl, w.before args s = true) (hgv : (Jvm.Cond.and given_1 narrow_1).before args s = true) : ∃ (D0 : va_G) (g : Nat → ClassId), mp_K (D0, s, args) classes (tys g) s := by
  have hg : ∀ w ∈ gw, w.before args s = true := fun w h => hts w (gw_in h)
  obtain ⟨c0, i0, k0⟩ := u_known (C := R_B) (T := F_B) (N := 10) (n := 10) hg i_B (hg _ q_24)
  obtain ⟨c1, i1, k1⟩ := u_known (C := R_O) (T := F_O) (N := 2) (n := 2) hg i_O (hg _ q_131)
  obtain ⟨c2, i2, k2⟩ := u_known (C := R_P) (T := F_P) (N := 2) (n := 2) hg i_P (hg _ q_162)
  obtain ⟨c3, i3, k3⟩ := u_known (C := R_Y) (T := F_Y) (N := 3) (n := 3) hg i_Y (hg _ q_40)
  obtain ⟨c4, i4, k4⟩ := u_known (C := R_Q) (T := F_Q) (N := 12) (n := 12) hg i_Q (hg _ q_193)
  obtain ⟨c5, i5, k5⟩ := u_known (C := R_D) (T := F_D) (N := 2) (n := 2) hg i_D (hg _ q_176)
  obtain ⟨c6, i6, k6⟩ := u_known (C := R_Z) (T := F_Z) (N := 4) (n := 4) hg i_Z (hg _ q_124)
  obtain ⟨c7, i7, k7⟩ := u_known (C := R_V) (T := F_V) (N := 11) (n := 11) hg i_V (hg _ q_118)
  obtain ⟨c8, i8, k8⟩ := u_known (C := R_N) (T := F_N) (N := 3) (n := 3) hg i_N (hg _ q_200)
  obtain ⟨c9, i9, k9⟩ := u_known (C := R_K) (T := F_K) (N := 3) (n := 3) hg i_K (hg _ q_34)
  obtain ⟨c10, i10, k10⟩ := u_known (C := R_M) (T := F_M) (N := 31) (n := 31) hg i_M (hg _ q_798)
  obtain ⟨a0, ka0, cm0, f0, g0, j0⟩ := Cond.arrayClass_spec (hg _ q_60)
  obtain ⟨a4, ka4, cm4, f4, g4, j4⟩ := Cond.arrayClass_spec (hg _ q_1108)
  obtain ⟨a5, ka5, cm5, f5, g5, j5⟩ := Cond.arrayClass_spec (hg _ q_898)
  obtain ⟨cm1, a1, ka1, -, g1, j1, f1⟩ := Cond.arrayOver_specA (hts _ q_160)
  obtain ⟨cm2, a2, ka2, h2, -, g2, j2, f2⟩ := Cond.arrayOver_spec (hts _ q_32)
  obtain ⟨cm3, a3, ka3, h3, -, g3, j3, f3⟩ := Cond.arrayOver_spec (hts _ q_130)
  refine ⟨(fun k => match k with | 0 => c0 | 1 => c1 | 2 => c2 | 3 => c3 | 4 => c4 | 5 => c5 | 6 => c6 | 7 => c7 | 8 => c8 | 9 => c9 | _ => c10, fun k => match k with | 0 => i0 | 1 => i1 | 2 => i2 | 3 => i3 | 4 => i4 | 5 => i5 | 6 => i6 | 7 => i7 | 8 => i8 | 9 => i9 | _ => i10), fun k => match k with | 0 => a0 | 1 => a1 | 2 => a2 | 3 => a3 | 4 => a4 | _ => a5, ⟨⟨⟨?_, ?_⟩, hts, hgv⟩, State.WarmedH.refl s⟩⟩
  · intro k q hq
    match k, hq with
    | 0, hq => cases hq; exact k0
    | 1, hq => cases hq; exact k1
    | 2, hq => cases hq; exact k2
    | 3, hq => cases hq; exact k3
    | 4, hq => cases hq; exact k4
    | 5, hq => cases hq; exact k5
    | 6, hq => cases hq; exact k6
    | 7, hq => cases hq; exact k7
    | 8, hq => cases hq; exact k8
    | 9, hq => cases hq; exact k9
    | 10, hq => cases hq; exact k10
    | k + 11, hq => simp [classes] at hq
  · intro k q hq
    match k, hq with
    | 0, hq => cases hq; exact ⟨fun n z => ⟨fun k h => (by cases h), ka0, g0, cm0, j0⟩, f0⟩
    | 1, hq => cases hq; exact ⟨fun n z => ⟨fun k h => (by cases h), ka1, g1, cm1, j1⟩, f1⟩
    | 2, hq => cases hq; exact ⟨fun n z => ⟨fun k h => (by cases h), ka2, g2, cm2, j2⟩, ⟨ka2, cm2, g2, j2, h2, f2⟩⟩
    | 3, hq => cases hq; exact ⟨fun n z => ⟨fun k h => (by cases h), ka3, g3, cm3, j3⟩, ⟨ka3, cm3, g3, j3, h3, f3⟩⟩
    | 4, hq => cases hq; exact ⟨fun n z => ⟨fun k h => (by cases h), ka4, g4, cm4, j4⟩, f4⟩
    | 5, hq => cases hq; exact ⟨fun n z => ⟨fun k h => (by cases h), ka5, g5, cm5, j5⟩, f5⟩
    | k + 6, hq => simp [tys] at hq
