section
variable {p : Program} {l : Launch} {e : Env} {R : Room} {s : State} {m : MethodId} {args : Array Value} {below : List Frame} {meth : Method} {c : Code} {H H0 : Heap} {locs : List Loc} {cells slots : Nat} {Q : State → Prop} {pc : Nat} {ls : Array Slot} {rest : List Value} {cc : ByteArray} {D : mp_G} {cl : List vw_C} {tys : List (ClassId × FieldType)} {S : mp_M} {A : Nat → Prop} {a t : Nat}
theorem mp_zald (hexec : p.tables.exec = Jvm.exec) (hb : c.code = cc) (hK : va_K D.1 cl tys s) (hI : mp_I D cl A H0 S H locs) (t0 : Nat) {cA : ClassId} {n : Nat} {f : Nat → Int32} (ha : S a = some (t, .inl (cA, n, .inl f))) (ht : tys[t0]? = some (cA, .boolean)) {i : Int32} (hin : vp_in i n) (hdg : decode cc pc = .ok (.baload, 1))
    (kk : W p l e R s m args below meth c H locs cells slots Q (F0 m (pc + 1) ls (.int (f i.toNatClampNeg) :: rest))) : W p l e R s m args below meth c H locs cells slots Q (F0 m pc ls (.int i :: .ref a :: rest)) :=
  va_zald hexec hb hK (hI.1.one ha) 0 t0 rfl ht hin hdg kk
theorem mp_zast (hexec : p.tables.exec = Jvm.exec) (hb : c.code = cc) (hK : va_K D.1 cl tys s) (hI : mp_I D cl A H0 S H locs) (t0 : Nat) {cA : ClassId} {n : Nat} {f : Nat → Int32} (ha : S a = some (t, .inl (cA, n, .inl f))) (ht : tys[t0]? = some (cA, .boolean)) {i x : Int32} (hin : vp_in i n) (hdg : decode cc pc = .ok (.bastore, 1))
    (kk : ∀ (S1 : mp_M) (H1 : Heap) (locs1 : List Loc), S1 = va_up S a (some (t, .inl (cA, n, .inl (upd f i.toNatClampNeg (vp_nar .boolean x))))) → mp_I D cl A H0 S1 H1 locs1 → W p l e R s m args below meth c H1 locs1 cells slots Q (F0 m (pc + 1) ls rest)) : W p l e R s m args below meth c H locs cells slots Q (F0 m pc ls (.int x :: .int i :: .ref a :: rest)) := by
  refine W.zast hexec hb (hI.1.1 a t _ ha) ((hK.2 t0 _ ht).1 n (fun j => .int (f j))) (fun q => by cases q) (by show ¬ (i < 0 ∨ (arrV _ _ _).slots.size ≤ _); rw [arrV_size]; exact hin) rfl rfl hdg fun H1 e z oq => ?_
  refine kk _ H1 _ rfl (hI.put ha ?_ z oq)
  show H1[a]? = some (vp_cell _ _)
  rw [e]
  rw [vp_cell_i, vp_cell_i, arrV_store]
  congr 2
  funext q
  by_cases hq : q = i.toNatClampNeg
  · subst hq
    simp [updV, upd, vp_nar]
    try rfl
  · simp [updV, upd, hq]
theorem mp_newz (hexec : p.tables.exec = Jvm.exec) (hb : c.code = cc) (harr : (Cond.arrayClass (newarray.typeOf .boolean)).before args s = true) (hK : va_K D.1 cl tys s) (hI : mp_I D cl A H0 S H locs) (t0 tg : Nat) {cA : ClassId} (ht : tys[t0]? = some (cA, .boolean))
    {n : Int32} {N' : Nat} (hn : ¬ n < 0) (hN : n.toNatClampNeg = N') (hbytes : N' * componentBytes (newarray.typeOf .boolean) ≤ 536870912) (hcells : cells + 1 ≤ R.cells) (hslots : slots + N' ≤ R.slots) (hdg : decode cc pc = .ok (.newarray .boolean, 2))
    (kk : ∀ (S1 : mp_M) (H1 : Heap), S H.size = none → S1 = va_up S H.size (some (tg, .inl (cA, N', .inl (fun _ => 0)))) → mp_I D cl A H0 S1 H1 locs →
      W p l e R s m args below meth c H1 locs (cells + 1) (slots + N') Q (F0 m (pc + 2) ls (.ref H.size :: rest))) : W p l e R s m args below meth c H locs cells slots Q (F0 m pc ls (.int n :: rest)) := by
  refine va_newaK (atype := .boolean) hexec hb harr rfl hdg rfl hn hN hbytes hcells hslots rfl fun H1 cB e1 z1 o1 hAr hNm => ?_
  have hc : cB = cA := Option.some.inj (hNm.symm.trans (hK.2 t0 _ ht).2)
  subst hc
  exact kk _ H1 hI.fresh rfl (hI.push (by show H1[H.size]? = some (vp_cell _ _); rw [e1, vp_cell_i]; rfl) z1 o1)
end
theorem d_M_init_0 : decode b_M_init 0 = .ok (.aload_n 0, 1) := by decide +kernel
theorem d_M_init_1 : decode b_M_init 1 = .ok (.invokespecial 1, 3) := by decide +kernel
theorem d_M_init_4 : decode b_M_init 4 = .ok (.aload_n 0, 1) := by decide +kernel
theorem d_M_init_5 : decode b_M_init 5 = .ok (.ldc 7, 2) := by decide +kernel
theorem d_M_init_7 : decode b_M_init 7 = .ok (.newarray .int, 2) := by decide +kernel
theorem d_M_init_9 : decode b_M_init 9 = .ok (.putfield 8, 3) := by decide +kernel
theorem d_M_init_12 : decode b_M_init 12 = .ok (.aload_n 0, 1) := by decide +kernel
theorem d_M_init_13 : decode b_M_init 13 = .ok (.bipush 12, 2) := by decide +kernel
theorem d_M_init_15 : decode b_M_init 15 = .ok (.newarray .int, 2) := by decide +kernel
theorem d_M_init_17 : decode b_M_init 17 = .ok (.putfield 14, 3) := by decide +kernel
theorem d_M_init_20 : decode b_M_init 20 = .ok (.aload_n 0, 1) := by decide +kernel
theorem d_M_init_21 : decode b_M_init 21 = .ok (.sipush 12000, 3) := by decide +kernel
theorem d_M_init_24 : decode b_M_init 24 = .ok (.newarray .int, 2) := by decide +kernel
theorem d_M_init_26 : decode b_M_init 26 = .ok (.putfield 17, 3) := by decide +kernel
theorem d_M_init_29 : decode b_M_init 29 = .ok (.aload_n 0, 1) := by decide +kernel
theorem d_M_init_30 : decode b_M_init 30 = .ok (.sipush 12000, 3) := by decide +kernel
theorem d_M_init_33 : decode b_M_init 33 = .ok (.newarray .int, 2) := by decide +kernel
theorem d_M_init_35 : decode b_M_init 35 = .ok (.putfield 20, 3) := by decide +kernel
theorem d_M_init_38 : decode b_M_init 38 = .ok (.aload_n 0, 1) := by decide +kernel
theorem d_M_init_39 : decode b_M_init 39 = .ok (.bipush 12, 2) := by decide +kernel
theorem d_M_init_41 : decode b_M_init 41 = .ok (.newarray .int, 2) := by decide +kernel
theorem d_M_init_43 : decode b_M_init 43 = .ok (.putfield 23, 3) := by decide +kernel
theorem d_M_init_46 : decode b_M_init 46 = .ok (.aload_n 0, 1) := by decide +kernel
theorem d_M_init_47 : decode b_M_init 47 = .ok (.bipush 12, 2) := by decide +kernel
theorem d_M_init_49 : decode b_M_init 49 = .ok (.newarray .int, 2) := by decide +kernel
theorem d_M_init_51 : decode b_M_init 51 = .ok (.putfield 26, 3) := by decide +kernel
theorem d_M_init_54 : decode b_M_init 54 = .ok (.aload_n 0, 1) := by decide +kernel
theorem d_M_init_55 : decode b_M_init 55 = .ok (.sipush 21952, 3) := by decide +kernel
theorem d_M_init_58 : decode b_M_init 58 = .ok (.newarray .int, 2) := by decide +kernel
theorem d_M_init_60 : decode b_M_init 60 = .ok (.putfield 29, 3) := by decide +kernel
theorem d_M_init_63 : decode b_M_init 63 = .ok (.aload_n 0, 1) := by decide +kernel
theorem d_M_init_64 : decode b_M_init 64 = .ok (.bipush 17, 2) := by decide +kernel
theorem d_M_init_66 : decode b_M_init 66 = .ok (.newarray .int, 2) := by decide +kernel
theorem d_M_init_68 : decode b_M_init 68 = .ok (.putfield 32, 3) := by decide +kernel
theorem d_M_init_71 : decode b_M_init 71 = .ok (.aload_n 0, 1) := by decide +kernel
theorem d_M_init_72 : decode b_M_init 72 = .ok (.sipush 768, 3) := by decide +kernel
theorem d_M_init_75 : decode b_M_init 75 = .ok (.newarray .int, 2) := by decide +kernel
theorem d_M_init_77 : decode b_M_init 77 = .ok (.putfield 35, 3) := by decide +kernel
theorem d_M_init_80 : decode b_M_init 80 = .ok (.aload_n 0, 1) := by decide +kernel
theorem d_M_init_81 : decode b_M_init 81 = .ok (.iconst 3, 1) := by decide +kernel
theorem d_M_init_82 : decode b_M_init 82 = .ok (.newarray .int, 2) := by decide +kernel
theorem d_M_init_84 : decode b_M_init 84 = .ok (.putfield 38, 3) := by decide +kernel
theorem d_M_init_87 : decode b_M_init 87 = .ok (.aload_n 0, 1) := by decide +kernel
theorem d_M_init_88 : decode b_M_init 88 = .ok (.bipush 51, 2) := by decide +kernel
theorem d_M_init_90 : decode b_M_init 90 = .ok (.newarray .int, 2) := by decide +kernel
theorem d_M_init_92 : decode b_M_init 92 = .ok (.putfield 41, 3) := by decide +kernel
theorem d_M_init_95 : decode b_M_init 95 = .ok (.aload_n 0, 1) := by decide +kernel
theorem d_M_init_96 : decode b_M_init 96 = .ok (.iconst 3, 1) := by decide +kernel
theorem d_M_init_97 : decode b_M_init 97 = .ok (.newarray .int, 2) := by decide +kernel
theorem d_M_init_99 : decode b_M_init 99 = .ok (.putfield 44, 3) := by decide +kernel
theorem d_M_init_102 : decode b_M_init 102 = .ok (.aload_n 0, 1) := by decide +kernel
theorem d_M_init_103 : decode b_M_init 103 = .ok (.bipush 51, 2) := by decide +kernel
theorem d_M_init_105 : decode b_M_init 105 = .ok (.newarray .int, 2) := by decide +kernel
theorem d_M_init_107 : decode b_M_init 107 = .ok (.putfield 47, 3) := by decide +kernel
theorem d_M_init_110 : decode b_M_init 110 = .ok (.aload_n 0, 1) := by decide +kernel
theorem d_M_init_111 : decode b_M_init 111 = .ok (.bipush 51, 2) := by decide +kernel
theorem d_M_init_113 : decode b_M_init 113 = .ok (.newarray .int, 2) := by decide +kernel
theorem d_M_init_115 : decode b_M_init 115 = .ok (.putfield 50, 3) := by decide +kernel
theorem d_M_init_118 : decode b_M_init 118 = .ok (.aload_n 0, 1) := by decide +kernel
theorem d_M_init_119 : decode b_M_init 119 = .ok (.bipush 17, 2) := by decide +kernel
theorem d_M_init_121 : decode b_M_init 121 = .ok (.newarray .int, 2) := by decide +kernel
theorem d_M_init_123 : decode b_M_init 123 = .ok (.putfield 53, 3) := by decide +kernel
theorem d_M_init_126 : decode b_M_init 126 = .ok (.aload_n 0, 1) := by decide +kernel
theorem d_M_init_127 : decode b_M_init 127 = .ok (.iconst 3, 1) := by decide +kernel
theorem d_M_init_128 : decode b_M_init 128 = .ok (.newarray .boolean, 2) := by decide +kernel
theorem d_M_init_130 : decode b_M_init 130 = .ok (.putfield 56, 3) := by decide +kernel
theorem d_M_init_133 : decode b_M_init 133 = .ok (.aload_n 0, 1) := by decide +kernel
theorem d_M_init_134 : decode b_M_init 134 = .ok (.bipush 16, 2) := by decide +kernel
theorem d_M_init_136 : decode b_M_init 136 = .ok (.newarray .int, 2) := by decide +kernel
theorem d_M_init_138 : decode b_M_init 138 = .ok (.putfield 60, 3) := by decide +kernel
theorem d_M_init_141 : decode b_M_init 141 = .ok (.aload_n 0, 1) := by decide +kernel
theorem d_M_init_142 : decode b_M_init 142 = .ok (.bipush 16, 2) := by decide +kernel
theorem d_M_init_144 : decode b_M_init 144 = .ok (.newarray .int, 2) := by decide +kernel
theorem d_M_init_146 : decode b_M_init 146 = .ok (.putfield 63, 3) := by decide +kernel
theorem d_M_init_149 : decode b_M_init 149 = .ok (.aload_n 0, 1) := by decide +kernel
theorem d_M_init_150 : decode b_M_init 150 = .ok (.sipush 1700, 3) := by decide +kernel
theorem d_M_init_153 : decode b_M_init 153 = .ok (.newarray .int, 2) := by decide +kernel
theorem d_M_init_155 : decode b_M_init 155 = .ok (.putfield 66, 3) := by decide +kernel
theorem d_M_init_158 : decode b_M_init 158 = .ok (.aload_n 0, 1) := by decide +kernel
theorem d_M_init_159 : decode b_M_init 159 = .ok (.bipush 64, 2) := by decide +kernel
theorem d_M_init_161 : decode b_M_init 161 = .ok (.newarray .int, 2) := by decide +kernel
theorem d_M_init_163 : decode b_M_init 163 = .ok (.putfield 69, 3) := by decide +kernel
theorem d_M_init_166 : decode b_M_init 166 = .ok (.aload_n 0, 1) := by decide +kernel
theorem d_M_init_167 : decode b_M_init 167 = .ok (.sipush 256, 3) := by decide +kernel
theorem d_M_init_170 : decode b_M_init 170 = .ok (.newarray .int, 2) := by decide +kernel
theorem d_M_init_172 : decode b_M_init 172 = .ok (.putfield 72, 3) := by decide +kernel
theorem d_M_init_175 : decode b_M_init 175 = .ok (.aload_n 0, 1) := by decide +kernel
theorem d_M_init_176 : decode b_M_init 176 = .ok (.sipush 256, 3) := by decide +kernel
theorem d_M_init_179 : decode b_M_init 179 = .ok (.newarray .int, 2) := by decide +kernel
theorem d_M_init_181 : decode b_M_init 181 = .ok (.putfield 75, 3) := by decide +kernel
theorem d_M_init_184 : decode b_M_init 184 = .ok (.aload_n 0, 1) := by decide +kernel
theorem d_M_init_185 : decode b_M_init 185 = .ok (.iload_n 1, 1) := by decide +kernel
theorem d_M_init_186 : decode b_M_init 186 = .ok (.iconst 1, 1) := by decide +kernel
theorem d_M_init_187 : decode b_M_init 187 = .ok (.if_icmp .ge 7, 3) := by decide +kernel
theorem d_M_init_190 : decode b_M_init 190 = .ok (.iconst 1, 1) := by decide +kernel
theorem d_M_init_191 : decode b_M_init 191 = .ok (.goto 13, 3) := by decide +kernel
theorem d_M_init_194 : decode b_M_init 194 = .ok (.iload_n 1, 1) := by decide +kernel
theorem d_M_init_195 : decode b_M_init 195 = .ok (.iconst 3, 1) := by decide +kernel
theorem d_M_init_196 : decode b_M_init 196 = .ok (.if_icmp .le 7, 3) := by decide +kernel
theorem d_M_init_199 : decode b_M_init 199 = .ok (.iconst 3, 1) := by decide +kernel
theorem d_M_init_200 : decode b_M_init 200 = .ok (.goto 4, 3) := by decide +kernel
theorem d_M_init_203 : decode b_M_init 203 = .ok (.iload_n 1, 1) := by decide +kernel
theorem d_M_init_204 : decode b_M_init 204 = .ok (.putfield 78, 3) := by decide +kernel
theorem d_M_init_207 : decode b_M_init 207 = .ok (.return_, 1) := by decide +kernel
theorem d_M_inverse_0 : decode b_M_inverse 0 = .ok (.iconst 1, 1) := by decide +kernel
theorem d_M_inverse_1 : decode b_M_inverse 1 = .ok (.istore_n 1, 1) := by decide +kernel
theorem d_M_inverse_2 : decode b_M_inverse 2 = .ok (.iload_n 0, 1) := by decide +kernel
theorem d_M_inverse_3 : decode b_M_inverse 3 = .ok (.istore_n 2, 1) := by decide +kernel
theorem d_M_inverse_4 : decode b_M_inverse 4 = .ok (.sipush 32001, 3) := by decide +kernel
theorem d_M_inverse_7 : decode b_M_inverse 7 = .ok (.istore_n 3, 1) := by decide +kernel
theorem d_M_inverse_8 : decode b_M_inverse 8 = .ok (.iload_n 3, 1) := by decide +kernel
theorem d_M_inverse_9 : decode b_M_inverse 9 = .ok (.ifCond .le 29, 3) := by decide +kernel
theorem d_M_inverse_12 : decode b_M_inverse 12 = .ok (.iload_n 3, 1) := by decide +kernel
theorem d_M_inverse_13 : decode b_M_inverse 13 = .ok (.iconst 1, 1) := by decide +kernel
theorem d_M_inverse_14 : decode b_M_inverse 14 = .ok (.iand, 1) := by decide +kernel
theorem d_M_inverse_15 : decode b_M_inverse 15 = .ok (.iconst 1, 1) := by decide +kernel
theorem d_M_inverse_16 : decode b_M_inverse 16 = .ok (.if_icmp .ne 9, 3) := by decide +kernel
theorem d_M_inverse_19 : decode b_M_inverse 19 = .ok (.iload_n 1, 1) := by decide +kernel
theorem d_M_inverse_20 : decode b_M_inverse 20 = .ok (.iload_n 2, 1) := by decide +kernel
theorem d_M_inverse_21 : decode b_M_inverse 21 = .ok (.invokestatic 87, 3) := by decide +kernel
theorem d_M_inverse_24 : decode b_M_inverse 24 = .ok (.istore_n 1, 1) := by decide +kernel
theorem d_M_inverse_25 : decode b_M_inverse 25 = .ok (.iload_n 2, 1) := by decide +kernel
theorem d_M_inverse_26 : decode b_M_inverse 26 = .ok (.iload_n 2, 1) := by decide +kernel
theorem d_M_inverse_27 : decode b_M_inverse 27 = .ok (.invokestatic 87, 3) := by decide +kernel
theorem d_M_inverse_30 : decode b_M_inverse 30 = .ok (.istore_n 2, 1) := by decide +kernel
theorem d_M_inverse_31 : decode b_M_inverse 31 = .ok (.iload_n 3, 1) := by decide +kernel
theorem d_M_inverse_32 : decode b_M_inverse 32 = .ok (.iconst 1, 1) := by decide +kernel
theorem d_M_inverse_33 : decode b_M_inverse 33 = .ok (.ishr, 1) := by decide +kernel
theorem d_M_inverse_34 : decode b_M_inverse 34 = .ok (.istore_n 3, 1) := by decide +kernel
theorem d_M_inverse_35 : decode b_M_inverse 35 = .ok (.goto (-27), 3) := by decide +kernel
theorem d_M_inverse_38 : decode b_M_inverse 38 = .ok (.iload_n 1, 1) := by decide +kernel
theorem d_M_inverse_39 : decode b_M_inverse 39 = .ok (.ireturn, 1) := by decide +kernel
theorem d_M_isPoly_0 : decode b_M_isPoly 0 = .ok (.iload_n 0, 1) := by decide +kernel
theorem d_M_isPoly_1 : decode b_M_isPoly 1 = .ok (.ifCond .lt 13, 3) := by decide +kernel
theorem d_M_isPoly_4 : decode b_M_isPoly 4 = .ok (.iload_n 0, 1) := by decide +kernel
theorem d_M_isPoly_5 : decode b_M_isPoly 5 = .ok (.bipush 40, 2) := by decide +kernel
theorem d_M_isPoly_7 : decode b_M_isPoly 7 = .ok (.if_icmp .ge 7, 3) := by decide +kernel
theorem d_M_isPoly_10 : decode b_M_isPoly 10 = .ok (.iconst 1, 1) := by decide +kernel
theorem d_M_isPoly_11 : decode b_M_isPoly 11 = .ok (.goto 4, 3) := by decide +kernel
theorem d_M_isPoly_14 : decode b_M_isPoly 14 = .ok (.iconst 0, 1) := by decide +kernel
theorem d_M_isPoly_15 : decode b_M_isPoly 15 = .ok (.ireturn, 1) := by decide +kernel
theorem d_M_isPower_0 : decode b_M_isPower 0 = .ok (.iload_n 1, 1) := by decide +kernel
theorem d_M_isPower_1 : decode b_M_isPower 1 = .ok (.ifCond .lt 14, 3) := by decide +kernel
theorem d_M_isPower_4 : decode b_M_isPower 4 = .ok (.iload_n 1, 1) := by decide +kernel
theorem d_M_isPower_5 : decode b_M_isPower 5 = .ok (.iconst 4, 1) := by decide +kernel
theorem d_M_isPower_6 : decode b_M_isPower 6 = .ok (.aload_n 0, 1) := by decide +kernel
theorem d_M_isPower_7 : decode b_M_isPower 7 = .ok (.getfield 78, 3) := by decide +kernel
theorem d_M_isPower_10 : decode b_M_isPower 10 = .ok (.imul, 1) := by decide +kernel
theorem d_M_isPower_11 : decode b_M_isPower 11 = .ok (.ishr, 1) := by decide +kernel
theorem d_M_isPower_12 : decode b_M_isPower 12 = .ok (.ifCond .eq 5, 3) := by decide +kernel
theorem d_M_isPower_15 : decode b_M_isPower 15 = .ok (.iconst 0, 1) := by decide +kernel
theorem d_M_isPower_16 : decode b_M_isPower 16 = .ok (.ireturn, 1) := by decide +kernel
theorem d_M_isPower_17 : decode b_M_isPower 17 = .ok (.iconst 0, 1) := by decide +kernel
theorem d_M_isPower_18 : decode b_M_isPower 18 = .ok (.istore_n 2, 1) := by decide +kernel
theorem d_M_isPower_19 : decode b_M_isPower 19 = .ok (.iload_n 2, 1) := by decide +kernel
theorem d_M_isPower_20 : decode b_M_isPower 20 = .ok (.aload_n 0, 1) := by decide +kernel
theorem d_M_isPower_21 : decode b_M_isPower 21 = .ok (.getfield 78, 3) := by decide +kernel
theorem d_M_isPower_24 : decode b_M_isPower 24 = .ok (.if_icmp .ge 24, 3) := by decide +kernel
theorem d_M_isPower_27 : decode b_M_isPower 27 = .ok (.iload_n 1, 1) := by decide +kernel
theorem d_M_isPower_28 : decode b_M_isPower 28 = .ok (.iconst 4, 1) := by decide +kernel
theorem d_M_isPower_29 : decode b_M_isPower 29 = .ok (.iload_n 2, 1) := by decide +kernel
theorem d_M_isPower_30 : decode b_M_isPower 30 = .ok (.imul, 1) := by decide +kernel
theorem d_M_isPower_31 : decode b_M_isPower 31 = .ok (.ishr, 1) := by decide +kernel
theorem d_M_isPower_32 : decode b_M_isPower 32 = .ok (.bipush 15, 2) := by decide +kernel
theorem d_M_isPower_34 : decode b_M_isPower 34 = .ok (.iand, 1) := by decide +kernel
theorem d_M_isPower_35 : decode b_M_isPower 35 = .ok (.bipush 9, 2) := by decide +kernel
theorem d_M_isPower_37 : decode b_M_isPower 37 = .ok (.if_icmp .le 5, 3) := by decide +kernel
theorem d_M_isPower_40 : decode b_M_isPower 40 = .ok (.iconst 0, 1) := by decide +kernel
theorem d_M_isPower_41 : decode b_M_isPower 41 = .ok (.ireturn, 1) := by decide +kernel
theorem d_M_isPower_42 : decode b_M_isPower 42 = .ok (.iinc 2 1, 3) := by decide +kernel
theorem d_M_isPower_45 : decode b_M_isPower 45 = .ok (.goto (-26), 3) := by decide +kernel
theorem d_M_isPower_48 : decode b_M_isPower 48 = .ok (.iconst 1, 1) := by decide +kernel
theorem d_M_isPower_49 : decode b_M_isPower 49 = .ok (.ireturn, 1) := by decide +kernel
theorem d_M_placeOf_0 : decode b_M_placeOf 0 = .ok (.iload_n 0, 1) := by decide +kernel
theorem d_M_placeOf_1 : decode b_M_placeOf 1 = .ok (.bipush 15, 2) := by decide +kernel
theorem d_M_placeOf_3 : decode b_M_placeOf 3 = .ok (.iand, 1) := by decide +kernel
theorem d_M_placeOf_4 : decode b_M_placeOf 4 = .ok (.bipush 10, 2) := by decide +kernel
theorem d_M_placeOf_6 : decode b_M_placeOf 6 = .ok (.iload_n 0, 1) := by decide +kernel
theorem d_M_placeOf_7 : decode b_M_placeOf 7 = .ok (.iconst 4, 1) := by decide +kernel
theorem d_M_placeOf_8 : decode b_M_placeOf 8 = .ok (.ishr, 1) := by decide +kernel
theorem d_M_placeOf_9 : decode b_M_placeOf 9 = .ok (.bipush 15, 2) := by decide +kernel
theorem d_M_placeOf_11 : decode b_M_placeOf 11 = .ok (.iand, 1) := by decide +kernel
theorem d_M_placeOf_12 : decode b_M_placeOf 12 = .ok (.imul, 1) := by decide +kernel
theorem d_M_placeOf_13 : decode b_M_placeOf 13 = .ok (.iadd, 1) := by decide +kernel
theorem d_M_placeOf_14 : decode b_M_placeOf 14 = .ok (.bipush 100, 2) := by decide +kernel
theorem d_M_placeOf_16 : decode b_M_placeOf 16 = .ok (.iload_n 0, 1) := by decide +kernel
theorem d_M_placeOf_17 : decode b_M_placeOf 17 = .ok (.bipush 8, 2) := by decide +kernel
theorem d_M_placeOf_19 : decode b_M_placeOf 19 = .ok (.ishr, 1) := by decide +kernel
theorem d_M_placeOf_20 : decode b_M_placeOf 20 = .ok (.imul, 1) := by decide +kernel
theorem d_M_placeOf_21 : decode b_M_placeOf 21 = .ok (.iadd, 1) := by decide +kernel
theorem d_M_placeOf_22 : decode b_M_placeOf 22 = .ok (.ireturn, 1) := by decide +kernel
theorem d_M_thrown_0 : decode b_M_thrown 0 = .ok (.aload_n 0, 1) := by decide +kernel
theorem d_M_thrown_1 : decode b_M_thrown 1 = .ok (.getfield 82, 3) := by decide +kernel
theorem d_M_thrown_4 : decode b_M_thrown 4 = .ok (.ireturn, 1) := by decide +kernel
/-- the model: its object and arrays -/
def mW (g : Nat → ClassId) (o n : Nat) (ad : Nat → Nat) (gv tk th li kn ak sz ze : Int32) (f : Nat → Nat → Int32) (S : mp_M) : Prop := S o = some (2000, .inr (10, [.int (nI n), .int gv, .int tk, .int th, .ref (ad 2001), .int li, .ref (ad 2002), .ref (ad 2003), .ref (ad 2004), .ref (ad 2005), .ref (ad 2006), .ref (ad 2007), .int kn, .int ak, .int sz, .ref (ad 2008), .ref (ad 2009), .ref (ad 2010), .ref (ad 2011), .ref (ad 2012), .ref (ad 2013), .int ze, .ref (ad 2014), .ref (ad 2015), .ref (ad 2016), .ref (ad 2017), .ref (ad 2018), .ref (ad 2019), .ref (ad 2020), .ref (ad 2021), .ref (ad 2022)])) ∧ S (ad 2001) = some (2001, .inl ((g 0), 40000, .inl (f 1))) ∧ S (ad 2002) = some (2002, .inl ((g 0), 12, .inl (f 2))) ∧ S (ad 2003) = some (2003, .inl ((g 0), 12000, .inl (f 3))) ∧ S (ad 2004) = some (2004, .inl ((g 0), 12000, .inl (f 4))) ∧ S (ad 2005) = some (2005, .inl ((g 0), 12, .inl (f 5))) ∧ S (ad 2006) = some (2006, .inl ((g 0), 12, .inl (f 6))) ∧ S (ad 2007) = some (2007, .inl ((g 0), 21952, .inl (f 7))) ∧ S (ad 2008) = some (2008, .inl ((g 0), 17, .inl (f 8))) ∧ S (ad 2009) = some (2009, .inl ((g 0), 768, .inl (f 9))) ∧ S (ad 2010) = some (2010, .inl ((g 0), 3, .inl (f 10))) ∧ S (ad 2011) = some (2011, .inl ((g 0), 51, .inl (f 11))) ∧ S (ad 2012) = some (2012, .inl ((g 0), 3, .inl (f 12))) ∧ S (ad 2013) = some (2013, .inl ((g 0), 51, .inl (f 13))) ∧ S (ad 2014) = some (2014, .inl ((g 0), 51, .inl (f 14))) ∧ S (ad 2015) = some (2015, .inl ((g 0), 17, .inl (f 15))) ∧ S (ad 2016) = some (2016, .inl ((g 5), 3, .inl (f 16))) ∧ S (ad 2017) = some (2017, .inl ((g 0), 16, .inl (f 17))) ∧ S (ad 2018) = some (2018, .inl ((g 0), 16, .inl (f 18))) ∧ S (ad 2019) = some (2019, .inl ((g 0), 1700, .inl (f 19))) ∧ S (ad 2020) = some (2020, .inl ((g 0), 64, .inl (f 20))) ∧ S (ad 2021) = some (2021, .inl ((g 0), 256, .inl (f 21))) ∧ S (ad 2022) = some (2022, .inl ((g 0), 256, .inl (f 22)))
/-- a new model -/
def mF (g : Nat → ClassId) (o n : Nat) (ad : Nat → Nat) (S : mp_M) : Prop := mW g o n ad 0 0 0 0 0 0 0 0 (fun _ _ => 0) S
set_option maxHeartbeats 4000000 in
set_option maxRecDepth 100000 in
/-- a new model -/
theorem c_M_init (l : Launch) (D : mp_G) (g : Nat → ClassId) (S : mp_M) (sz : Nat) (o : Nat) (x : Int32) (h_o : S o = some (2000, .inr (10, [.int 0, .int 0, .int 0, .int 0, .null, .int 0, .null, .null, .null, .null, .null, .null, .int 0, .int 0, .int 0, .null, .null, .null, .null, .null, .null, .int 0, .null, .null, .null, .null, .null, .null, .null, .null, .null])))  : Met l y_M_init w_M_init ({ frames := 1, cells := 22, slots := 89260, locals := 12 }) (va_Pc [.ref o, .int x] (mp_B0 D classes (tys g) S sz)) (va_Qv (fun (S1 : mp_M) => ∃ ad : Nat → Nat, mF g o (lcN x) ad S1 ∧ (∀ b, S b ≠ none → b ≠ o → S1 b = S b)) (mp_B1 D classes S sz) (mp_A S sz)) 22 89260 (mp_A S sz) := by
  refine Met.ofW (cc := b_M_init) (maxL := 2) (ret := none) (by decide) rfl ?_
  intro p e s m args below meth c s₁ B hml hv
  obtain ⟨rfl, hsz, hH, hK⟩ := hv
  have hx := B.exec
  have hb := B.bytes
  have hr := B.returns
  have hts := atoms_spec (ws := w_M_init) B.pre
  have hg : ∀ w ∈ gw, w.before _ s = true := fun w h => hts w (List.mem_cons_of_mem _ h)
  have hown : s.vm.findClass R_M = some m.cls := findClass_of_methodNamed B.named
  have hlocks := B.notSynchronized
  have hin : meth.name = "<init>" := (name_of_methodNamed B.named B.method).1
  subst hsz
  have hI := mp_I.start hH
  have hl := lv_entry ([.ref o, .int x]) (n := 2) (Nat.le_of_ble_eq_true rfl)
  rw [lg_entry_eq]
  generalize (lg_sl ([.ref o, .int x]) ++ List.replicate (2 - (lg_sl ([.ref o, .int x])).length) Slot.unset).toArray = ls at hl ⊢
  have hl : lv_has ls 2 [(0, .ref o), (1, .int x)] := hl
  have hfr : ∀ b, S b ≠ none → b ≠ o → S b = S b := fun _ _ _ => rfl
  refine lv_aload_n hx hb d_M_init_0 rfl (lv_at hl 0 rfl) ?_
  refine W.objInit hx hb hown (hg _ q_802) (hg _ q_29) (hg _ q_30) rfl (by rw [hml]; exact hl.1) rfl d_M_init_1 (Nat.le_of_ble_eq_true rfl) (Nat.le_of_ble_eq_true rfl) ?_
  refine lv_aload_n hx hb d_M_init_4 rfl (lv_at hl 0 rfl) ?_
  refine lv_ldc (v := nI 40000) hx hb hown (hg _ q_803) d_M_init_5 ?_
  have hI0 := hI
  refine mp_newi (N' := 40000) hx hb (hg _ q_60) hK.va hI 0 2001 rfl (by decide) (by decide) (Nat.le_of_ble_eq_true rfl) (Nat.le_of_ble_eq_true rfl) (Nat.le_of_ble_eq_true rfl) d_M_init_7 (fun S1 H2 z_4 e_3 hI => ?_)
  obtain ⟨a5, ea5⟩ : ∃ z, z = s.heap.size := ⟨_, rfl⟩
  have g_a5 : s.heap.size ≤ a5 := by rw [ea5]; exact hI0.2.2.1.1
  rw [← ea5] at z_4 e_3
  refine W.eq (g2 := F0 m 9 ls [.ref a5, .ref o]) (by rw [ea5]) ?_
  have h_o : S1 o = some (2000, .inr (10, [.int 0, .int 0, .int 0, .int 0, .null, .int 0, .null, .null, .null, .null, .null, .null, .int 0, .int 0, .int 0, .null, .null, .null, .null, .null, .null, .int 0, .null, .null, .null, .null, .null, .null, .null, .null, .null])) := by rw [e_3]; exact mp_keepN h_o z_4
  have h_6 : S1 a5 = some (2001, .inl ((g 0), 40000, .inl (fun _ => 0))) := by rw [e_3]; exact mp_us _ _ _
  have nb_a5 : ∀ b, S b ≠ none → b ≠ o → b ≠ a5 := fun b h9 k0 z9 => h9 ((hfr b h9 k0).symm.trans (by rw [z9]; exact z_4))
  have hfr : ∀ b, S b ≠ none → b ≠ o → S1 b = S b := fun b h9 k0 => by rw [e_3]; exact (mp_un (nb_a5 b h9 k0)).trans (hfr b h9 k0)
  refine mp_putF (C := R_M) (T := F_M) (N := 31) (v := .ref a5) (ty := .array .int) hx hb hg i_M t_M t_M_ok n_M hown hK.va hI h_o rfl 4 (by decide) (hg _ q_808) (fun _ h9 => h9) rfl hin rfl (by decide +kernel) (rfl) rfl (Nat.le_of_ble_eq_true rfl) d_M_init_9 (fun S7 H8 locs e_9 hI => ?_)
  have e_9 : S7 = va_up S1 o (some (2000, .inr (10, [.int 0, .int 0, .int 0, .int 0, .ref a5, .int 0, .null, .null, .null, .null, .null, .null, .int 0, .int 0, .int 0, .null, .null, .null, .null, .null, .null, .int 0, .null, .null, .null, .null, .null, .null, .null, .null, .null]))) := e_9
  have h_6 : S7 a5 = some (2001, .inl ((g 0), 40000, .inl (fun _ => 0))) := by rw [e_9]; exact mp_keep h_6 h_o (by decide)
  have h_o : S7 o = some (2000, .inr (10, [.int 0, .int 0, .int 0, .int 0, .ref a5, .int 0, .null, .null, .null, .null, .null, .null, .int 0, .int 0, .int 0, .null, .null, .null, .null, .null, .null, .int 0, .null, .null, .null, .null, .null, .null, .null, .null, .null])) := by rw [e_9]; exact mp_us _ _ _
  have hfr : ∀ b, S b ≠ none → b ≠ o → S7 b = S b := fun b h9 k0 => by rw [e_9]; exact (mp_un k0).trans (hfr b h9 k0)
  refine lv_aload_n hx hb d_M_init_12 rfl (lv_at hl 0 rfl) ?_
  refine lv_bipush (v := nI 12) hx hb d_M_init_13 (by decide) ?_
  have hI0 := hI
  refine mp_newi (N' := 12) hx hb (hg _ q_60) hK.va hI 0 2002 rfl (by decide) (by decide) (Nat.le_of_ble_eq_true rfl) (Nat.le_of_ble_eq_true rfl) (Nat.le_of_ble_eq_true rfl) d_M_init_15 (fun S10 H11 z_13 e_12 hI => ?_)
  obtain ⟨a14, ea14⟩ : ∃ z, z = H8.size := ⟨_, rfl⟩
  have g_a14 : s.heap.size ≤ a14 := by rw [ea14]; exact hI0.2.2.1.1
  rw [← ea14] at z_13 e_12
  refine W.eq (g2 := F0 m 17 ls [.ref a14, .ref o]) (by rw [ea14]) ?_
  have h_o : S10 o = some (2000, .inr (10, [.int 0, .int 0, .int 0, .int 0, .ref a5, .int 0, .null, .null, .null, .null, .null, .null, .int 0, .int 0, .int 0, .null, .null, .null, .null, .null, .null, .int 0, .null, .null, .null, .null, .null, .null, .null, .null, .null])) := by rw [e_12]; exact mp_keepN h_o z_13
  have h_6 : S10 a5 = some (2001, .inl ((g 0), 40000, .inl (fun _ => 0))) := by rw [e_12]; exact mp_keepN h_6 z_13
  have h_15 : S10 a14 = some (2002, .inl ((g 0), 12, .inl (fun _ => 0))) := by rw [e_12]; exact mp_us _ _ _
  have nb_a14 : ∀ b, S b ≠ none → b ≠ o → b ≠ a14 := fun b h9 k0 z9 => h9 ((hfr b h9 k0).symm.trans (by rw [z9]; exact z_13))
  have hfr : ∀ b, S b ≠ none → b ≠ o → S10 b = S b := fun b h9 k0 => by rw [e_12]; exact (mp_un (nb_a14 b h9 k0)).trans (hfr b h9 k0)
  refine mp_putF (C := R_M) (T := F_M) (N := 31) (v := .ref a14) (ty := .array .int) hx hb hg i_M t_M t_M_ok n_M hown hK.va hI h_o rfl 6 (by decide) (hg _ q_810) (fun _ h9 => h9) rfl hin rfl (by decide +kernel) (rfl) rfl (Nat.le_of_ble_eq_true rfl) d_M_init_17 (fun S16 H17 locs e_18 hI => ?_)
  have e_18 : S16 = va_up S10 o (some (2000, .inr (10, [.int 0, .int 0, .int 0, .int 0, .ref a5, .int 0, .ref a14, .null, .null, .null, .null, .null, .int 0, .int 0, .int 0, .null, .null, .null, .null, .null, .null, .int 0, .null, .null, .null, .null, .null, .null, .null, .null, .null]))) := e_18
  have h_6 : S16 a5 = some (2001, .inl ((g 0), 40000, .inl (fun _ => 0))) := by rw [e_18]; exact mp_keep h_6 h_o (by decide)
  have h_15 : S16 a14 = some (2002, .inl ((g 0), 12, .inl (fun _ => 0))) := by rw [e_18]; exact mp_keep h_15 h_o (by decide)
  have h_o : S16 o = some (2000, .inr (10, [.int 0, .int 0, .int 0, .int 0, .ref a5, .int 0, .ref a14, .null, .null, .null, .null, .null, .int 0, .int 0, .int 0, .null, .null, .null, .null, .null, .null, .int 0, .null, .null, .null, .null, .null, .null, .null, .null, .null])) := by rw [e_18]; exact mp_us _ _ _
  have hfr : ∀ b, S b ≠ none → b ≠ o → S16 b = S b := fun b h9 k0 => by rw [e_18]; exact (mp_un k0).trans (hfr b h9 k0)
  refine lv_aload_n hx hb d_M_init_20 rfl (lv_at hl 0 rfl) ?_
  refine lv_sipush (v := nI 12000) hx hb d_M_init_21 (by decide) ?_
  have hI0 := hI
  refine mp_newi (N' := 12000) hx hb (hg _ q_60) hK.va hI 0 2003 rfl (by decide) (by decide) (Nat.le_of_ble_eq_true rfl) (Nat.le_of_ble_eq_true rfl) (Nat.le_of_ble_eq_true rfl) d_M_init_24 (fun S19 H20 z_22 e_21 hI => ?_)
  obtain ⟨a23, ea23⟩ : ∃ z, z = H17.size := ⟨_, rfl⟩
  have g_a23 : s.heap.size ≤ a23 := by rw [ea23]; exact hI0.2.2.1.1
  rw [← ea23] at z_22 e_21
  refine W.eq (g2 := F0 m 26 ls [.ref a23, .ref o]) (by rw [ea23]) ?_
  have h_o : S19 o = some (2000, .inr (10, [.int 0, .int 0, .int 0, .int 0, .ref a5, .int 0, .ref a14, .null, .null, .null, .null, .null, .int 0, .int 0, .int 0, .null, .null, .null, .null, .null, .null, .int 0, .null, .null, .null, .null, .null, .null, .null, .null, .null])) := by rw [e_21]; exact mp_keepN h_o z_22
  have h_6 : S19 a5 = some (2001, .inl ((g 0), 40000, .inl (fun _ => 0))) := by rw [e_21]; exact mp_keepN h_6 z_22
  have h_15 : S19 a14 = some (2002, .inl ((g 0), 12, .inl (fun _ => 0))) := by rw [e_21]; exact mp_keepN h_15 z_22
  have h_24 : S19 a23 = some (2003, .inl ((g 0), 12000, .inl (fun _ => 0))) := by rw [e_21]; exact mp_us _ _ _
  have nb_a23 : ∀ b, S b ≠ none → b ≠ o → b ≠ a23 := fun b h9 k0 z9 => h9 ((hfr b h9 k0).symm.trans (by rw [z9]; exact z_22))
  have hfr : ∀ b, S b ≠ none → b ≠ o → S19 b = S b := fun b h9 k0 => by rw [e_21]; exact (mp_un (nb_a23 b h9 k0)).trans (hfr b h9 k0)
  refine mp_putF (C := R_M) (T := F_M) (N := 31) (v := .ref a23) (ty := .array .int) hx hb hg i_M t_M t_M_ok n_M hown hK.va hI h_o rfl 7 (by decide) (hg _ q_811) (fun _ h9 => h9) rfl hin rfl (by decide +kernel) (rfl) rfl (Nat.le_of_ble_eq_true rfl) d_M_init_26 (fun S25 H26 locs e_27 hI => ?_)
  have e_27 : S25 = va_up S19 o (some (2000, .inr (10, [.int 0, .int 0, .int 0, .int 0, .ref a5, .int 0, .ref a14, .ref a23, .null, .null, .null, .null, .int 0, .int 0, .int 0, .null, .null, .null, .null, .null, .null, .int 0, .null, .null, .null, .null, .null, .null, .null, .null, .null]))) := e_27
  have h_6 : S25 a5 = some (2001, .inl ((g 0), 40000, .inl (fun _ => 0))) := by rw [e_27]; exact mp_keep h_6 h_o (by decide)
  have h_15 : S25 a14 = some (2002, .inl ((g 0), 12, .inl (fun _ => 0))) := by rw [e_27]; exact mp_keep h_15 h_o (by decide)
  have h_24 : S25 a23 = some (2003, .inl ((g 0), 12000, .inl (fun _ => 0))) := by rw [e_27]; exact mp_keep h_24 h_o (by decide)
  have h_o : S25 o = some (2000, .inr (10, [.int 0, .int 0, .int 0, .int 0, .ref a5, .int 0, .ref a14, .ref a23, .null, .null, .null, .null, .int 0, .int 0, .int 0, .null, .null, .null, .null, .null, .null, .int 0, .null, .null, .null, .null, .null, .null, .null, .null, .null])) := by rw [e_27]; exact mp_us _ _ _
  have hfr : ∀ b, S b ≠ none → b ≠ o → S25 b = S b := fun b h9 k0 => by rw [e_27]; exact (mp_un k0).trans (hfr b h9 k0)
  refine lv_aload_n hx hb d_M_init_29 rfl (lv_at hl 0 rfl) ?_
  refine lv_sipush (v := nI 12000) hx hb d_M_init_30 (by decide) ?_
  have hI0 := hI
  refine mp_newi (N' := 12000) hx hb (hg _ q_60) hK.va hI 0 2004 rfl (by decide) (by decide) (Nat.le_of_ble_eq_true rfl) (Nat.le_of_ble_eq_true rfl) (Nat.le_of_ble_eq_true rfl) d_M_init_33 (fun S28 H29 z_31 e_30 hI => ?_)
  obtain ⟨a32, ea32⟩ : ∃ z, z = H26.size := ⟨_, rfl⟩
  have g_a32 : s.heap.size ≤ a32 := by rw [ea32]; exact hI0.2.2.1.1
  rw [← ea32] at z_31 e_30
  refine W.eq (g2 := F0 m 35 ls [.ref a32, .ref o]) (by rw [ea32]) ?_
  have h_o : S28 o = some (2000, .inr (10, [.int 0, .int 0, .int 0, .int 0, .ref a5, .int 0, .ref a14, .ref a23, .null, .null, .null, .null, .int 0, .int 0, .int 0, .null, .null, .null, .null, .null, .null, .int 0, .null, .null, .null, .null, .null, .null, .null, .null, .null])) := by rw [e_30]; exact mp_keepN h_o z_31
  have h_6 : S28 a5 = some (2001, .inl ((g 0), 40000, .inl (fun _ => 0))) := by rw [e_30]; exact mp_keepN h_6 z_31
  have h_15 : S28 a14 = some (2002, .inl ((g 0), 12, .inl (fun _ => 0))) := by rw [e_30]; exact mp_keepN h_15 z_31
  have h_24 : S28 a23 = some (2003, .inl ((g 0), 12000, .inl (fun _ => 0))) := by rw [e_30]; exact mp_keepN h_24 z_31
  have h_33 : S28 a32 = some (2004, .inl ((g 0), 12000, .inl (fun _ => 0))) := by rw [e_30]; exact mp_us _ _ _
  have nb_a32 : ∀ b, S b ≠ none → b ≠ o → b ≠ a32 := fun b h9 k0 z9 => h9 ((hfr b h9 k0).symm.trans (by rw [z9]; exact z_31))
  have hfr : ∀ b, S b ≠ none → b ≠ o → S28 b = S b := fun b h9 k0 => by rw [e_30]; exact (mp_un (nb_a32 b h9 k0)).trans (hfr b h9 k0)
  refine mp_putF (C := R_M) (T := F_M) (N := 31) (v := .ref a32) (ty := .array .int) hx hb hg i_M t_M t_M_ok n_M hown hK.va hI h_o rfl 8 (by decide) (hg _ q_812) (fun _ h9 => h9) rfl hin rfl (by decide +kernel) (rfl) rfl (Nat.le_of_ble_eq_true rfl) d_M_init_35 (fun S34 H35 locs e_36 hI => ?_)
  have e_36 : S34 = va_up S28 o (some (2000, .inr (10, [.int 0, .int 0, .int 0, .int 0, .ref a5, .int 0, .ref a14, .ref a23, .ref a32, .null, .null, .null, .int 0, .int 0, .int 0, .null, .null, .null, .null, .null, .null, .int 0, .null, .null, .null, .null, .null, .null, .null, .null, .null]))) := e_36
  have h_6 : S34 a5 = some (2001, .inl ((g 0), 40000, .inl (fun _ => 0))) := by rw [e_36]; exact mp_keep h_6 h_o (by decide)
  have h_15 : S34 a14 = some (2002, .inl ((g 0), 12, .inl (fun _ => 0))) := by rw [e_36]; exact mp_keep h_15 h_o (by decide)
  have h_24 : S34 a23 = some (2003, .inl ((g 0), 12000, .inl (fun _ => 0))) := by rw [e_36]; exact mp_keep h_24 h_o (by decide)
  have h_33 : S34 a32 = some (2004, .inl ((g 0), 12000, .inl (fun _ => 0))) := by rw [e_36]; exact mp_keep h_33 h_o (by decide)
  have h_o : S34 o = some (2000, .inr (10, [.int 0, .int 0, .int 0, .int 0, .ref a5, .int 0, .ref a14, .ref a23, .ref a32, .null, .null, .null, .int 0, .int 0, .int 0, .null, .null, .null, .null, .null, .null, .int 0, .null, .null, .null, .null, .null, .null, .null, .null, .null])) := by rw [e_36]; exact mp_us _ _ _
  have hfr : ∀ b, S b ≠ none → b ≠ o → S34 b = S b := fun b h9 k0 => by rw [e_36]; exact (mp_un k0).trans (hfr b h9 k0)
  refine lv_aload_n hx hb d_M_init_38 rfl (lv_at hl 0 rfl) ?_
  refine lv_bipush (v := nI 12) hx hb d_M_init_39 (by decide) ?_
  have hI0 := hI
  refine mp_newi (N' := 12) hx hb (hg _ q_60) hK.va hI 0 2005 rfl (by decide) (by decide) (Nat.le_of_ble_eq_true rfl) (Nat.le_of_ble_eq_true rfl) (Nat.le_of_ble_eq_true rfl) d_M_init_41 (fun S37 H38 z_40 e_39 hI => ?_)
  obtain ⟨a41, ea41⟩ : ∃ z, z = H35.size := ⟨_, rfl⟩
  have g_a41 : s.heap.size ≤ a41 := by rw [ea41]; exact hI0.2.2.1.1
  rw [← ea41] at z_40 e_39
  refine W.eq (g2 := F0 m 43 ls [.ref a41, .ref o]) (by rw [ea41]) ?_
  have h_o : S37 o = some (2000, .inr (10, [.int 0, .int 0, .int 0, .int 0, .ref a5, .int 0, .ref a14, .ref a23, .ref a32, .null, .null, .null, .int 0, .int 0, .int 0, .null, .null, .null, .null, .null, .null, .int 0, .null, .null, .null, .null, .null, .null, .null, .null, .null])) := by rw [e_39]; exact mp_keepN h_o z_40
  have h_6 : S37 a5 = some (2001, .inl ((g 0), 40000, .inl (fun _ => 0))) := by rw [e_39]; exact mp_keepN h_6 z_40
  have h_15 : S37 a14 = some (2002, .inl ((g 0), 12, .inl (fun _ => 0))) := by rw [e_39]; exact mp_keepN h_15 z_40
  have h_24 : S37 a23 = some (2003, .inl ((g 0), 12000, .inl (fun _ => 0))) := by rw [e_39]; exact mp_keepN h_24 z_40
  have h_33 : S37 a32 = some (2004, .inl ((g 0), 12000, .inl (fun _ => 0))) := by rw [e_39]; exact mp_keepN h_33 z_40
  have h_42 : S37 a41 = some (2005, .inl ((g 0), 12, .inl (fun _ => 0))) := by rw [e_39]; exact mp_us _ _ _
  have nb_a41 : ∀ b, S b ≠ none → b ≠ o → b ≠ a41 := fun b h9 k0 z9 => h9 ((hfr b h9 k0).symm.trans (by rw [z9]; exact z_40))
  have hfr : ∀ b, S b ≠ none → b ≠ o → S37 b = S b := fun b h9 k0 => by rw [e_39]; exact (mp_un (nb_a41 b h9 k0)).trans (hfr b h9 k0)
  refine mp_putF (C := R_M) (T := F_M) (N := 31) (v := .ref a41) (ty := .array .int) hx hb hg i_M t_M t_M_ok n_M hown hK.va hI h_o rfl 9 (by decide) (hg _ q_813) (fun _ h9 => h9) rfl hin rfl (by decide +kernel) (rfl) rfl (Nat.le_of_ble_eq_true rfl) d_M_init_43 (fun S43 H44 locs e_45 hI => ?_)
  have e_45 : S43 = va_up S37 o (some (2000, .inr (10, [.int 0, .int 0, .int 0, .int 0, .ref a5, .int 0, .ref a14, .ref a23, .ref a32, .ref a41, .null, .null, .int 0, .int 0, .int 0, .null, .null, .null, .null, .null, .null, .int 0, .null, .null, .null, .null, .null, .null, .null, .null, .null]))) := e_45
  have h_6 : S43 a5 = some (2001, .inl ((g 0), 40000, .inl (fun _ => 0))) := by rw [e_45]; exact mp_keep h_6 h_o (by decide)
  have h_15 : S43 a14 = some (2002, .inl ((g 0), 12, .inl (fun _ => 0))) := by rw [e_45]; exact mp_keep h_15 h_o (by decide)
  have h_24 : S43 a23 = some (2003, .inl ((g 0), 12000, .inl (fun _ => 0))) := by rw [e_45]; exact mp_keep h_24 h_o (by decide)
  have h_33 : S43 a32 = some (2004, .inl ((g 0), 12000, .inl (fun _ => 0))) := by rw [e_45]; exact mp_keep h_33 h_o (by decide)
  have h_42 : S43 a41 = some (2005, .inl ((g 0), 12, .inl (fun _ => 0))) := by rw [e_45]; exact mp_keep h_42 h_o (by decide)
  have h_o : S43 o = some (2000, .inr (10, [.int 0, .int 0, .int 0, .int 0, .ref a5, .int 0, .ref a14, .ref a23, .ref a32, .ref a41, .null, .null, .int 0, .int 0, .int 0, .null, .null, .null, .null, .null, .null, .int 0, .null, .null, .null, .null, .null, .null, .null, .null, .null])) := by rw [e_45]; exact mp_us _ _ _
  have hfr : ∀ b, S b ≠ none → b ≠ o → S43 b = S b := fun b h9 k0 => by rw [e_45]; exact (mp_un k0).trans (hfr b h9 k0)
  refine lv_aload_n hx hb d_M_init_46 rfl (lv_at hl 0 rfl) ?_
  refine lv_bipush (v := nI 12) hx hb d_M_init_47 (by decide) ?_
  have hI0 := hI
  refine mp_newi (N' := 12) hx hb (hg _ q_60) hK.va hI 0 2006 rfl (by decide) (by decide) (Nat.le_of_ble_eq_true rfl) (Nat.le_of_ble_eq_true rfl) (Nat.le_of_ble_eq_true rfl) d_M_init_49 (fun S46 H47 z_49 e_48 hI => ?_)
  obtain ⟨a50, ea50⟩ : ∃ z, z = H44.size := ⟨_, rfl⟩
  have g_a50 : s.heap.size ≤ a50 := by rw [ea50]; exact hI0.2.2.1.1
  rw [← ea50] at z_49 e_48
  refine W.eq (g2 := F0 m 51 ls [.ref a50, .ref o]) (by rw [ea50]) ?_
  have h_o : S46 o = some (2000, .inr (10, [.int 0, .int 0, .int 0, .int 0, .ref a5, .int 0, .ref a14, .ref a23, .ref a32, .ref a41, .null, .null, .int 0, .int 0, .int 0, .null, .null, .null, .null, .null, .null, .int 0, .null, .null, .null, .null, .null, .null, .null, .null, .null])) := by rw [e_48]; exact mp_keepN h_o z_49
  have h_6 : S46 a5 = some (2001, .inl ((g 0), 40000, .inl (fun _ => 0))) := by rw [e_48]; exact mp_keepN h_6 z_49
  have h_15 : S46 a14 = some (2002, .inl ((g 0), 12, .inl (fun _ => 0))) := by rw [e_48]; exact mp_keepN h_15 z_49
  have h_24 : S46 a23 = some (2003, .inl ((g 0), 12000, .inl (fun _ => 0))) := by rw [e_48]; exact mp_keepN h_24 z_49
  have h_33 : S46 a32 = some (2004, .inl ((g 0), 12000, .inl (fun _ => 0))) := by rw [e_48]; exact mp_keepN h_33 z_49
  have h_42 : S46 a41 = some (2005, .inl ((g 0), 12, .inl (fun _ => 0))) := by rw [e_48]; exact mp_keepN h_42 z_49
  have h_51 : S46 a50 = some (2006, .inl ((g 0), 12, .inl (fun _ => 0))) := by rw [e_48]; exact mp_us _ _ _
  have nb_a50 : ∀ b, S b ≠ none → b ≠ o → b ≠ a50 := fun b h9 k0 z9 => h9 ((hfr b h9 k0).symm.trans (by rw [z9]; exact z_49))
  have hfr : ∀ b, S b ≠ none → b ≠ o → S46 b = S b := fun b h9 k0 => by rw [e_48]; exact (mp_un (nb_a50 b h9 k0)).trans (hfr b h9 k0)
  refine mp_putF (C := R_M) (T := F_M) (N := 31) (v := .ref a50) (ty := .array .int) hx hb hg i_M t_M t_M_ok n_M hown hK.va hI h_o rfl 10 (by decide) (hg _ q_814) (fun _ h9 => h9) rfl hin rfl (by decide +kernel) (rfl) rfl (Nat.le_of_ble_eq_true rfl) d_M_init_51 (fun S52 H53 locs e_54 hI => ?_)
  have e_54 : S52 = va_up S46 o (some (2000, .inr (10, [.int 0, .int 0, .int 0, .int 0, .ref a5, .int 0, .ref a14, .ref a23, .ref a32, .ref a41, .ref a50, .null, .int 0, .int 0, .int 0, .null, .null, .null, .null, .null, .null, .int 0, .null, .null, .null, .null, .null, .null, .null, .null, .null]))) := e_54
  have h_6 : S52 a5 = some (2001, .inl ((g 0), 40000, .inl (fun _ => 0))) := by rw [e_54]; exact mp_keep h_6 h_o (by decide)
  have h_15 : S52 a14 = some (2002, .inl ((g 0), 12, .inl (fun _ => 0))) := by rw [e_54]; exact mp_keep h_15 h_o (by decide)
  have h_24 : S52 a23 = some (2003, .inl ((g 0), 12000, .inl (fun _ => 0))) := by rw [e_54]; exact mp_keep h_24 h_o (by decide)
  have h_33 : S52 a32 = some (2004, .inl ((g 0), 12000, .inl (fun _ => 0))) := by rw [e_54]; exact mp_keep h_33 h_o (by decide)
  have h_42 : S52 a41 = some (2005, .inl ((g 0), 12, .inl (fun _ => 0))) := by rw [e_54]; exact mp_keep h_42 h_o (by decide)
  have h_51 : S52 a50 = some (2006, .inl ((g 0), 12, .inl (fun _ => 0))) := by rw [e_54]; exact mp_keep h_51 h_o (by decide)
  have h_o : S52 o = some (2000, .inr (10, [.int 0, .int 0, .int 0, .int 0, .ref a5, .int 0, .ref a14, .ref a23, .ref a32, .ref a41, .ref a50, .null, .int 0, .int 0, .int 0, .null, .null, .null, .null, .null, .null, .int 0, .null, .null, .null, .null, .null, .null, .null, .null, .null])) := by rw [e_54]; exact mp_us _ _ _
  have hfr : ∀ b, S b ≠ none → b ≠ o → S52 b = S b := fun b h9 k0 => by rw [e_54]; exact (mp_un k0).trans (hfr b h9 k0)
  refine lv_aload_n hx hb d_M_init_54 rfl (lv_at hl 0 rfl) ?_
  refine lv_sipush (v := nI 21952) hx hb d_M_init_55 (by decide) ?_
  have hI0 := hI
  refine mp_newi (N' := 21952) hx hb (hg _ q_60) hK.va hI 0 2007 rfl (by decide) (by decide) (Nat.le_of_ble_eq_true rfl) (Nat.le_of_ble_eq_true rfl) (Nat.le_of_ble_eq_true rfl) d_M_init_58 (fun S55 H56 z_58 e_57 hI => ?_)
  obtain ⟨a59, ea59⟩ : ∃ z, z = H53.size := ⟨_, rfl⟩
  have g_a59 : s.heap.size ≤ a59 := by rw [ea59]; exact hI0.2.2.1.1
  rw [← ea59] at z_58 e_57
  refine W.eq (g2 := F0 m 60 ls [.ref a59, .ref o]) (by rw [ea59]) ?_
  have h_o : S55 o = some (2000, .inr (10, [.int 0, .int 0, .int 0, .int 0, .ref a5, .int 0, .ref a14, .ref a23, .ref a32, .ref a41, .ref a50, .null, .int 0, .int 0, .int 0, .null, .null, .null, .null, .null, .null, .int 0, .null, .null, .null, .null, .null, .null, .null, .null, .null])) := by rw [e_57]; exact mp_keepN h_o z_58
  have h_6 : S55 a5 = some (2001, .inl ((g 0), 40000, .inl (fun _ => 0))) := by rw [e_57]; exact mp_keepN h_6 z_58
  have h_15 : S55 a14 = some (2002, .inl ((g 0), 12, .inl (fun _ => 0))) := by rw [e_57]; exact mp_keepN h_15 z_58
  have h_24 : S55 a23 = some (2003, .inl ((g 0), 12000, .inl (fun _ => 0))) := by rw [e_57]; exact mp_keepN h_24 z_58
  have h_33 : S55 a32 = some (2004, .inl ((g 0), 12000, .inl (fun _ => 0))) := by rw [e_57]; exact mp_keepN h_33 z_58
  have h_42 : S55 a41 = some (2005, .inl ((g 0), 12, .inl (fun _ => 0))) := by rw [e_57]; exact mp_keepN h_42 z_58
  have h_51 : S55 a50 = some (2006, .inl ((g 0), 12, .inl (fun _ => 0))) := by rw [e_57]; exact mp_keepN h_51 z_58
  have h_60 : S55 a59 = some (2007, .inl ((g 0), 21952, .inl (fun _ => 0))) := by rw [e_57]; exact mp_us _ _ _
  have nb_a59 : ∀ b, S b ≠ none → b ≠ o → b ≠ a59 := fun b h9 k0 z9 => h9 ((hfr b h9 k0).symm.trans (by rw [z9]; exact z_58))
  have hfr : ∀ b, S b ≠ none → b ≠ o → S55 b = S b := fun b h9 k0 => by rw [e_57]; exact (mp_un (nb_a59 b h9 k0)).trans (hfr b h9 k0)
  refine mp_putF (C := R_M) (T := F_M) (N := 31) (v := .ref a59) (ty := .array .int) hx hb hg i_M t_M t_M_ok n_M hown hK.va hI h_o rfl 11 (by decide) (hg _ q_815) (fun _ h9 => h9) rfl hin rfl (by decide +kernel) (rfl) rfl (Nat.le_of_ble_eq_true rfl) d_M_init_60 (fun S61 H62 locs e_63 hI => ?_)
  have e_63 : S61 = va_up S55 o (some (2000, .inr (10, [.int 0, .int 0, .int 0, .int 0, .ref a5, .int 0, .ref a14, .ref a23, .ref a32, .ref a41, .ref a50, .ref a59, .int 0, .int 0, .int 0, .null, .null, .null, .null, .null, .null, .int 0, .null, .null, .null, .null, .null, .null, .null, .null, .null]))) := e_63
  have h_6 : S61 a5 = some (2001, .inl ((g 0), 40000, .inl (fun _ => 0))) := by rw [e_63]; exact mp_keep h_6 h_o (by decide)
  have h_15 : S61 a14 = some (2002, .inl ((g 0), 12, .inl (fun _ => 0))) := by rw [e_63]; exact mp_keep h_15 h_o (by decide)
  have h_24 : S61 a23 = some (2003, .inl ((g 0), 12000, .inl (fun _ => 0))) := by rw [e_63]; exact mp_keep h_24 h_o (by decide)
  have h_33 : S61 a32 = some (2004, .inl ((g 0), 12000, .inl (fun _ => 0))) := by rw [e_63]; exact mp_keep h_33 h_o (by decide)
  have h_42 : S61 a41 = some (2005, .inl ((g 0), 12, .inl (fun _ => 0))) := by rw [e_63]; exact mp_keep h_42 h_o (by decide)
  have h_51 : S61 a50 = some (2006, .inl ((g 0), 12, .inl (fun _ => 0))) := by rw [e_63]; exact mp_keep h_51 h_o (by decide)
  have h_60 : S61 a59 = some (2007, .inl ((g 0), 21952, .inl (fun _ => 0))) := by rw [e_63]; exact mp_keep h_60 h_o (by decide)
  have h_o : S61 o = some (2000, .inr (10, [.int 0, .int 0, .int 0, .int 0, .ref a5, .int 0, .ref a14, .ref a23, .ref a32, .ref a41, .ref a50, .ref a59, .int 0, .int 0, .int 0, .null, .null, .null, .null, .null, .null, .int 0, .null, .null, .null, .null, .null, .null, .null, .null, .null])) := by rw [e_63]; exact mp_us _ _ _
  have hfr : ∀ b, S b ≠ none → b ≠ o → S61 b = S b := fun b h9 k0 => by rw [e_63]; exact (mp_un k0).trans (hfr b h9 k0)
  refine lv_aload_n hx hb d_M_init_63 rfl (lv_at hl 0 rfl) ?_
  refine lv_bipush (v := nI 17) hx hb d_M_init_64 (by decide) ?_
  have hI0 := hI
  refine mp_newi (N' := 17) hx hb (hg _ q_60) hK.va hI 0 2008 rfl (by decide) (by decide) (Nat.le_of_ble_eq_true rfl) (Nat.le_of_ble_eq_true rfl) (Nat.le_of_ble_eq_true rfl) d_M_init_66 (fun S64 H65 z_67 e_66 hI => ?_)
  obtain ⟨a68, ea68⟩ : ∃ z, z = H62.size := ⟨_, rfl⟩
  have g_a68 : s.heap.size ≤ a68 := by rw [ea68]; exact hI0.2.2.1.1
  rw [← ea68] at z_67 e_66
  refine W.eq (g2 := F0 m 68 ls [.ref a68, .ref o]) (by rw [ea68]) ?_
  have h_o : S64 o = some (2000, .inr (10, [.int 0, .int 0, .int 0, .int 0, .ref a5, .int 0, .ref a14, .ref a23, .ref a32, .ref a41, .ref a50, .ref a59, .int 0, .int 0, .int 0, .null, .null, .null, .null, .null, .null, .int 0, .null, .null, .null, .null, .null, .null, .null, .null, .null])) := by rw [e_66]; exact mp_keepN h_o z_67
  have h_6 : S64 a5 = some (2001, .inl ((g 0), 40000, .inl (fun _ => 0))) := by rw [e_66]; exact mp_keepN h_6 z_67
  have h_15 : S64 a14 = some (2002, .inl ((g 0), 12, .inl (fun _ => 0))) := by rw [e_66]; exact mp_keepN h_15 z_67
  have h_24 : S64 a23 = some (2003, .inl ((g 0), 12000, .inl (fun _ => 0))) := by rw [e_66]; exact mp_keepN h_24 z_67
  have h_33 : S64 a32 = some (2004, .inl ((g 0), 12000, .inl (fun _ => 0))) := by rw [e_66]; exact mp_keepN h_33 z_67
  have h_42 : S64 a41 = some (2005, .inl ((g 0), 12, .inl (fun _ => 0))) := by rw [e_66]; exact mp_keepN h_42 z_67
  have h_51 : S64 a50 = some (2006, .inl ((g 0), 12, .inl (fun _ => 0))) := by rw [e_66]; exact mp_keepN h_51 z_67
  have h_60 : S64 a59 = some (2007, .inl ((g 0), 21952, .inl (fun _ => 0))) := by rw [e_66]; exact mp_keepN h_60 z_67
  have h_69 : S64 a68 = some (2008, .inl ((g 0), 17, .inl (fun _ => 0))) := by rw [e_66]; exact mp_us _ _ _
  have nb_a68 : ∀ b, S b ≠ none → b ≠ o → b ≠ a68 := fun b h9 k0 z9 => h9 ((hfr b h9 k0).symm.trans (by rw [z9]; exact z_67))
  have hfr : ∀ b, S b ≠ none → b ≠ o → S64 b = S b := fun b h9 k0 => by rw [e_66]; exact (mp_un (nb_a68 b h9 k0)).trans (hfr b h9 k0)
  refine mp_putF (C := R_M) (T := F_M) (N := 31) (v := .ref a68) (ty := .array .int) hx hb hg i_M t_M t_M_ok n_M hown hK.va hI h_o rfl 15 (by decide) (hg _ q_819) (fun _ h9 => h9) rfl hin rfl (by decide +kernel) (rfl) rfl (Nat.le_of_ble_eq_true rfl) d_M_init_68 (fun S70 H71 locs e_72 hI => ?_)
  have e_72 : S70 = va_up S64 o (some (2000, .inr (10, [.int 0, .int 0, .int 0, .int 0, .ref a5, .int 0, .ref a14, .ref a23, .ref a32, .ref a41, .ref a50, .ref a59, .int 0, .int 0, .int 0, .ref a68, .null, .null, .null, .null, .null, .int 0, .null, .null, .null, .null, .null, .null, .null, .null, .null]))) := e_72
  have h_6 : S70 a5 = some (2001, .inl ((g 0), 40000, .inl (fun _ => 0))) := by rw [e_72]; exact mp_keep h_6 h_o (by decide)
  have h_15 : S70 a14 = some (2002, .inl ((g 0), 12, .inl (fun _ => 0))) := by rw [e_72]; exact mp_keep h_15 h_o (by decide)
  have h_24 : S70 a23 = some (2003, .inl ((g 0), 12000, .inl (fun _ => 0))) := by rw [e_72]; exact mp_keep h_24 h_o (by decide)
  have h_33 : S70 a32 = some (2004, .inl ((g 0), 12000, .inl (fun _ => 0))) := by rw [e_72]; exact mp_keep h_33 h_o (by decide)
  have h_42 : S70 a41 = some (2005, .inl ((g 0), 12, .inl (fun _ => 0))) := by rw [e_72]; exact mp_keep h_42 h_o (by decide)
  have h_51 : S70 a50 = some (2006, .inl ((g 0), 12, .inl (fun _ => 0))) := by rw [e_72]; exact mp_keep h_51 h_o (by decide)
  have h_60 : S70 a59 = some (2007, .inl ((g 0), 21952, .inl (fun _ => 0))) := by rw [e_72]; exact mp_keep h_60 h_o (by decide)
  have h_69 : S70 a68 = some (2008, .inl ((g 0), 17, .inl (fun _ => 0))) := by rw [e_72]; exact mp_keep h_69 h_o (by decide)
  have h_o : S70 o = some (2000, .inr (10, [.int 0, .int 0, .int 0, .int 0, .ref a5, .int 0, .ref a14, .ref a23, .ref a32, .ref a41, .ref a50, .ref a59, .int 0, .int 0, .int 0, .ref a68, .null, .null, .null, .null, .null, .int 0, .null, .null, .null, .null, .null, .null, .null, .null, .null])) := by rw [e_72]; exact mp_us _ _ _
  have hfr : ∀ b, S b ≠ none → b ≠ o → S70 b = S b := fun b h9 k0 => by rw [e_72]; exact (mp_un k0).trans (hfr b h9 k0)
  refine lv_aload_n hx hb d_M_init_71 rfl (lv_at hl 0 rfl) ?_
  refine lv_sipush (v := nI 768) hx hb d_M_init_72 (by decide) ?_
  have hI0 := hI
  refine mp_newi (N' := 768) hx hb (hg _ q_60) hK.va hI 0 2009 rfl (by decide) (by decide) (Nat.le_of_ble_eq_true rfl) (Nat.le_of_ble_eq_true rfl) (Nat.le_of_ble_eq_true rfl) d_M_init_75 (fun S73 H74 z_76 e_75 hI => ?_)
  obtain ⟨a77, ea77⟩ : ∃ z, z = H71.size := ⟨_, rfl⟩
  have g_a77 : s.heap.size ≤ a77 := by rw [ea77]; exact hI0.2.2.1.1
  rw [← ea77] at z_76 e_75
  refine W.eq (g2 := F0 m 77 ls [.ref a77, .ref o]) (by rw [ea77]) ?_
  have h_o : S73 o = some (2000, .inr (10, [.int 0, .int 0, .int 0, .int 0, .ref a5, .int 0, .ref a14, .ref a23, .ref a32, .ref a41, .ref a50, .ref a59, .int 0, .int 0, .int 0, .ref a68, .null, .null, .null, .null, .null, .int 0, .null, .null, .null, .null, .null, .null, .null, .null, .null])) := by rw [e_75]; exact mp_keepN h_o z_76
  have h_6 : S73 a5 = some (2001, .inl ((g 0), 40000, .inl (fun _ => 0))) := by rw [e_75]; exact mp_keepN h_6 z_76
  have h_15 : S73 a14 = some (2002, .inl ((g 0), 12, .inl (fun _ => 0))) := by rw [e_75]; exact mp_keepN h_15 z_76
  have h_24 : S73 a23 = some (2003, .inl ((g 0), 12000, .inl (fun _ => 0))) := by rw [e_75]; exact mp_keepN h_24 z_76
  have h_33 : S73 a32 = some (2004, .inl ((g 0), 12000, .inl (fun _ => 0))) := by rw [e_75]; exact mp_keepN h_33 z_76
  have h_42 : S73 a41 = some (2005, .inl ((g 0), 12, .inl (fun _ => 0))) := by rw [e_75]; exact mp_keepN h_42 z_76
  have h_51 : S73 a50 = some (2006, .inl ((g 0), 12, .inl (fun _ => 0))) := by rw [e_75]; exact mp_keepN h_51 z_76
  have h_60 : S73 a59 = some (2007, .inl ((g 0), 21952, .inl (fun _ => 0))) := by rw [e_75]; exact mp_keepN h_60 z_76
  have h_69 : S73 a68 = some (2008, .inl ((g 0), 17, .inl (fun _ => 0))) := by rw [e_75]; exact mp_keepN h_69 z_76
  have h_78 : S73 a77 = some (2009, .inl ((g 0), 768, .inl (fun _ => 0))) := by rw [e_75]; exact mp_us _ _ _
  have nb_a77 : ∀ b, S b ≠ none → b ≠ o → b ≠ a77 := fun b h9 k0 z9 => h9 ((hfr b h9 k0).symm.trans (by rw [z9]; exact z_76))
  have hfr : ∀ b, S b ≠ none → b ≠ o → S73 b = S b := fun b h9 k0 => by rw [e_75]; exact (mp_un (nb_a77 b h9 k0)).trans (hfr b h9 k0)
  refine mp_putF (C := R_M) (T := F_M) (N := 31) (v := .ref a77) (ty := .array .int) hx hb hg i_M t_M t_M_ok n_M hown hK.va hI h_o rfl 16 (by decide) (hg _ q_820) (fun _ h9 => h9) rfl hin rfl (by decide +kernel) (rfl) rfl (Nat.le_of_ble_eq_true rfl) d_M_init_77 (fun S79 H80 locs e_81 hI => ?_)
  have e_81 : S79 = va_up S73 o (some (2000, .inr (10, [.int 0, .int 0, .int 0, .int 0, .ref a5, .int 0, .ref a14, .ref a23, .ref a32, .ref a41, .ref a50, .ref a59, .int 0, .int 0, .int 0, .ref a68, .ref a77, .null, .null, .null, .null, .int 0, .null, .null, .null, .null, .null, .null, .null, .null, .null]))) := e_81
  have h_6 : S79 a5 = some (2001, .inl ((g 0), 40000, .inl (fun _ => 0))) := by rw [e_81]; exact mp_keep h_6 h_o (by decide)
  have h_15 : S79 a14 = some (2002, .inl ((g 0), 12, .inl (fun _ => 0))) := by rw [e_81]; exact mp_keep h_15 h_o (by decide)
  have h_24 : S79 a23 = some (2003, .inl ((g 0), 12000, .inl (fun _ => 0))) := by rw [e_81]; exact mp_keep h_24 h_o (by decide)
  have h_33 : S79 a32 = some (2004, .inl ((g 0), 12000, .inl (fun _ => 0))) := by rw [e_81]; exact mp_keep h_33 h_o (by decide)
  have h_42 : S79 a41 = some (2005, .inl ((g 0), 12, .inl (fun _ => 0))) := by rw [e_81]; exact mp_keep h_42 h_o (by decide)
  have h_51 : S79 a50 = some (2006, .inl ((g 0), 12, .inl (fun _ => 0))) := by rw [e_81]; exact mp_keep h_51 h_o (by decide)
  have h_60 : S79 a59 = some (2007, .inl ((g 0), 21952, .inl (fun _ => 0))) := by rw [e_81]; exact mp_keep h_60 h_o (by decide)
  have h_69 : S79 a68 = some (2008, .inl ((g 0), 17, .inl (fun _ => 0))) := by rw [e_81]; exact mp_keep h_69 h_o (by decide)
  have h_78 : S79 a77 = some (2009, .inl ((g 0), 768, .inl (fun _ => 0))) := by rw [e_81]; exact mp_keep h_78 h_o (by decide)
  have h_o : S79 o = some (2000, .inr (10, [.int 0, .int 0, .int 0, .int 0, .ref a5, .int 0, .ref a14, .ref a23, .ref a32, .ref a41, .ref a50, .ref a59, .int 0, .int 0, .int 0, .ref a68, .ref a77, .null, .null, .null, .null, .int 0, .null, .null, .null, .null, .null, .null, .null, .null, .null])) := by rw [e_81]; exact mp_us _ _ _
  have hfr : ∀ b, S b ≠ none → b ≠ o → S79 b = S b := fun b h9 k0 => by rw [e_81]; exact (mp_un k0).trans (hfr b h9 k0)
  refine lv_aload_n hx hb d_M_init_80 rfl (lv_at hl 0 rfl) ?_
  refine lv_iconst (v := nI 3) hx hb d_M_init_81 (by decide) ?_
  have hI0 := hI
  refine mp_newi (N' := 3) hx hb (hg _ q_60) hK.va hI 0 2010 rfl (by decide) (by decide) (Nat.le_of_ble_eq_true rfl) (Nat.le_of_ble_eq_true rfl) (Nat.le_of_ble_eq_true rfl) d_M_init_82 (fun S82 H83 z_85 e_84 hI => ?_)
  obtain ⟨a86, ea86⟩ : ∃ z, z = H80.size := ⟨_, rfl⟩
  have g_a86 : s.heap.size ≤ a86 := by rw [ea86]; exact hI0.2.2.1.1
  rw [← ea86] at z_85 e_84
  refine W.eq (g2 := F0 m 84 ls [.ref a86, .ref o]) (by rw [ea86]) ?_
  have h_o : S82 o = some (2000, .inr (10, [.int 0, .int 0, .int 0, .int 0, .ref a5, .int 0, .ref a14, .ref a23, .ref a32, .ref a41, .ref a50, .ref a59, .int 0, .int 0, .int 0, .ref a68, .ref a77, .null, .null, .null, .null, .int 0, .null, .null, .null, .null, .null, .null, .null, .null, .null])) := by rw [e_84]; exact mp_keepN h_o z_85
  have h_6 : S82 a5 = some (2001, .inl ((g 0), 40000, .inl (fun _ => 0))) := by rw [e_84]; exact mp_keepN h_6 z_85
  have h_15 : S82 a14 = some (2002, .inl ((g 0), 12, .inl (fun _ => 0))) := by rw [e_84]; exact mp_keepN h_15 z_85
  have h_24 : S82 a23 = some (2003, .inl ((g 0), 12000, .inl (fun _ => 0))) := by rw [e_84]; exact mp_keepN h_24 z_85
  have h_33 : S82 a32 = some (2004, .inl ((g 0), 12000, .inl (fun _ => 0))) := by rw [e_84]; exact mp_keepN h_33 z_85
  have h_42 : S82 a41 = some (2005, .inl ((g 0), 12, .inl (fun _ => 0))) := by rw [e_84]; exact mp_keepN h_42 z_85
  have h_51 : S82 a50 = some (2006, .inl ((g 0), 12, .inl (fun _ => 0))) := by rw [e_84]; exact mp_keepN h_51 z_85
  have h_60 : S82 a59 = some (2007, .inl ((g 0), 21952, .inl (fun _ => 0))) := by rw [e_84]; exact mp_keepN h_60 z_85
  have h_69 : S82 a68 = some (2008, .inl ((g 0), 17, .inl (fun _ => 0))) := by rw [e_84]; exact mp_keepN h_69 z_85
  have h_78 : S82 a77 = some (2009, .inl ((g 0), 768, .inl (fun _ => 0))) := by rw [e_84]; exact mp_keepN h_78 z_85
  have h_87 : S82 a86 = some (2010, .inl ((g 0), 3, .inl (fun _ => 0))) := by rw [e_84]; exact mp_us _ _ _
  have nb_a86 : ∀ b, S b ≠ none → b ≠ o → b ≠ a86 := fun b h9 k0 z9 => h9 ((hfr b h9 k0).symm.trans (by rw [z9]; exact z_85))
  have hfr : ∀ b, S b ≠ none → b ≠ o → S82 b = S b := fun b h9 k0 => by rw [e_84]; exact (mp_un (nb_a86 b h9 k0)).trans (hfr b h9 k0)
  refine mp_putF (C := R_M) (T := F_M) (N := 31) (v := .ref a86) (ty := .array .int) hx hb hg i_M t_M t_M_ok n_M hown hK.va hI h_o rfl 17 (by decide) (hg _ q_821) (fun _ h9 => h9) rfl hin rfl (by decide +kernel) (rfl) rfl (Nat.le_of_ble_eq_true rfl) d_M_init_84 (fun S88 H89 locs e_90 hI => ?_)
  have e_90 : S88 = va_up S82 o (some (2000, .inr (10, [.int 0, .int 0, .int 0, .int 0, .ref a5, .int 0, .ref a14, .ref a23, .ref a32, .ref a41, .ref a50, .ref a59, .int 0, .int 0, .int 0, .ref a68, .ref a77, .ref a86, .null, .null, .null, .int 0, .null, .null, .null, .null, .null, .null, .null, .null, .null]))) := e_90
  have h_6 : S88 a5 = some (2001, .inl ((g 0), 40000, .inl (fun _ => 0))) := by rw [e_90]; exact mp_keep h_6 h_o (by decide)
  have h_15 : S88 a14 = some (2002, .inl ((g 0), 12, .inl (fun _ => 0))) := by rw [e_90]; exact mp_keep h_15 h_o (by decide)
  have h_24 : S88 a23 = some (2003, .inl ((g 0), 12000, .inl (fun _ => 0))) := by rw [e_90]; exact mp_keep h_24 h_o (by decide)
  have h_33 : S88 a32 = some (2004, .inl ((g 0), 12000, .inl (fun _ => 0))) := by rw [e_90]; exact mp_keep h_33 h_o (by decide)
  have h_42 : S88 a41 = some (2005, .inl ((g 0), 12, .inl (fun _ => 0))) := by rw [e_90]; exact mp_keep h_42 h_o (by decide)
  have h_51 : S88 a50 = some (2006, .inl ((g 0), 12, .inl (fun _ => 0))) := by rw [e_90]; exact mp_keep h_51 h_o (by decide)
  have h_60 : S88 a59 = some (2007, .inl ((g 0), 21952, .inl (fun _ => 0))) := by rw [e_90]; exact mp_keep h_60 h_o (by decide)
  have h_69 : S88 a68 = some (2008, .inl ((g 0), 17, .inl (fun _ => 0))) := by rw [e_90]; exact mp_keep h_69 h_o (by decide)
  have h_78 : S88 a77 = some (2009, .inl ((g 0), 768, .inl (fun _ => 0))) := by rw [e_90]; exact mp_keep h_78 h_o (by decide)
  have h_87 : S88 a86 = some (2010, .inl ((g 0), 3, .inl (fun _ => 0))) := by rw [e_90]; exact mp_keep h_87 h_o (by decide)
  have h_o : S88 o = some (2000, .inr (10, [.int 0, .int 0, .int 0, .int 0, .ref a5, .int 0, .ref a14, .ref a23, .ref a32, .ref a41, .ref a50, .ref a59, .int 0, .int 0, .int 0, .ref a68, .ref a77, .ref a86, .null, .null, .null, .int 0, .null, .null, .null, .null, .null, .null, .null, .null, .null])) := by rw [e_90]; exact mp_us _ _ _
  have hfr : ∀ b, S b ≠ none → b ≠ o → S88 b = S b := fun b h9 k0 => by rw [e_90]; exact (mp_un k0).trans (hfr b h9 k0)
  refine lv_aload_n hx hb d_M_init_87 rfl (lv_at hl 0 rfl) ?_
  refine lv_bipush (v := nI 51) hx hb d_M_init_88 (by decide) ?_
  have hI0 := hI
  refine mp_newi (N' := 51) hx hb (hg _ q_60) hK.va hI 0 2011 rfl (by decide) (by decide) (Nat.le_of_ble_eq_true rfl) (Nat.le_of_ble_eq_true rfl) (Nat.le_of_ble_eq_true rfl) d_M_init_90 (fun S91 H92 z_94 e_93 hI => ?_)
  obtain ⟨a95, ea95⟩ : ∃ z, z = H89.size := ⟨_, rfl⟩
  have g_a95 : s.heap.size ≤ a95 := by rw [ea95]; exact hI0.2.2.1.1
  rw [← ea95] at z_94 e_93
  refine W.eq (g2 := F0 m 92 ls [.ref a95, .ref o]) (by rw [ea95]) ?_
  have h_o : S91 o = some (2000, .inr (10, [.int 0, .int 0, .int 0, .int 0, .ref a5, .int 0, .ref a14, .ref a23, .ref a32, .ref a41, .ref a50, .ref a59, .int 0, .int 0, .int 0, .ref a68, .ref a77, .ref a86, .null, .null, .null, .int 0, .null, .null, .null, .null, .null, .null, .null, .null, .null])) := by rw [e_93]; exact mp_keepN h_o z_94
  have h_6 : S91 a5 = some (2001, .inl ((g 0), 40000, .inl (fun _ => 0))) := by rw [e_93]; exact mp_keepN h_6 z_94
  have h_15 : S91 a14 = some (2002, .inl ((g 0), 12, .inl (fun _ => 0))) := by rw [e_93]; exact mp_keepN h_15 z_94
  have h_24 : S91 a23 = some (2003, .inl ((g 0), 12000, .inl (fun _ => 0))) := by rw [e_93]; exact mp_keepN h_24 z_94
  have h_33 : S91 a32 = some (2004, .inl ((g 0), 12000, .inl (fun _ => 0))) := by rw [e_93]; exact mp_keepN h_33 z_94
  have h_42 : S91 a41 = some (2005, .inl ((g 0), 12, .inl (fun _ => 0))) := by rw [e_93]; exact mp_keepN h_42 z_94
  have h_51 : S91 a50 = some (2006, .inl ((g 0), 12, .inl (fun _ => 0))) := by rw [e_93]; exact mp_keepN h_51 z_94
  have h_60 : S91 a59 = some (2007, .inl ((g 0), 21952, .inl (fun _ => 0))) := by rw [e_93]; exact mp_keepN h_60 z_94
  have h_69 : S91 a68 = some (2008, .inl ((g 0), 17, .inl (fun _ => 0))) := by rw [e_93]; exact mp_keepN h_69 z_94
  have h_78 : S91 a77 = some (2009, .inl ((g 0), 768, .inl (fun _ => 0))) := by rw [e_93]; exact mp_keepN h_78 z_94
  have h_87 : S91 a86 = some (2010, .inl ((g 0), 3, .inl (fun _ => 0))) := by rw [e_93]; exact mp_keepN h_87 z_94
  have h_96 : S91 a95 = some (2011, .inl ((g 0), 51, .inl (fun _ => 0))) := by rw [e_93]; exact mp_us _ _ _
  have nb_a95 : ∀ b, S b ≠ none → b ≠ o → b ≠ a95 := fun b h9 k0 z9 => h9 ((hfr b h9 k0).symm.trans (by rw [z9]; exact z_94))
  have hfr : ∀ b, S b ≠ none → b ≠ o → S91 b = S b := fun b h9 k0 => by rw [e_93]; exact (mp_un (nb_a95 b h9 k0)).trans (hfr b h9 k0)
  refine mp_putF (C := R_M) (T := F_M) (N := 31) (v := .ref a95) (ty := .array .int) hx hb hg i_M t_M t_M_ok n_M hown hK.va hI h_o rfl 18 (by decide) (hg _ q_822) (fun _ h9 => h9) rfl hin rfl (by decide +kernel) (rfl) rfl (Nat.le_of_ble_eq_true rfl) d_M_init_92 (fun S97 H98 locs e_99 hI => ?_)
  have e_99 : S97 = va_up S91 o (some (2000, .inr (10, [.int 0, .int 0, .int 0, .int 0, .ref a5, .int 0, .ref a14, .ref a23, .ref a32, .ref a41, .ref a50, .ref a59, .int 0, .int 0, .int 0, .ref a68, .ref a77, .ref a86, .ref a95, .null, .null, .int 0, .null, .null, .null, .null, .null, .null, .null, .null, .null]))) := e_99
  have h_6 : S97 a5 = some (2001, .inl ((g 0), 40000, .inl (fun _ => 0))) := by rw [e_99]; exact mp_keep h_6 h_o (by decide)
  have h_15 : S97 a14 = some (2002, .inl ((g 0), 12, .inl (fun _ => 0))) := by rw [e_99]; exact mp_keep h_15 h_o (by decide)
  have h_24 : S97 a23 = some (2003, .inl ((g 0), 12000, .inl (fun _ => 0))) := by rw [e_99]; exact mp_keep h_24 h_o (by decide)
  have h_33 : S97 a32 = some (2004, .inl ((g 0), 12000, .inl (fun _ => 0))) := by rw [e_99]; exact mp_keep h_33 h_o (by decide)
  have h_42 : S97 a41 = some (2005, .inl ((g 0), 12, .inl (fun _ => 0))) := by rw [e_99]; exact mp_keep h_42 h_o (by decide)
  have h_51 : S97 a50 = some (2006, .inl ((g 0), 12, .inl (fun _ => 0))) := by rw [e_99]; exact mp_keep h_51 h_o (by decide)
  have h_60 : S97 a59 = some (2007, .inl ((g 0), 21952, .inl (fun _ => 0))) := by rw [e_99]; exact mp_keep h_60 h_o (by decide)
  have h_69 : S97 a68 = some (2008, .inl ((g 0), 17, .inl (fun _ => 0))) := by rw [e_99]; exact mp_keep h_69 h_o (by decide)
  have h_78 : S97 a77 = some (2009, .inl ((g 0), 768, .inl (fun _ => 0))) := by rw [e_99]; exact mp_keep h_78 h_o (by decide)
  have h_87 : S97 a86 = some (2010, .inl ((g 0), 3, .inl (fun _ => 0))) := by rw [e_99]; exact mp_keep h_87 h_o (by decide)
  have h_96 : S97 a95 = some (2011, .inl ((g 0), 51, .inl (fun _ => 0))) := by rw [e_99]; exact mp_keep h_96 h_o (by decide)
  have h_o : S97 o = some (2000, .inr (10, [.int 0, .int 0, .int 0, .int 0, .ref a5, .int 0, .ref a14, .ref a23, .ref a32, .ref a41, .ref a50, .ref a59, .int 0, .int 0, .int 0, .ref a68, .ref a77, .ref a86, .ref a95, .null, .null, .int 0, .null, .null, .null, .null, .null, .null, .null, .null, .null])) := by rw [e_99]; exact mp_us _ _ _
  have hfr : ∀ b, S b ≠ none → b ≠ o → S97 b = S b := fun b h9 k0 => by rw [e_99]; exact (mp_un k0).trans (hfr b h9 k0)
  refine lv_aload_n hx hb d_M_init_95 rfl (lv_at hl 0 rfl) ?_
  refine lv_iconst (v := nI 3) hx hb d_M_init_96 (by decide) ?_
  have hI0 := hI
  refine mp_newi (N' := 3) hx hb (hg _ q_60) hK.va hI 0 2012 rfl (by decide) (by decide) (Nat.le_of_ble_eq_true rfl) (Nat.le_of_ble_eq_true rfl) (Nat.le_of_ble_eq_true rfl) d_M_init_97 (fun S100 H101 z_103 e_102 hI => ?_)
  obtain ⟨a104, ea104⟩ : ∃ z, z = H98.size := ⟨_, rfl⟩
  have g_a104 : s.heap.size ≤ a104 := by rw [ea104]; exact hI0.2.2.1.1
  rw [← ea104] at z_103 e_102
  refine W.eq (g2 := F0 m 99 ls [.ref a104, .ref o]) (by rw [ea104]) ?_
  have h_o : S100 o = some (2000, .inr (10, [.int 0, .int 0, .int 0, .int 0, .ref a5, .int 0, .ref a14, .ref a23, .ref a32, .ref a41, .ref a50, .ref a59, .int 0, .int 0, .int 0, .ref a68, .ref a77, .ref a86, .ref a95, .null, .null, .int 0, .null, .null, .null, .null, .null, .null, .null, .null, .null])) := by rw [e_102]; exact mp_keepN h_o z_103
  have h_6 : S100 a5 = some (2001, .inl ((g 0), 40000, .inl (fun _ => 0))) := by rw [e_102]; exact mp_keepN h_6 z_103
  have h_15 : S100 a14 = some (2002, .inl ((g 0), 12, .inl (fun _ => 0))) := by rw [e_102]; exact mp_keepN h_15 z_103
  have h_24 : S100 a23 = some (2003, .inl ((g 0), 12000, .inl (fun _ => 0))) := by rw [e_102]; exact mp_keepN h_24 z_103
  have h_33 : S100 a32 = some (2004, .inl ((g 0), 12000, .inl (fun _ => 0))) := by rw [e_102]; exact mp_keepN h_33 z_103
  have h_42 : S100 a41 = some (2005, .inl ((g 0), 12, .inl (fun _ => 0))) := by rw [e_102]; exact mp_keepN h_42 z_103
  have h_51 : S100 a50 = some (2006, .inl ((g 0), 12, .inl (fun _ => 0))) := by rw [e_102]; exact mp_keepN h_51 z_103
  have h_60 : S100 a59 = some (2007, .inl ((g 0), 21952, .inl (fun _ => 0))) := by rw [e_102]; exact mp_keepN h_60 z_103
  have h_69 : S100 a68 = some (2008, .inl ((g 0), 17, .inl (fun _ => 0))) := by rw [e_102]; exact mp_keepN h_69 z_103
  have h_78 : S100 a77 = some (2009, .inl ((g 0), 768, .inl (fun _ => 0))) := by rw [e_102]; exact mp_keepN h_78 z_103
  have h_87 : S100 a86 = some (2010, .inl ((g 0), 3, .inl (fun _ => 0))) := by rw [e_102]; exact mp_keepN h_87 z_103
  have h_96 : S100 a95 = some (2011, .inl ((g 0), 51, .inl (fun _ => 0))) := by rw [e_102]; exact mp_keepN h_96 z_103
  have h_105 : S100 a104 = some (2012, .inl ((g 0), 3, .inl (fun _ => 0))) := by rw [e_102]; exact mp_us _ _ _
  have nb_a104 : ∀ b, S b ≠ none → b ≠ o → b ≠ a104 := fun b h9 k0 z9 => h9 ((hfr b h9 k0).symm.trans (by rw [z9]; exact z_103))
  have hfr : ∀ b, S b ≠ none → b ≠ o → S100 b = S b := fun b h9 k0 => by rw [e_102]; exact (mp_un (nb_a104 b h9 k0)).trans (hfr b h9 k0)
  refine mp_putF (C := R_M) (T := F_M) (N := 31) (v := .ref a104) (ty := .array .int) hx hb hg i_M t_M t_M_ok n_M hown hK.va hI h_o rfl 19 (by decide) (hg _ q_823) (fun _ h9 => h9) rfl hin rfl (by decide +kernel) (rfl) rfl (Nat.le_of_ble_eq_true rfl) d_M_init_99 (fun S106 H107 locs e_108 hI => ?_)
  have e_108 : S106 = va_up S100 o (some (2000, .inr (10, [.int 0, .int 0, .int 0, .int 0, .ref a5, .int 0, .ref a14, .ref a23, .ref a32, .ref a41, .ref a50, .ref a59, .int 0, .int 0, .int 0, .ref a68, .ref a77, .ref a86, .ref a95, .ref a104, .null, .int 0, .null, .null, .null, .null, .null, .null, .null, .null, .null]))) := e_108
  have h_6 : S106 a5 = some (2001, .inl ((g 0), 40000, .inl (fun _ => 0))) := by rw [e_108]; exact mp_keep h_6 h_o (by decide)
  have h_15 : S106 a14 = some (2002, .inl ((g 0), 12, .inl (fun _ => 0))) := by rw [e_108]; exact mp_keep h_15 h_o (by decide)
  have h_24 : S106 a23 = some (2003, .inl ((g 0), 12000, .inl (fun _ => 0))) := by rw [e_108]; exact mp_keep h_24 h_o (by decide)
  have h_33 : S106 a32 = some (2004, .inl ((g 0), 12000, .inl (fun _ => 0))) := by rw [e_108]; exact mp_keep h_33 h_o (by decide)
  have h_42 : S106 a41 = some (2005, .inl ((g 0), 12, .inl (fun _ => 0))) := by rw [e_108]; exact mp_keep h_42 h_o (by decide)
  have h_51 : S106 a50 = some (2006, .inl ((g 0), 12, .inl (fun _ => 0))) := by rw [e_108]; exact mp_keep h_51 h_o (by decide)
  have h_60 : S106 a59 = some (2007, .inl ((g 0), 21952, .inl (fun _ => 0))) := by rw [e_108]; exact mp_keep h_60 h_o (by decide)
  have h_69 : S106 a68 = some (2008, .inl ((g 0), 17, .inl (fun _ => 0))) := by rw [e_108]; exact mp_keep h_69 h_o (by decide)
  have h_78 : S106 a77 = some (2009, .inl ((g 0), 768, .inl (fun _ => 0))) := by rw [e_108]; exact mp_keep h_78 h_o (by decide)
  have h_87 : S106 a86 = some (2010, .inl ((g 0), 3, .inl (fun _ => 0))) := by rw [e_108]; exact mp_keep h_87 h_o (by decide)
  have h_96 : S106 a95 = some (2011, .inl ((g 0), 51, .inl (fun _ => 0))) := by rw [e_108]; exact mp_keep h_96 h_o (by decide)
  have h_105 : S106 a104 = some (2012, .inl ((g 0), 3, .inl (fun _ => 0))) := by rw [e_108]; exact mp_keep h_105 h_o (by decide)
  have h_o : S106 o = some (2000, .inr (10, [.int 0, .int 0, .int 0, .int 0, .ref a5, .int 0, .ref a14, .ref a23, .ref a32, .ref a41, .ref a50, .ref a59, .int 0, .int 0, .int 0, .ref a68, .ref a77, .ref a86, .ref a95, .ref a104, .null, .int 0, .null, .null, .null, .null, .null, .null, .null, .null, .null])) := by rw [e_108]; exact mp_us _ _ _
  have hfr : ∀ b, S b ≠ none → b ≠ o → S106 b = S b := fun b h9 k0 => by rw [e_108]; exact (mp_un k0).trans (hfr b h9 k0)
  refine lv_aload_n hx hb d_M_init_102 rfl (lv_at hl 0 rfl) ?_
  refine lv_bipush (v := nI 51) hx hb d_M_init_103 (by decide) ?_
  have hI0 := hI
  refine mp_newi (N' := 51) hx hb (hg _ q_60) hK.va hI 0 2013 rfl (by decide) (by decide) (Nat.le_of_ble_eq_true rfl) (Nat.le_of_ble_eq_true rfl) (Nat.le_of_ble_eq_true rfl) d_M_init_105 (fun S109 H110 z_112 e_111 hI => ?_)
  obtain ⟨a113, ea113⟩ : ∃ z, z = H107.size := ⟨_, rfl⟩
  have g_a113 : s.heap.size ≤ a113 := by rw [ea113]; exact hI0.2.2.1.1
  rw [← ea113] at z_112 e_111
  refine W.eq (g2 := F0 m 107 ls [.ref a113, .ref o]) (by rw [ea113]) ?_
  have h_o : S109 o = some (2000, .inr (10, [.int 0, .int 0, .int 0, .int 0, .ref a5, .int 0, .ref a14, .ref a23, .ref a32, .ref a41, .ref a50, .ref a59, .int 0, .int 0, .int 0, .ref a68, .ref a77, .ref a86, .ref a95, .ref a104, .null, .int 0, .null, .null, .null, .null, .null, .null, .null, .null, .null])) := by rw [e_111]; exact mp_keepN h_o z_112
  have h_6 : S109 a5 = some (2001, .inl ((g 0), 40000, .inl (fun _ => 0))) := by rw [e_111]; exact mp_keepN h_6 z_112
  have h_15 : S109 a14 = some (2002, .inl ((g 0), 12, .inl (fun _ => 0))) := by rw [e_111]; exact mp_keepN h_15 z_112
  have h_24 : S109 a23 = some (2003, .inl ((g 0), 12000, .inl (fun _ => 0))) := by rw [e_111]; exact mp_keepN h_24 z_112
  have h_33 : S109 a32 = some (2004, .inl ((g 0), 12000, .inl (fun _ => 0))) := by rw [e_111]; exact mp_keepN h_33 z_112
  have h_42 : S109 a41 = some (2005, .inl ((g 0), 12, .inl (fun _ => 0))) := by rw [e_111]; exact mp_keepN h_42 z_112
  have h_51 : S109 a50 = some (2006, .inl ((g 0), 12, .inl (fun _ => 0))) := by rw [e_111]; exact mp_keepN h_51 z_112
  have h_60 : S109 a59 = some (2007, .inl ((g 0), 21952, .inl (fun _ => 0))) := by rw [e_111]; exact mp_keepN h_60 z_112
  have h_69 : S109 a68 = some (2008, .inl ((g 0), 17, .inl (fun _ => 0))) := by rw [e_111]; exact mp_keepN h_69 z_112
  have h_78 : S109 a77 = some (2009, .inl ((g 0), 768, .inl (fun _ => 0))) := by rw [e_111]; exact mp_keepN h_78 z_112
  have h_87 : S109 a86 = some (2010, .inl ((g 0), 3, .inl (fun _ => 0))) := by rw [e_111]; exact mp_keepN h_87 z_112
  have h_96 : S109 a95 = some (2011, .inl ((g 0), 51, .inl (fun _ => 0))) := by rw [e_111]; exact mp_keepN h_96 z_112
  have h_105 : S109 a104 = some (2012, .inl ((g 0), 3, .inl (fun _ => 0))) := by rw [e_111]; exact mp_keepN h_105 z_112
  have h_114 : S109 a113 = some (2013, .inl ((g 0), 51, .inl (fun _ => 0))) := by rw [e_111]; exact mp_us _ _ _
  have nb_a113 : ∀ b, S b ≠ none → b ≠ o → b ≠ a113 := fun b h9 k0 z9 => h9 ((hfr b h9 k0).symm.trans (by rw [z9]; exact z_112))
  have hfr : ∀ b, S b ≠ none → b ≠ o → S109 b = S b := fun b h9 k0 => by rw [e_111]; exact (mp_un (nb_a113 b h9 k0)).trans (hfr b h9 k0)
  refine mp_putF (C := R_M) (T := F_M) (N := 31) (v := .ref a113) (ty := .array .int) hx hb hg i_M t_M t_M_ok n_M hown hK.va hI h_o rfl 20 (by decide) (hg _ q_824) (fun _ h9 => h9) rfl hin rfl (by decide +kernel) (rfl) rfl (Nat.le_of_ble_eq_true rfl) d_M_init_107 (fun S115 H116 locs e_117 hI => ?_)
  have e_117 : S115 = va_up S109 o (some (2000, .inr (10, [.int 0, .int 0, .int 0, .int 0, .ref a5, .int 0, .ref a14, .ref a23, .ref a32, .ref a41, .ref a50, .ref a59, .int 0, .int 0, .int 0, .ref a68, .ref a77, .ref a86, .ref a95, .ref a104, .ref a113, .int 0, .null, .null, .null, .null, .null, .null, .null, .null, .null]))) := e_117
  have h_6 : S115 a5 = some (2001, .inl ((g 0), 40000, .inl (fun _ => 0))) := by rw [e_117]; exact mp_keep h_6 h_o (by decide)
  have h_15 : S115 a14 = some (2002, .inl ((g 0), 12, .inl (fun _ => 0))) := by rw [e_117]; exact mp_keep h_15 h_o (by decide)
  have h_24 : S115 a23 = some (2003, .inl ((g 0), 12000, .inl (fun _ => 0))) := by rw [e_117]; exact mp_keep h_24 h_o (by decide)
  have h_33 : S115 a32 = some (2004, .inl ((g 0), 12000, .inl (fun _ => 0))) := by rw [e_117]; exact mp_keep h_33 h_o (by decide)
  have h_42 : S115 a41 = some (2005, .inl ((g 0), 12, .inl (fun _ => 0))) := by rw [e_117]; exact mp_keep h_42 h_o (by decide)
  have h_51 : S115 a50 = some (2006, .inl ((g 0), 12, .inl (fun _ => 0))) := by rw [e_117]; exact mp_keep h_51 h_o (by decide)
  have h_60 : S115 a59 = some (2007, .inl ((g 0), 21952, .inl (fun _ => 0))) := by rw [e_117]; exact mp_keep h_60 h_o (by decide)
  have h_69 : S115 a68 = some (2008, .inl ((g 0), 17, .inl (fun _ => 0))) := by rw [e_117]; exact mp_keep h_69 h_o (by decide)
  have h_78 : S115 a77 = some (2009, .inl ((g 0), 768, .inl (fun _ => 0))) := by rw [e_117]; exact mp_keep h_78 h_o (by decide)
  have h_87 : S115 a86 = some (2010, .inl ((g 0), 3, .inl (fun _ => 0))) := by rw [e_117]; exact mp_keep h_87 h_o (by decide)
  have h_96 : S115 a95 = some (2011, .inl ((g 0), 51, .inl (fun _ => 0))) := by rw [e_117]; exact mp_keep h_96 h_o (by decide)
  have h_105 : S115 a104 = some (2012, .inl ((g 0), 3, .inl (fun _ => 0))) := by rw [e_117]; exact mp_keep h_105 h_o (by decide)
  have h_114 : S115 a113 = some (2013, .inl ((g 0), 51, .inl (fun _ => 0))) := by rw [e_117]; exact mp_keep h_114 h_o (by decide)
  have h_o : S115 o = some (2000, .inr (10, [.int 0, .int 0, .int 0, .int 0, .ref a5, .int 0, .ref a14, .ref a23, .ref a32, .ref a41, .ref a50, .ref a59, .int 0, .int 0, .int 0, .ref a68, .ref a77, .ref a86, .ref a95, .ref a104, .ref a113, .int 0, .null, .null, .null, .null, .null, .null, .null, .null, .null])) := by rw [e_117]; exact mp_us _ _ _
  have hfr : ∀ b, S b ≠ none → b ≠ o → S115 b = S b := fun b h9 k0 => by rw [e_117]; exact (mp_un k0).trans (hfr b h9 k0)
  refine lv_aload_n hx hb d_M_init_110 rfl (lv_at hl 0 rfl) ?_
  refine lv_bipush (v := nI 51) hx hb d_M_init_111 (by decide) ?_
  have hI0 := hI
  refine mp_newi (N' := 51) hx hb (hg _ q_60) hK.va hI 0 2014 rfl (by decide) (by decide) (Nat.le_of_ble_eq_true rfl) (Nat.le_of_ble_eq_true rfl) (Nat.le_of_ble_eq_true rfl) d_M_init_113 (fun S118 H119 z_121 e_120 hI => ?_)
  obtain ⟨a122, ea122⟩ : ∃ z, z = H116.size := ⟨_, rfl⟩
  have g_a122 : s.heap.size ≤ a122 := by rw [ea122]; exact hI0.2.2.1.1
  rw [← ea122] at z_121 e_120
  refine W.eq (g2 := F0 m 115 ls [.ref a122, .ref o]) (by rw [ea122]) ?_
  have h_o : S118 o = some (2000, .inr (10, [.int 0, .int 0, .int 0, .int 0, .ref a5, .int 0, .ref a14, .ref a23, .ref a32, .ref a41, .ref a50, .ref a59, .int 0, .int 0, .int 0, .ref a68, .ref a77, .ref a86, .ref a95, .ref a104, .ref a113, .int 0, .null, .null, .null, .null, .null, .null, .null, .null, .null])) := by rw [e_120]; exact mp_keepN h_o z_121
  have h_6 : S118 a5 = some (2001, .inl ((g 0), 40000, .inl (fun _ => 0))) := by rw [e_120]; exact mp_keepN h_6 z_121
  have h_15 : S118 a14 = some (2002, .inl ((g 0), 12, .inl (fun _ => 0))) := by rw [e_120]; exact mp_keepN h_15 z_121
  have h_24 : S118 a23 = some (2003, .inl ((g 0), 12000, .inl (fun _ => 0))) := by rw [e_120]; exact mp_keepN h_24 z_121
  have h_33 : S118 a32 = some (2004, .inl ((g 0), 12000, .inl (fun _ => 0))) := by rw [e_120]; exact mp_keepN h_33 z_121
  have h_42 : S118 a41 = some (2005, .inl ((g 0), 12, .inl (fun _ => 0))) := by rw [e_120]; exact mp_keepN h_42 z_121
  have h_51 : S118 a50 = some (2006, .inl ((g 0), 12, .inl (fun _ => 0))) := by rw [e_120]; exact mp_keepN h_51 z_121
  have h_60 : S118 a59 = some (2007, .inl ((g 0), 21952, .inl (fun _ => 0))) := by rw [e_120]; exact mp_keepN h_60 z_121
  have h_69 : S118 a68 = some (2008, .inl ((g 0), 17, .inl (fun _ => 0))) := by rw [e_120]; exact mp_keepN h_69 z_121
  have h_78 : S118 a77 = some (2009, .inl ((g 0), 768, .inl (fun _ => 0))) := by rw [e_120]; exact mp_keepN h_78 z_121
  have h_87 : S118 a86 = some (2010, .inl ((g 0), 3, .inl (fun _ => 0))) := by rw [e_120]; exact mp_keepN h_87 z_121
  have h_96 : S118 a95 = some (2011, .inl ((g 0), 51, .inl (fun _ => 0))) := by rw [e_120]; exact mp_keepN h_96 z_121
  have h_105 : S118 a104 = some (2012, .inl ((g 0), 3, .inl (fun _ => 0))) := by rw [e_120]; exact mp_keepN h_105 z_121
  have h_114 : S118 a113 = some (2013, .inl ((g 0), 51, .inl (fun _ => 0))) := by rw [e_120]; exact mp_keepN h_114 z_121
  have h_123 : S118 a122 = some (2014, .inl ((g 0), 51, .inl (fun _ => 0))) := by rw [e_120]; exact mp_us _ _ _
  have nb_a122 : ∀ b, S b ≠ none → b ≠ o → b ≠ a122 := fun b h9 k0 z9 => h9 ((hfr b h9 k0).symm.trans (by rw [z9]; exact z_121))
  have hfr : ∀ b, S b ≠ none → b ≠ o → S118 b = S b := fun b h9 k0 => by rw [e_120]; exact (mp_un (nb_a122 b h9 k0)).trans (hfr b h9 k0)
  refine mp_putF (C := R_M) (T := F_M) (N := 31) (v := .ref a122) (ty := .array .int) hx hb hg i_M t_M t_M_ok n_M hown hK.va hI h_o rfl 22 (by decide) (hg _ q_826) (fun _ h9 => h9) rfl hin rfl (by decide +kernel) (rfl) rfl (Nat.le_of_ble_eq_true rfl) d_M_init_115 (fun S124 H125 locs e_126 hI => ?_)
  have e_126 : S124 = va_up S118 o (some (2000, .inr (10, [.int 0, .int 0, .int 0, .int 0, .ref a5, .int 0, .ref a14, .ref a23, .ref a32, .ref a41, .ref a50, .ref a59, .int 0, .int 0, .int 0, .ref a68, .ref a77, .ref a86, .ref a95, .ref a104, .ref a113, .int 0, .ref a122, .null, .null, .null, .null, .null, .null, .null, .null]))) := e_126
  have h_6 : S124 a5 = some (2001, .inl ((g 0), 40000, .inl (fun _ => 0))) := by rw [e_126]; exact mp_keep h_6 h_o (by decide)
  have h_15 : S124 a14 = some (2002, .inl ((g 0), 12, .inl (fun _ => 0))) := by rw [e_126]; exact mp_keep h_15 h_o (by decide)
  have h_24 : S124 a23 = some (2003, .inl ((g 0), 12000, .inl (fun _ => 0))) := by rw [e_126]; exact mp_keep h_24 h_o (by decide)
  have h_33 : S124 a32 = some (2004, .inl ((g 0), 12000, .inl (fun _ => 0))) := by rw [e_126]; exact mp_keep h_33 h_o (by decide)
  have h_42 : S124 a41 = some (2005, .inl ((g 0), 12, .inl (fun _ => 0))) := by rw [e_126]; exact mp_keep h_42 h_o (by decide)
  have h_51 : S124 a50 = some (2006, .inl ((g 0), 12, .inl (fun _ => 0))) := by rw [e_126]; exact mp_keep h_51 h_o (by decide)
  have h_60 : S124 a59 = some (2007, .inl ((g 0), 21952, .inl (fun _ => 0))) := by rw [e_126]; exact mp_keep h_60 h_o (by decide)
  have h_69 : S124 a68 = some (2008, .inl ((g 0), 17, .inl (fun _ => 0))) := by rw [e_126]; exact mp_keep h_69 h_o (by decide)
  have h_78 : S124 a77 = some (2009, .inl ((g 0), 768, .inl (fun _ => 0))) := by rw [e_126]; exact mp_keep h_78 h_o (by decide)
  have h_87 : S124 a86 = some (2010, .inl ((g 0), 3, .inl (fun _ => 0))) := by rw [e_126]; exact mp_keep h_87 h_o (by decide)
  have h_96 : S124 a95 = some (2011, .inl ((g 0), 51, .inl (fun _ => 0))) := by rw [e_126]; exact mp_keep h_96 h_o (by decide)
  have h_105 : S124 a104 = some (2012, .inl ((g 0), 3, .inl (fun _ => 0))) := by rw [e_126]; exact mp_keep h_105 h_o (by decide)
  have h_114 : S124 a113 = some (2013, .inl ((g 0), 51, .inl (fun _ => 0))) := by rw [e_126]; exact mp_keep h_114 h_o (by decide)
  have h_123 : S124 a122 = some (2014, .inl ((g 0), 51, .inl (fun _ => 0))) := by rw [e_126]; exact mp_keep h_123 h_o (by decide)
  have h_o : S124 o = some (2000, .inr (10, [.int 0, .int 0, .int 0, .int 0, .ref a5, .int 0, .ref a14, .ref a23, .ref a32, .ref a41, .ref a50, .ref a59, .int 0, .int 0, .int 0, .ref a68, .ref a77, .ref a86, .ref a95, .ref a104, .ref a113, .int 0, .ref a122, .null, .null, .null, .null, .null, .null, .null, .null])) := by rw [e_126]; exact mp_us _ _ _
  have hfr : ∀ b, S b ≠ none → b ≠ o → S124 b = S b := fun b h9 k0 => by rw [e_126]; exact (mp_un k0).trans (hfr b h9 k0)
  refine lv_aload_n hx hb d_M_init_118 rfl (lv_at hl 0 rfl) ?_
  refine lv_bipush (v := nI 17) hx hb d_M_init_119 (by decide) ?_
  have hI0 := hI
  refine mp_newi (N' := 17) hx hb (hg _ q_60) hK.va hI 0 2015 rfl (by decide) (by decide) (Nat.le_of_ble_eq_true rfl) (Nat.le_of_ble_eq_true rfl) (Nat.le_of_ble_eq_true rfl) d_M_init_121 (fun S127 H128 z_130 e_129 hI => ?_)
  obtain ⟨a131, ea131⟩ : ∃ z, z = H125.size := ⟨_, rfl⟩
  have g_a131 : s.heap.size ≤ a131 := by rw [ea131]; exact hI0.2.2.1.1
  rw [← ea131] at z_130 e_129
  refine W.eq (g2 := F0 m 123 ls [.ref a131, .ref o]) (by rw [ea131]) ?_
  have h_o : S127 o = some (2000, .inr (10, [.int 0, .int 0, .int 0, .int 0, .ref a5, .int 0, .ref a14, .ref a23, .ref a32, .ref a41, .ref a50, .ref a59, .int 0, .int 0, .int 0, .ref a68, .ref a77, .ref a86, .ref a95, .ref a104, .ref a113, .int 0, .ref a122, .null, .null, .null, .null, .null, .null, .null, .null])) := by rw [e_129]; exact mp_keepN h_o z_130
  have h_6 : S127 a5 = some (2001, .inl ((g 0), 40000, .inl (fun _ => 0))) := by rw [e_129]; exact mp_keepN h_6 z_130
  have h_15 : S127 a14 = some (2002, .inl ((g 0), 12, .inl (fun _ => 0))) := by rw [e_129]; exact mp_keepN h_15 z_130
  have h_24 : S127 a23 = some (2003, .inl ((g 0), 12000, .inl (fun _ => 0))) := by rw [e_129]; exact mp_keepN h_24 z_130
  have h_33 : S127 a32 = some (2004, .inl ((g 0), 12000, .inl (fun _ => 0))) := by rw [e_129]; exact mp_keepN h_33 z_130
  have h_42 : S127 a41 = some (2005, .inl ((g 0), 12, .inl (fun _ => 0))) := by rw [e_129]; exact mp_keepN h_42 z_130
  have h_51 : S127 a50 = some (2006, .inl ((g 0), 12, .inl (fun _ => 0))) := by rw [e_129]; exact mp_keepN h_51 z_130
  have h_60 : S127 a59 = some (2007, .inl ((g 0), 21952, .inl (fun _ => 0))) := by rw [e_129]; exact mp_keepN h_60 z_130
  have h_69 : S127 a68 = some (2008, .inl ((g 0), 17, .inl (fun _ => 0))) := by rw [e_129]; exact mp_keepN h_69 z_130
  have h_78 : S127 a77 = some (2009, .inl ((g 0), 768, .inl (fun _ => 0))) := by rw [e_129]; exact mp_keepN h_78 z_130
  have h_87 : S127 a86 = some (2010, .inl ((g 0), 3, .inl (fun _ => 0))) := by rw [e_129]; exact mp_keepN h_87 z_130
  have h_96 : S127 a95 = some (2011, .inl ((g 0), 51, .inl (fun _ => 0))) := by rw [e_129]; exact mp_keepN h_96 z_130
  have h_105 : S127 a104 = some (2012, .inl ((g 0), 3, .inl (fun _ => 0))) := by rw [e_129]; exact mp_keepN h_105 z_130
  have h_114 : S127 a113 = some (2013, .inl ((g 0), 51, .inl (fun _ => 0))) := by rw [e_129]; exact mp_keepN h_114 z_130
  have h_123 : S127 a122 = some (2014, .inl ((g 0), 51, .inl (fun _ => 0))) := by rw [e_129]; exact mp_keepN h_123 z_130
  have h_132 : S127 a131 = some (2015, .inl ((g 0), 17, .inl (fun _ => 0))) := by rw [e_129]; exact mp_us _ _ _
  have nb_a131 : ∀ b, S b ≠ none → b ≠ o → b ≠ a131 := fun b h9 k0 z9 => h9 ((hfr b h9 k0).symm.trans (by rw [z9]; exact z_130))
  have hfr : ∀ b, S b ≠ none → b ≠ o → S127 b = S b := fun b h9 k0 => by rw [e_129]; exact (mp_un (nb_a131 b h9 k0)).trans (hfr b h9 k0)
  refine mp_putF (C := R_M) (T := F_M) (N := 31) (v := .ref a131) (ty := .array .int) hx hb hg i_M t_M t_M_ok n_M hown hK.va hI h_o rfl 23 (by decide) (hg _ q_827) (fun _ h9 => h9) rfl hin rfl (by decide +kernel) (rfl) rfl (Nat.le_of_ble_eq_true rfl) d_M_init_123 (fun S133 H134 locs e_135 hI => ?_)
  have e_135 : S133 = va_up S127 o (some (2000, .inr (10, [.int 0, .int 0, .int 0, .int 0, .ref a5, .int 0, .ref a14, .ref a23, .ref a32, .ref a41, .ref a50, .ref a59, .int 0, .int 0, .int 0, .ref a68, .ref a77, .ref a86, .ref a95, .ref a104, .ref a113, .int 0, .ref a122, .ref a131, .null, .null, .null, .null, .null, .null, .null]))) := e_135
  have h_6 : S133 a5 = some (2001, .inl ((g 0), 40000, .inl (fun _ => 0))) := by rw [e_135]; exact mp_keep h_6 h_o (by decide)
  have h_15 : S133 a14 = some (2002, .inl ((g 0), 12, .inl (fun _ => 0))) := by rw [e_135]; exact mp_keep h_15 h_o (by decide)
  have h_24 : S133 a23 = some (2003, .inl ((g 0), 12000, .inl (fun _ => 0))) := by rw [e_135]; exact mp_keep h_24 h_o (by decide)
  have h_33 : S133 a32 = some (2004, .inl ((g 0), 12000, .inl (fun _ => 0))) := by rw [e_135]; exact mp_keep h_33 h_o (by decide)
  have h_42 : S133 a41 = some (2005, .inl ((g 0), 12, .inl (fun _ => 0))) := by rw [e_135]; exact mp_keep h_42 h_o (by decide)
  have h_51 : S133 a50 = some (2006, .inl ((g 0), 12, .inl (fun _ => 0))) := by rw [e_135]; exact mp_keep h_51 h_o (by decide)
  have h_60 : S133 a59 = some (2007, .inl ((g 0), 21952, .inl (fun _ => 0))) := by rw [e_135]; exact mp_keep h_60 h_o (by decide)
  have h_69 : S133 a68 = some (2008, .inl ((g 0), 17, .inl (fun _ => 0))) := by rw [e_135]; exact mp_keep h_69 h_o (by decide)
  have h_78 : S133 a77 = some (2009, .inl ((g 0), 768, .inl (fun _ => 0))) := by rw [e_135]; exact mp_keep h_78 h_o (by decide)
  have h_87 : S133 a86 = some (2010, .inl ((g 0), 3, .inl (fun _ => 0))) := by rw [e_135]; exact mp_keep h_87 h_o (by decide)
  have h_96 : S133 a95 = some (2011, .inl ((g 0), 51, .inl (fun _ => 0))) := by rw [e_135]; exact mp_keep h_96 h_o (by decide)
  have h_105 : S133 a104 = some (2012, .inl ((g 0), 3, .inl (fun _ => 0))) := by rw [e_135]; exact mp_keep h_105 h_o (by decide)
  have h_114 : S133 a113 = some (2013, .inl ((g 0), 51, .inl (fun _ => 0))) := by rw [e_135]; exact mp_keep h_114 h_o (by decide)
  have h_123 : S133 a122 = some (2014, .inl ((g 0), 51, .inl (fun _ => 0))) := by rw [e_135]; exact mp_keep h_123 h_o (by decide)
  have h_132 : S133 a131 = some (2015, .inl ((g 0), 17, .inl (fun _ => 0))) := by rw [e_135]; exact mp_keep h_132 h_o (by decide)
  have h_o : S133 o = some (2000, .inr (10, [.int 0, .int 0, .int 0, .int 0, .ref a5, .int 0, .ref a14, .ref a23, .ref a32, .ref a41, .ref a50, .ref a59, .int 0, .int 0, .int 0, .ref a68, .ref a77, .ref a86, .ref a95, .ref a104, .ref a113, .int 0, .ref a122, .ref a131, .null, .null, .null, .null, .null, .null, .null])) := by rw [e_135]; exact mp_us _ _ _
  have hfr : ∀ b, S b ≠ none → b ≠ o → S133 b = S b := fun b h9 k0 => by rw [e_135]; exact (mp_un k0).trans (hfr b h9 k0)
  refine lv_aload_n hx hb d_M_init_126 rfl (lv_at hl 0 rfl) ?_
  refine lv_iconst (v := nI 3) hx hb d_M_init_127 (by decide) ?_
  have hI0 := hI
  refine mp_newz (N' := 3) hx hb (hg _ q_898) hK.va hI 5 2016 rfl (by decide) (by decide) (Nat.le_of_ble_eq_true rfl) (Nat.le_of_ble_eq_true rfl) (Nat.le_of_ble_eq_true rfl) d_M_init_128 (fun S136 H137 z_139 e_138 hI => ?_)
  obtain ⟨a140, ea140⟩ : ∃ z, z = H134.size := ⟨_, rfl⟩
  have g_a140 : s.heap.size ≤ a140 := by rw [ea140]; exact hI0.2.2.1.1
  rw [← ea140] at z_139 e_138
  refine W.eq (g2 := F0 m 130 ls [.ref a140, .ref o]) (by rw [ea140]) ?_
  have h_o : S136 o = some (2000, .inr (10, [.int 0, .int 0, .int 0, .int 0, .ref a5, .int 0, .ref a14, .ref a23, .ref a32, .ref a41, .ref a50, .ref a59, .int 0, .int 0, .int 0, .ref a68, .ref a77, .ref a86, .ref a95, .ref a104, .ref a113, .int 0, .ref a122, .ref a131, .null, .null, .null, .null, .null, .null, .null])) := by rw [e_138]; exact mp_keepN h_o z_139
  have h_6 : S136 a5 = some (2001, .inl ((g 0), 40000, .inl (fun _ => 0))) := by rw [e_138]; exact mp_keepN h_6 z_139
  have h_15 : S136 a14 = some (2002, .inl ((g 0), 12, .inl (fun _ => 0))) := by rw [e_138]; exact mp_keepN h_15 z_139
  have h_24 : S136 a23 = some (2003, .inl ((g 0), 12000, .inl (fun _ => 0))) := by rw [e_138]; exact mp_keepN h_24 z_139
  have h_33 : S136 a32 = some (2004, .inl ((g 0), 12000, .inl (fun _ => 0))) := by rw [e_138]; exact mp_keepN h_33 z_139
  have h_42 : S136 a41 = some (2005, .inl ((g 0), 12, .inl (fun _ => 0))) := by rw [e_138]; exact mp_keepN h_42 z_139
  have h_51 : S136 a50 = some (2006, .inl ((g 0), 12, .inl (fun _ => 0))) := by rw [e_138]; exact mp_keepN h_51 z_139
  have h_60 : S136 a59 = some (2007, .inl ((g 0), 21952, .inl (fun _ => 0))) := by rw [e_138]; exact mp_keepN h_60 z_139
  have h_69 : S136 a68 = some (2008, .inl ((g 0), 17, .inl (fun _ => 0))) := by rw [e_138]; exact mp_keepN h_69 z_139
  have h_78 : S136 a77 = some (2009, .inl ((g 0), 768, .inl (fun _ => 0))) := by rw [e_138]; exact mp_keepN h_78 z_139
  have h_87 : S136 a86 = some (2010, .inl ((g 0), 3, .inl (fun _ => 0))) := by rw [e_138]; exact mp_keepN h_87 z_139
  have h_96 : S136 a95 = some (2011, .inl ((g 0), 51, .inl (fun _ => 0))) := by rw [e_138]; exact mp_keepN h_96 z_139
  have h_105 : S136 a104 = some (2012, .inl ((g 0), 3, .inl (fun _ => 0))) := by rw [e_138]; exact mp_keepN h_105 z_139
  have h_114 : S136 a113 = some (2013, .inl ((g 0), 51, .inl (fun _ => 0))) := by rw [e_138]; exact mp_keepN h_114 z_139
  have h_123 : S136 a122 = some (2014, .inl ((g 0), 51, .inl (fun _ => 0))) := by rw [e_138]; exact mp_keepN h_123 z_139
  have h_132 : S136 a131 = some (2015, .inl ((g 0), 17, .inl (fun _ => 0))) := by rw [e_138]; exact mp_keepN h_132 z_139
  have h_141 : S136 a140 = some (2016, .inl ((g 5), 3, .inl (fun _ => 0))) := by rw [e_138]; exact mp_us _ _ _
  have nb_a140 : ∀ b, S b ≠ none → b ≠ o → b ≠ a140 := fun b h9 k0 z9 => h9 ((hfr b h9 k0).symm.trans (by rw [z9]; exact z_139))
  have hfr : ∀ b, S b ≠ none → b ≠ o → S136 b = S b := fun b h9 k0 => by rw [e_138]; exact (mp_un (nb_a140 b h9 k0)).trans (hfr b h9 k0)
  refine mp_putF (C := R_M) (T := F_M) (N := 31) (v := .ref a140) (ty := .array .boolean) hx hb hg i_M t_M t_M_ok n_M hown hK.va hI h_o rfl 24 (by decide) (hg _ q_828) (fun _ h9 => h9) rfl hin rfl (by decide +kernel) (rfl) rfl (Nat.le_of_ble_eq_true rfl) d_M_init_130 (fun S142 H143 locs e_144 hI => ?_)
  have e_144 : S142 = va_up S136 o (some (2000, .inr (10, [.int 0, .int 0, .int 0, .int 0, .ref a5, .int 0, .ref a14, .ref a23, .ref a32, .ref a41, .ref a50, .ref a59, .int 0, .int 0, .int 0, .ref a68, .ref a77, .ref a86, .ref a95, .ref a104, .ref a113, .int 0, .ref a122, .ref a131, .ref a140, .null, .null, .null, .null, .null, .null]))) := e_144
  have h_6 : S142 a5 = some (2001, .inl ((g 0), 40000, .inl (fun _ => 0))) := by rw [e_144]; exact mp_keep h_6 h_o (by decide)
  have h_15 : S142 a14 = some (2002, .inl ((g 0), 12, .inl (fun _ => 0))) := by rw [e_144]; exact mp_keep h_15 h_o (by decide)
  have h_24 : S142 a23 = some (2003, .inl ((g 0), 12000, .inl (fun _ => 0))) := by rw [e_144]; exact mp_keep h_24 h_o (by decide)
  have h_33 : S142 a32 = some (2004, .inl ((g 0), 12000, .inl (fun _ => 0))) := by rw [e_144]; exact mp_keep h_33 h_o (by decide)
  have h_42 : S142 a41 = some (2005, .inl ((g 0), 12, .inl (fun _ => 0))) := by rw [e_144]; exact mp_keep h_42 h_o (by decide)
  have h_51 : S142 a50 = some (2006, .inl ((g 0), 12, .inl (fun _ => 0))) := by rw [e_144]; exact mp_keep h_51 h_o (by decide)
  have h_60 : S142 a59 = some (2007, .inl ((g 0), 21952, .inl (fun _ => 0))) := by rw [e_144]; exact mp_keep h_60 h_o (by decide)
  have h_69 : S142 a68 = some (2008, .inl ((g 0), 17, .inl (fun _ => 0))) := by rw [e_144]; exact mp_keep h_69 h_o (by decide)
  have h_78 : S142 a77 = some (2009, .inl ((g 0), 768, .inl (fun _ => 0))) := by rw [e_144]; exact mp_keep h_78 h_o (by decide)
  have h_87 : S142 a86 = some (2010, .inl ((g 0), 3, .inl (fun _ => 0))) := by rw [e_144]; exact mp_keep h_87 h_o (by decide)
  have h_96 : S142 a95 = some (2011, .inl ((g 0), 51, .inl (fun _ => 0))) := by rw [e_144]; exact mp_keep h_96 h_o (by decide)
  have h_105 : S142 a104 = some (2012, .inl ((g 0), 3, .inl (fun _ => 0))) := by rw [e_144]; exact mp_keep h_105 h_o (by decide)
  have h_114 : S142 a113 = some (2013, .inl ((g 0), 51, .inl (fun _ => 0))) := by rw [e_144]; exact mp_keep h_114 h_o (by decide)
  have h_123 : S142 a122 = some (2014, .inl ((g 0), 51, .inl (fun _ => 0))) := by rw [e_144]; exact mp_keep h_123 h_o (by decide)
  have h_132 : S142 a131 = some (2015, .inl ((g 0), 17, .inl (fun _ => 0))) := by rw [e_144]; exact mp_keep h_132 h_o (by decide)
  have h_141 : S142 a140 = some (2016, .inl ((g 5), 3, .inl (fun _ => 0))) := by rw [e_144]; exact mp_keep h_141 h_o (by decide)
  have h_o : S142 o = some (2000, .inr (10, [.int 0, .int 0, .int 0, .int 0, .ref a5, .int 0, .ref a14, .ref a23, .ref a32, .ref a41, .ref a50, .ref a59, .int 0, .int 0, .int 0, .ref a68, .ref a77, .ref a86, .ref a95, .ref a104, .ref a113, .int 0, .ref a122, .ref a131, .ref a140, .null, .null, .null, .null, .null, .null])) := by rw [e_144]; exact mp_us _ _ _
  have hfr : ∀ b, S b ≠ none → b ≠ o → S142 b = S b := fun b h9 k0 => by rw [e_144]; exact (mp_un k0).trans (hfr b h9 k0)
  refine lv_aload_n hx hb d_M_init_133 rfl (lv_at hl 0 rfl) ?_
  refine lv_bipush (v := nI 16) hx hb d_M_init_134 (by decide) ?_
  have hI0 := hI
  refine mp_newi (N' := 16) hx hb (hg _ q_60) hK.va hI 0 2017 rfl (by decide) (by decide) (Nat.le_of_ble_eq_true rfl) (Nat.le_of_ble_eq_true rfl) (Nat.le_of_ble_eq_true rfl) d_M_init_136 (fun S145 H146 z_148 e_147 hI => ?_)
  obtain ⟨a149, ea149⟩ : ∃ z, z = H143.size := ⟨_, rfl⟩
  have g_a149 : s.heap.size ≤ a149 := by rw [ea149]; exact hI0.2.2.1.1
  rw [← ea149] at z_148 e_147
  refine W.eq (g2 := F0 m 138 ls [.ref a149, .ref o]) (by rw [ea149]) ?_
  have h_o : S145 o = some (2000, .inr (10, [.int 0, .int 0, .int 0, .int 0, .ref a5, .int 0, .ref a14, .ref a23, .ref a32, .ref a41, .ref a50, .ref a59, .int 0, .int 0, .int 0, .ref a68, .ref a77, .ref a86, .ref a95, .ref a104, .ref a113, .int 0, .ref a122, .ref a131, .ref a140, .null, .null, .null, .null, .null, .null])) := by rw [e_147]; exact mp_keepN h_o z_148
  have h_6 : S145 a5 = some (2001, .inl ((g 0), 40000, .inl (fun _ => 0))) := by rw [e_147]; exact mp_keepN h_6 z_148
  have h_15 : S145 a14 = some (2002, .inl ((g 0), 12, .inl (fun _ => 0))) := by rw [e_147]; exact mp_keepN h_15 z_148
  have h_24 : S145 a23 = some (2003, .inl ((g 0), 12000, .inl (fun _ => 0))) := by rw [e_147]; exact mp_keepN h_24 z_148
  have h_33 : S145 a32 = some (2004, .inl ((g 0), 12000, .inl (fun _ => 0))) := by rw [e_147]; exact mp_keepN h_33 z_148
  have h_42 : S145 a41 = some (2005, .inl ((g 0), 12, .inl (fun _ => 0))) := by rw [e_147]; exact mp_keepN h_42 z_148
  have h_51 : S145 a50 = some (2006, .inl ((g 0), 12, .inl (fun _ => 0))) := by rw [e_147]; exact mp_keepN h_51 z_148
  have h_60 : S145 a59 = some (2007, .inl ((g 0), 21952, .inl (fun _ => 0))) := by rw [e_147]; exact mp_keepN h_60 z_148
  have h_69 : S145 a68 = some (2008, .inl ((g 0), 17, .inl (fun _ => 0))) := by rw [e_147]; exact mp_keepN h_69 z_148
  have h_78 : S145 a77 = some (2009, .inl ((g 0), 768, .inl (fun _ => 0))) := by rw [e_147]; exact mp_keepN h_78 z_148
  have h_87 : S145 a86 = some (2010, .inl ((g 0), 3, .inl (fun _ => 0))) := by rw [e_147]; exact mp_keepN h_87 z_148
  have h_96 : S145 a95 = some (2011, .inl ((g 0), 51, .inl (fun _ => 0))) := by rw [e_147]; exact mp_keepN h_96 z_148
  have h_105 : S145 a104 = some (2012, .inl ((g 0), 3, .inl (fun _ => 0))) := by rw [e_147]; exact mp_keepN h_105 z_148
  have h_114 : S145 a113 = some (2013, .inl ((g 0), 51, .inl (fun _ => 0))) := by rw [e_147]; exact mp_keepN h_114 z_148
  have h_123 : S145 a122 = some (2014, .inl ((g 0), 51, .inl (fun _ => 0))) := by rw [e_147]; exact mp_keepN h_123 z_148
  have h_132 : S145 a131 = some (2015, .inl ((g 0), 17, .inl (fun _ => 0))) := by rw [e_147]; exact mp_keepN h_132 z_148
  have h_141 : S145 a140 = some (2016, .inl ((g 5), 3, .inl (fun _ => 0))) := by rw [e_147]; exact mp_keepN h_141 z_148
  have h_150 : S145 a149 = some (2017, .inl ((g 0), 16, .inl (fun _ => 0))) := by rw [e_147]; exact mp_us _ _ _
  have nb_a149 : ∀ b, S b ≠ none → b ≠ o → b ≠ a149 := fun b h9 k0 z9 => h9 ((hfr b h9 k0).symm.trans (by rw [z9]; exact z_148))
  have hfr : ∀ b, S b ≠ none → b ≠ o → S145 b = S b := fun b h9 k0 => by rw [e_147]; exact (mp_un (nb_a149 b h9 k0)).trans (hfr b h9 k0)
  refine mp_putF (C := R_M) (T := F_M) (N := 31) (v := .ref a149) (ty := .array .int) hx hb hg i_M t_M t_M_ok n_M hown hK.va hI h_o rfl 25 (by decide) (hg _ q_829) (fun _ h9 => h9) rfl hin rfl (by decide +kernel) (rfl) rfl (Nat.le_of_ble_eq_true rfl) d_M_init_138 (fun S151 H152 locs e_153 hI => ?_)
  have e_153 : S151 = va_up S145 o (some (2000, .inr (10, [.int 0, .int 0, .int 0, .int 0, .ref a5, .int 0, .ref a14, .ref a23, .ref a32, .ref a41, .ref a50, .ref a59, .int 0, .int 0, .int 0, .ref a68, .ref a77, .ref a86, .ref a95, .ref a104, .ref a113, .int 0, .ref a122, .ref a131, .ref a140, .ref a149, .null, .null, .null, .null, .null]))) := e_153
  have h_6 : S151 a5 = some (2001, .inl ((g 0), 40000, .inl (fun _ => 0))) := by rw [e_153]; exact mp_keep h_6 h_o (by decide)
  have h_15 : S151 a14 = some (2002, .inl ((g 0), 12, .inl (fun _ => 0))) := by rw [e_153]; exact mp_keep h_15 h_o (by decide)
  have h_24 : S151 a23 = some (2003, .inl ((g 0), 12000, .inl (fun _ => 0))) := by rw [e_153]; exact mp_keep h_24 h_o (by decide)
  have h_33 : S151 a32 = some (2004, .inl ((g 0), 12000, .inl (fun _ => 0))) := by rw [e_153]; exact mp_keep h_33 h_o (by decide)
  have h_42 : S151 a41 = some (2005, .inl ((g 0), 12, .inl (fun _ => 0))) := by rw [e_153]; exact mp_keep h_42 h_o (by decide)
  have h_51 : S151 a50 = some (2006, .inl ((g 0), 12, .inl (fun _ => 0))) := by rw [e_153]; exact mp_keep h_51 h_o (by decide)
  have h_60 : S151 a59 = some (2007, .inl ((g 0), 21952, .inl (fun _ => 0))) := by rw [e_153]; exact mp_keep h_60 h_o (by decide)
  have h_69 : S151 a68 = some (2008, .inl ((g 0), 17, .inl (fun _ => 0))) := by rw [e_153]; exact mp_keep h_69 h_o (by decide)
  have h_78 : S151 a77 = some (2009, .inl ((g 0), 768, .inl (fun _ => 0))) := by rw [e_153]; exact mp_keep h_78 h_o (by decide)
  have h_87 : S151 a86 = some (2010, .inl ((g 0), 3, .inl (fun _ => 0))) := by rw [e_153]; exact mp_keep h_87 h_o (by decide)
  have h_96 : S151 a95 = some (2011, .inl ((g 0), 51, .inl (fun _ => 0))) := by rw [e_153]; exact mp_keep h_96 h_o (by decide)
  have h_105 : S151 a104 = some (2012, .inl ((g 0), 3, .inl (fun _ => 0))) := by rw [e_153]; exact mp_keep h_105 h_o (by decide)
  have h_114 : S151 a113 = some (2013, .inl ((g 0), 51, .inl (fun _ => 0))) := by rw [e_153]; exact mp_keep h_114 h_o (by decide)
  have h_123 : S151 a122 = some (2014, .inl ((g 0), 51, .inl (fun _ => 0))) := by rw [e_153]; exact mp_keep h_123 h_o (by decide)
  have h_132 : S151 a131 = some (2015, .inl ((g 0), 17, .inl (fun _ => 0))) := by rw [e_153]; exact mp_keep h_132 h_o (by decide)
  have h_141 : S151 a140 = some (2016, .inl ((g 5), 3, .inl (fun _ => 0))) := by rw [e_153]; exact mp_keep h_141 h_o (by decide)
  have h_150 : S151 a149 = some (2017, .inl ((g 0), 16, .inl (fun _ => 0))) := by rw [e_153]; exact mp_keep h_150 h_o (by decide)
  have h_o : S151 o = some (2000, .inr (10, [.int 0, .int 0, .int 0, .int 0, .ref a5, .int 0, .ref a14, .ref a23, .ref a32, .ref a41, .ref a50, .ref a59, .int 0, .int 0, .int 0, .ref a68, .ref a77, .ref a86, .ref a95, .ref a104, .ref a113, .int 0, .ref a122, .ref a131, .ref a140, .ref a149, .null, .null, .null, .null, .null])) := by rw [e_153]; exact mp_us _ _ _
  have hfr : ∀ b, S b ≠ none → b ≠ o → S151 b = S b := fun b h9 k0 => by rw [e_153]; exact (mp_un k0).trans (hfr b h9 k0)
  refine lv_aload_n hx hb d_M_init_141 rfl (lv_at hl 0 rfl) ?_
  refine lv_bipush (v := nI 16) hx hb d_M_init_142 (by decide) ?_
  have hI0 := hI
  refine mp_newi (N' := 16) hx hb (hg _ q_60) hK.va hI 0 2018 rfl (by decide) (by decide) (Nat.le_of_ble_eq_true rfl) (Nat.le_of_ble_eq_true rfl) (Nat.le_of_ble_eq_true rfl) d_M_init_144 (fun S154 H155 z_157 e_156 hI => ?_)
  obtain ⟨a158, ea158⟩ : ∃ z, z = H152.size := ⟨_, rfl⟩
  have g_a158 : s.heap.size ≤ a158 := by rw [ea158]; exact hI0.2.2.1.1
  rw [← ea158] at z_157 e_156
  refine W.eq (g2 := F0 m 146 ls [.ref a158, .ref o]) (by rw [ea158]) ?_
  have h_o : S154 o = some (2000, .inr (10, [.int 0, .int 0, .int 0, .int 0, .ref a5, .int 0, .ref a14, .ref a23, .ref a32, .ref a41, .ref a50, .ref a59, .int 0, .int 0, .int 0, .ref a68, .ref a77, .ref a86, .ref a95, .ref a104, .ref a113, .int 0, .ref a122, .ref a131, .ref a140, .ref a149, .null, .null, .null, .null, .null])) := by rw [e_156]; exact mp_keepN h_o z_157
  have h_6 : S154 a5 = some (2001, .inl ((g 0), 40000, .inl (fun _ => 0))) := by rw [e_156]; exact mp_keepN h_6 z_157
  have h_15 : S154 a14 = some (2002, .inl ((g 0), 12, .inl (fun _ => 0))) := by rw [e_156]; exact mp_keepN h_15 z_157
  have h_24 : S154 a23 = some (2003, .inl ((g 0), 12000, .inl (fun _ => 0))) := by rw [e_156]; exact mp_keepN h_24 z_157
  have h_33 : S154 a32 = some (2004, .inl ((g 0), 12000, .inl (fun _ => 0))) := by rw [e_156]; exact mp_keepN h_33 z_157
  have h_42 : S154 a41 = some (2005, .inl ((g 0), 12, .inl (fun _ => 0))) := by rw [e_156]; exact mp_keepN h_42 z_157
  have h_51 : S154 a50 = some (2006, .inl ((g 0), 12, .inl (fun _ => 0))) := by rw [e_156]; exact mp_keepN h_51 z_157
  have h_60 : S154 a59 = some (2007, .inl ((g 0), 21952, .inl (fun _ => 0))) := by rw [e_156]; exact mp_keepN h_60 z_157
  have h_69 : S154 a68 = some (2008, .inl ((g 0), 17, .inl (fun _ => 0))) := by rw [e_156]; exact mp_keepN h_69 z_157
  have h_78 : S154 a77 = some (2009, .inl ((g 0), 768, .inl (fun _ => 0))) := by rw [e_156]; exact mp_keepN h_78 z_157
  have h_87 : S154 a86 = some (2010, .inl ((g 0), 3, .inl (fun _ => 0))) := by rw [e_156]; exact mp_keepN h_87 z_157
  have h_96 : S154 a95 = some (2011, .inl ((g 0), 51, .inl (fun _ => 0))) := by rw [e_156]; exact mp_keepN h_96 z_157
  have h_105 : S154 a104 = some (2012, .inl ((g 0), 3, .inl (fun _ => 0))) := by rw [e_156]; exact mp_keepN h_105 z_157
  have h_114 : S154 a113 = some (2013, .inl ((g 0), 51, .inl (fun _ => 0))) := by rw [e_156]; exact mp_keepN h_114 z_157
  have h_123 : S154 a122 = some (2014, .inl ((g 0), 51, .inl (fun _ => 0))) := by rw [e_156]; exact mp_keepN h_123 z_157
  have h_132 : S154 a131 = some (2015, .inl ((g 0), 17, .inl (fun _ => 0))) := by rw [e_156]; exact mp_keepN h_132 z_157
  have h_141 : S154 a140 = some (2016, .inl ((g 5), 3, .inl (fun _ => 0))) := by rw [e_156]; exact mp_keepN h_141 z_157
  have h_150 : S154 a149 = some (2017, .inl ((g 0), 16, .inl (fun _ => 0))) := by rw [e_156]; exact mp_keepN h_150 z_157
  have h_159 : S154 a158 = some (2018, .inl ((g 0), 16, .inl (fun _ => 0))) := by rw [e_156]; exact mp_us _ _ _
  have nb_a158 : ∀ b, S b ≠ none → b ≠ o → b ≠ a158 := fun b h9 k0 z9 => h9 ((hfr b h9 k0).symm.trans (by rw [z9]; exact z_157))
  have hfr : ∀ b, S b ≠ none → b ≠ o → S154 b = S b := fun b h9 k0 => by rw [e_156]; exact (mp_un (nb_a158 b h9 k0)).trans (hfr b h9 k0)
  refine mp_putF (C := R_M) (T := F_M) (N := 31) (v := .ref a158) (ty := .array .int) hx hb hg i_M t_M t_M_ok n_M hown hK.va hI h_o rfl 26 (by decide) (hg _ q_830) (fun _ h9 => h9) rfl hin rfl (by decide +kernel) (rfl) rfl (Nat.le_of_ble_eq_true rfl) d_M_init_146 (fun S160 H161 locs e_162 hI => ?_)
  have e_162 : S160 = va_up S154 o (some (2000, .inr (10, [.int 0, .int 0, .int 0, .int 0, .ref a5, .int 0, .ref a14, .ref a23, .ref a32, .ref a41, .ref a50, .ref a59, .int 0, .int 0, .int 0, .ref a68, .ref a77, .ref a86, .ref a95, .ref a104, .ref a113, .int 0, .ref a122, .ref a131, .ref a140, .ref a149, .ref a158, .null, .null, .null, .null]))) := e_162
  have h_6 : S160 a5 = some (2001, .inl ((g 0), 40000, .inl (fun _ => 0))) := by rw [e_162]; exact mp_keep h_6 h_o (by decide)
  have h_15 : S160 a14 = some (2002, .inl ((g 0), 12, .inl (fun _ => 0))) := by rw [e_162]; exact mp_keep h_15 h_o (by decide)
  have h_24 : S160 a23 = some (2003, .inl ((g 0), 12000, .inl (fun _ => 0))) := by rw [e_162]; exact mp_keep h_24 h_o (by decide)
  have h_33 : S160 a32 = some (2004, .inl ((g 0), 12000, .inl (fun _ => 0))) := by rw [e_162]; exact mp_keep h_33 h_o (by decide)
  have h_42 : S160 a41 = some (2005, .inl ((g 0), 12, .inl (fun _ => 0))) := by rw [e_162]; exact mp_keep h_42 h_o (by decide)
  have h_51 : S160 a50 = some (2006, .inl ((g 0), 12, .inl (fun _ => 0))) := by rw [e_162]; exact mp_keep h_51 h_o (by decide)
  have h_60 : S160 a59 = some (2007, .inl ((g 0), 21952, .inl (fun _ => 0))) := by rw [e_162]; exact mp_keep h_60 h_o (by decide)
  have h_69 : S160 a68 = some (2008, .inl ((g 0), 17, .inl (fun _ => 0))) := by rw [e_162]; exact mp_keep h_69 h_o (by decide)
  have h_78 : S160 a77 = some (2009, .inl ((g 0), 768, .inl (fun _ => 0))) := by rw [e_162]; exact mp_keep h_78 h_o (by decide)
  have h_87 : S160 a86 = some (2010, .inl ((g 0), 3, .inl (fun _ => 0))) := by rw [e_162]; exact mp_keep h_87 h_o (by decide)
  have h_96 : S160 a95 = some (2011, .inl ((g 0), 51, .inl (fun _ => 0))) := by rw [e_162]; exact mp_keep h_96 h_o (by decide)
  have h_105 : S160 a104 = some (2012, .inl ((g 0), 3, .inl (fun _ => 0))) := by rw [e_162]; exact mp_keep h_105 h_o (by decide)
  have h_114 : S160 a113 = some (2013, .inl ((g 0), 51, .inl (fun _ => 0))) := by rw [e_162]; exact mp_keep h_114 h_o (by decide)
  have h_123 : S160 a122 = some (2014, .inl ((g 0), 51, .inl (fun _ => 0))) := by rw [e_162]; exact mp_keep h_123 h_o (by decide)
  have h_132 : S160 a131 = some (2015, .inl ((g 0), 17, .inl (fun _ => 0))) := by rw [e_162]; exact mp_keep h_132 h_o (by decide)
  have h_141 : S160 a140 = some (2016, .inl ((g 5), 3, .inl (fun _ => 0))) := by rw [e_162]; exact mp_keep h_141 h_o (by decide)
  have h_150 : S160 a149 = some (2017, .inl ((g 0), 16, .inl (fun _ => 0))) := by rw [e_162]; exact mp_keep h_150 h_o (by decide)
  have h_159 : S160 a158 = some (2018, .inl ((g 0), 16, .inl (fun _ => 0))) := by rw [e_162]; exact mp_keep h_159 h_o (by decide)
  have h_o : S160 o = some (2000, .inr (10, [.int 0, .int 0, .int 0, .int 0, .ref a5, .int 0, .ref a14, .ref a23, .ref a32, .ref a41, .ref a50, .ref a59, .int 0, .int 0, .int 0, .ref a68, .ref a77, .ref a86, .ref a95, .ref a104, .ref a113, .int 0, .ref a122, .ref a131, .ref a140, .ref a149, .ref a158, .null, .null, .null, .null])) := by rw [e_162]; exact mp_us _ _ _
  have hfr : ∀ b, S b ≠ none → b ≠ o → S160 b = S b := fun b h9 k0 => by rw [e_162]; exact (mp_un k0).trans (hfr b h9 k0)
  refine lv_aload_n hx hb d_M_init_149 rfl (lv_at hl 0 rfl) ?_
  refine lv_sipush (v := nI 1700) hx hb d_M_init_150 (by decide) ?_
  have hI0 := hI
  refine mp_newi (N' := 1700) hx hb (hg _ q_60) hK.va hI 0 2019 rfl (by decide) (by decide) (Nat.le_of_ble_eq_true rfl) (Nat.le_of_ble_eq_true rfl) (Nat.le_of_ble_eq_true rfl) d_M_init_153 (fun S163 H164 z_166 e_165 hI => ?_)
  obtain ⟨a167, ea167⟩ : ∃ z, z = H161.size := ⟨_, rfl⟩
  have g_a167 : s.heap.size ≤ a167 := by rw [ea167]; exact hI0.2.2.1.1
  rw [← ea167] at z_166 e_165
  refine W.eq (g2 := F0 m 155 ls [.ref a167, .ref o]) (by rw [ea167]) ?_
  have h_o : S163 o = some (2000, .inr (10, [.int 0, .int 0, .int 0, .int 0, .ref a5, .int 0, .ref a14, .ref a23, .ref a32, .ref a41, .ref a50, .ref a59, .int 0, .int 0, .int 0, .ref a68, .ref a77, .ref a86, .ref a95, .ref a104, .ref a113, .int 0, .ref a122, .ref a131, .ref a140, .ref a149, .ref a158, .null, .null, .null, .null])) := by rw [e_165]; exact mp_keepN h_o z_166
  have h_6 : S163 a5 = some (2001, .inl ((g 0), 40000, .inl (fun _ => 0))) := by rw [e_165]; exact mp_keepN h_6 z_166
  have h_15 : S163 a14 = some (2002, .inl ((g 0), 12, .inl (fun _ => 0))) := by rw [e_165]; exact mp_keepN h_15 z_166
  have h_24 : S163 a23 = some (2003, .inl ((g 0), 12000, .inl (fun _ => 0))) := by rw [e_165]; exact mp_keepN h_24 z_166
  have h_33 : S163 a32 = some (2004, .inl ((g 0), 12000, .inl (fun _ => 0))) := by rw [e_165]; exact mp_keepN h_33 z_166
  have h_42 : S163 a41 = some (2005, .inl ((g 0), 12, .inl (fun _ => 0))) := by rw [e_165]; exact mp_keepN h_42 z_166
  have h_51 : S163 a50 = some (2006, .inl ((g 0), 12, .inl (fun _ => 0))) := by rw [e_165]; exact mp_keepN h_51 z_166
  have h_60 : S163 a59 = some (2007, .inl ((g 0), 21952, .inl (fun _ => 0))) := by rw [e_165]; exact mp_keepN h_60 z_166
  have h_69 : S163 a68 = some (2008, .inl ((g 0), 17, .inl (fun _ => 0))) := by rw [e_165]; exact mp_keepN h_69 z_166
  have h_78 : S163 a77 = some (2009, .inl ((g 0), 768, .inl (fun _ => 0))) := by rw [e_165]; exact mp_keepN h_78 z_166
  have h_87 : S163 a86 = some (2010, .inl ((g 0), 3, .inl (fun _ => 0))) := by rw [e_165]; exact mp_keepN h_87 z_166
  have h_96 : S163 a95 = some (2011, .inl ((g 0), 51, .inl (fun _ => 0))) := by rw [e_165]; exact mp_keepN h_96 z_166
  have h_105 : S163 a104 = some (2012, .inl ((g 0), 3, .inl (fun _ => 0))) := by rw [e_165]; exact mp_keepN h_105 z_166
  have h_114 : S163 a113 = some (2013, .inl ((g 0), 51, .inl (fun _ => 0))) := by rw [e_165]; exact mp_keepN h_114 z_166
  have h_123 : S163 a122 = some (2014, .inl ((g 0), 51, .inl (fun _ => 0))) := by rw [e_165]; exact mp_keepN h_123 z_166
  have h_132 : S163 a131 = some (2015, .inl ((g 0), 17, .inl (fun _ => 0))) := by rw [e_165]; exact mp_keepN h_132 z_166
  have h_141 : S163 a140 = some (2016, .inl ((g 5), 3, .inl (fun _ => 0))) := by rw [e_165]; exact mp_keepN h_141 z_166
  have h_150 : S163 a149 = some (2017, .inl ((g 0), 16, .inl (fun _ => 0))) := by rw [e_165]; exact mp_keepN h_150 z_166
  have h_159 : S163 a158 = some (2018, .inl ((g 0), 16, .inl (fun _ => 0))) := by rw [e_165]; exact mp_keepN h_159 z_166
  have h_168 : S163 a167 = some (2019, .inl ((g 0), 1700, .inl (fun _ => 0))) := by rw [e_165]; exact mp_us _ _ _
  have nb_a167 : ∀ b, S b ≠ none → b ≠ o → b ≠ a167 := fun b h9 k0 z9 => h9 ((hfr b h9 k0).symm.trans (by rw [z9]; exact z_166))
  have hfr : ∀ b, S b ≠ none → b ≠ o → S163 b = S b := fun b h9 k0 => by rw [e_165]; exact (mp_un (nb_a167 b h9 k0)).trans (hfr b h9 k0)
  refine mp_putF (C := R_M) (T := F_M) (N := 31) (v := .ref a167) (ty := .array .int) hx hb hg i_M t_M t_M_ok n_M hown hK.va hI h_o rfl 27 (by decide) (hg _ q_831) (fun _ h9 => h9) rfl hin rfl (by decide +kernel) (rfl) rfl (Nat.le_of_ble_eq_true rfl) d_M_init_155 (fun S169 H170 locs e_171 hI => ?_)
  have e_171 : S169 = va_up S163 o (some (2000, .inr (10, [.int 0, .int 0, .int 0, .int 0, .ref a5, .int 0, .ref a14, .ref a23, .ref a32, .ref a41, .ref a50, .ref a59, .int 0, .int 0, .int 0, .ref a68, .ref a77, .ref a86, .ref a95, .ref a104, .ref a113, .int 0, .ref a122, .ref a131, .ref a140, .ref a149, .ref a158, .ref a167, .null, .null, .null]))) := e_171
  have h_6 : S169 a5 = some (2001, .inl ((g 0), 40000, .inl (fun _ => 0))) := by rw [e_171]; exact mp_keep h_6 h_o (by decide)
  have h_15 : S169 a14 = some (2002, .inl ((g 0), 12, .inl (fun _ => 0))) := by rw [e_171]; exact mp_keep h_15 h_o (by decide)
  have h_24 : S169 a23 = some (2003, .inl ((g 0), 12000, .inl (fun _ => 0))) := by rw [e_171]; exact mp_keep h_24 h_o (by decide)
  have h_33 : S169 a32 = some (2004, .inl ((g 0), 12000, .inl (fun _ => 0))) := by rw [e_171]; exact mp_keep h_33 h_o (by decide)
  have h_42 : S169 a41 = some (2005, .inl ((g 0), 12, .inl (fun _ => 0))) := by rw [e_171]; exact mp_keep h_42 h_o (by decide)
  have h_51 : S169 a50 = some (2006, .inl ((g 0), 12, .inl (fun _ => 0))) := by rw [e_171]; exact mp_keep h_51 h_o (by decide)
  have h_60 : S169 a59 = some (2007, .inl ((g 0), 21952, .inl (fun _ => 0))) := by rw [e_171]; exact mp_keep h_60 h_o (by decide)
  have h_69 : S169 a68 = some (2008, .inl ((g 0), 17, .inl (fun _ => 0))) := by rw [e_171]; exact mp_keep h_69 h_o (by decide)
  have h_78 : S169 a77 = some (2009, .inl ((g 0), 768, .inl (fun _ => 0))) := by rw [e_171]; exact mp_keep h_78 h_o (by decide)
  have h_87 : S169 a86 = some (2010, .inl ((g 0), 3, .inl (fun _ => 0))) := by rw [e_171]; exact mp_keep h_87 h_o (by decide)
  have h_96 : S169 a95 = some (2011, .inl ((g 0), 51, .inl (fun _ => 0))) := by rw [e_171]; exact mp_keep h_96 h_o (by decide)
  have h_105 : S169 a104 = some (2012, .inl ((g 0), 3, .inl (fun _ => 0))) := by rw [e_171]; exact mp_keep h_105 h_o (by decide)
  have h_114 : S169 a113 = some (2013, .inl ((g 0), 51, .inl (fun _ => 0))) := by rw [e_171]; exact mp_keep h_114 h_o (by decide)
  have h_123 : S169 a122 = some (2014, .inl ((g 0), 51, .inl (fun _ => 0))) := by rw [e_171]; exact mp_keep h_123 h_o (by decide)
  have h_132 : S169 a131 = some (2015, .inl ((g 0), 17, .inl (fun _ => 0))) := by rw [e_171]; exact mp_keep h_132 h_o (by decide)
  have h_141 : S169 a140 = some (2016, .inl ((g 5), 3, .inl (fun _ => 0))) := by rw [e_171]; exact mp_keep h_141 h_o (by decide)
  have h_150 : S169 a149 = some (2017, .inl ((g 0), 16, .inl (fun _ => 0))) := by rw [e_171]; exact mp_keep h_150 h_o (by decide)
  have h_159 : S169 a158 = some (2018, .inl ((g 0), 16, .inl (fun _ => 0))) := by rw [e_171]; exact mp_keep h_159 h_o (by decide)
  have h_168 : S169 a167 = some (2019, .inl ((g 0), 1700, .inl (fun _ => 0))) := by rw [e_171]; exact mp_keep h_168 h_o (by decide)
  have h_o : S169 o = some (2000, .inr (10, [.int 0, .int 0, .int 0, .int 0, .ref a5, .int 0, .ref a14, .ref a23, .ref a32, .ref a41, .ref a50, .ref a59, .int 0, .int 0, .int 0, .ref a68, .ref a77, .ref a86, .ref a95, .ref a104, .ref a113, .int 0, .ref a122, .ref a131, .ref a140, .ref a149, .ref a158, .ref a167, .null, .null, .null])) := by rw [e_171]; exact mp_us _ _ _
  have hfr : ∀ b, S b ≠ none → b ≠ o → S169 b = S b := fun b h9 k0 => by rw [e_171]; exact (mp_un k0).trans (hfr b h9 k0)
  refine lv_aload_n hx hb d_M_init_158 rfl (lv_at hl 0 rfl) ?_
  refine lv_bipush (v := nI 64) hx hb d_M_init_159 (by decide) ?_
  have hI0 := hI
  refine mp_newi (N' := 64) hx hb (hg _ q_60) hK.va hI 0 2020 rfl (by decide) (by decide) (Nat.le_of_ble_eq_true rfl) (Nat.le_of_ble_eq_true rfl) (Nat.le_of_ble_eq_true rfl) d_M_init_161 (fun S172 H173 z_175 e_174 hI => ?_)
  obtain ⟨a176, ea176⟩ : ∃ z, z = H170.size := ⟨_, rfl⟩
  have g_a176 : s.heap.size ≤ a176 := by rw [ea176]; exact hI0.2.2.1.1
  rw [← ea176] at z_175 e_174
  refine W.eq (g2 := F0 m 163 ls [.ref a176, .ref o]) (by rw [ea176]) ?_
  have h_o : S172 o = some (2000, .inr (10, [.int 0, .int 0, .int 0, .int 0, .ref a5, .int 0, .ref a14, .ref a23, .ref a32, .ref a41, .ref a50, .ref a59, .int 0, .int 0, .int 0, .ref a68, .ref a77, .ref a86, .ref a95, .ref a104, .ref a113, .int 0, .ref a122, .ref a131, .ref a140, .ref a149, .ref a158, .ref a167, .null, .null, .null])) := by rw [e_174]; exact mp_keepN h_o z_175
  have h_6 : S172 a5 = some (2001, .inl ((g 0), 40000, .inl (fun _ => 0))) := by rw [e_174]; exact mp_keepN h_6 z_175
  have h_15 : S172 a14 = some (2002, .inl ((g 0), 12, .inl (fun _ => 0))) := by rw [e_174]; exact mp_keepN h_15 z_175
  have h_24 : S172 a23 = some (2003, .inl ((g 0), 12000, .inl (fun _ => 0))) := by rw [e_174]; exact mp_keepN h_24 z_175
  have h_33 : S172 a32 = some (2004, .inl ((g 0), 12000, .inl (fun _ => 0))) := by rw [e_174]; exact mp_keepN h_33 z_175
  have h_42 : S172 a41 = some (2005, .inl ((g 0), 12, .inl (fun _ => 0))) := by rw [e_174]; exact mp_keepN h_42 z_175
  have h_51 : S172 a50 = some (2006, .inl ((g 0), 12, .inl (fun _ => 0))) := by rw [e_174]; exact mp_keepN h_51 z_175
  have h_60 : S172 a59 = some (2007, .inl ((g 0), 21952, .inl (fun _ => 0))) := by rw [e_174]; exact mp_keepN h_60 z_175
  have h_69 : S172 a68 = some (2008, .inl ((g 0), 17, .inl (fun _ => 0))) := by rw [e_174]; exact mp_keepN h_69 z_175
  have h_78 : S172 a77 = some (2009, .inl ((g 0), 768, .inl (fun _ => 0))) := by rw [e_174]; exact mp_keepN h_78 z_175
  have h_87 : S172 a86 = some (2010, .inl ((g 0), 3, .inl (fun _ => 0))) := by rw [e_174]; exact mp_keepN h_87 z_175
  have h_96 : S172 a95 = some (2011, .inl ((g 0), 51, .inl (fun _ => 0))) := by rw [e_174]; exact mp_keepN h_96 z_175
  have h_105 : S172 a104 = some (2012, .inl ((g 0), 3, .inl (fun _ => 0))) := by rw [e_174]; exact mp_keepN h_105 z_175
  have h_114 : S172 a113 = some (2013, .inl ((g 0), 51, .inl (fun _ => 0))) := by rw [e_174]; exact mp_keepN h_114 z_175
  have h_123 : S172 a122 = some (2014, .inl ((g 0), 51, .inl (fun _ => 0))) := by rw [e_174]; exact mp_keepN h_123 z_175
  have h_132 : S172 a131 = some (2015, .inl ((g 0), 17, .inl (fun _ => 0))) := by rw [e_174]; exact mp_keepN h_132 z_175
  have h_141 : S172 a140 = some (2016, .inl ((g 5), 3, .inl (fun _ => 0))) := by rw [e_174]; exact mp_keepN h_141 z_175
  have h_150 : S172 a149 = some (2017, .inl ((g 0), 16, .inl (fun _ => 0))) := by rw [e_174]; exact mp_keepN h_150 z_175
  have h_159 : S172 a158 = some (2018, .inl ((g 0), 16, .inl (fun _ => 0))) := by rw [e_174]; exact mp_keepN h_159 z_175
  have h_168 : S172 a167 = some (2019, .inl ((g 0), 1700, .inl (fun _ => 0))) := by rw [e_174]; exact mp_keepN h_168 z_175
  have h_177 : S172 a176 = some (2020, .inl ((g 0), 64, .inl (fun _ => 0))) := by rw [e_174]; exact mp_us _ _ _
  have nb_a176 : ∀ b, S b ≠ none → b ≠ o → b ≠ a176 := fun b h9 k0 z9 => h9 ((hfr b h9 k0).symm.trans (by rw [z9]; exact z_175))
  have hfr : ∀ b, S b ≠ none → b ≠ o → S172 b = S b := fun b h9 k0 => by rw [e_174]; exact (mp_un (nb_a176 b h9 k0)).trans (hfr b h9 k0)
  refine mp_putF (C := R_M) (T := F_M) (N := 31) (v := .ref a176) (ty := .array .int) hx hb hg i_M t_M t_M_ok n_M hown hK.va hI h_o rfl 28 (by decide) (hg _ q_832) (fun _ h9 => h9) rfl hin rfl (by decide +kernel) (rfl) rfl (Nat.le_of_ble_eq_true rfl) d_M_init_163 (fun S178 H179 locs e_180 hI => ?_)
  have e_180 : S178 = va_up S172 o (some (2000, .inr (10, [.int 0, .int 0, .int 0, .int 0, .ref a5, .int 0, .ref a14, .ref a23, .ref a32, .ref a41, .ref a50, .ref a59, .int 0, .int 0, .int 0, .ref a68, .ref a77, .ref a86, .ref a95, .ref a104, .ref a113, .int 0, .ref a122, .ref a131, .ref a140, .ref a149, .ref a158, .ref a167, .ref a176, .null, .null]))) := e_180
  have h_6 : S178 a5 = some (2001, .inl ((g 0), 40000, .inl (fun _ => 0))) := by rw [e_180]; exact mp_keep h_6 h_o (by decide)
  have h_15 : S178 a14 = some (2002, .inl ((g 0), 12, .inl (fun _ => 0))) := by rw [e_180]; exact mp_keep h_15 h_o (by decide)
  have h_24 : S178 a23 = some (2003, .inl ((g 0), 12000, .inl (fun _ => 0))) := by rw [e_180]; exact mp_keep h_24 h_o (by decide)
  have h_33 : S178 a32 = some (2004, .inl ((g 0), 12000, .inl (fun _ => 0))) := by rw [e_180]; exact mp_keep h_33 h_o (by decide)
  have h_42 : S178 a41 = some (2005, .inl ((g 0), 12, .inl (fun _ => 0))) := by rw [e_180]; exact mp_keep h_42 h_o (by decide)
  have h_51 : S178 a50 = some (2006, .inl ((g 0), 12, .inl (fun _ => 0))) := by rw [e_180]; exact mp_keep h_51 h_o (by decide)
  have h_60 : S178 a59 = some (2007, .inl ((g 0), 21952, .inl (fun _ => 0))) := by rw [e_180]; exact mp_keep h_60 h_o (by decide)
  have h_69 : S178 a68 = some (2008, .inl ((g 0), 17, .inl (fun _ => 0))) := by rw [e_180]; exact mp_keep h_69 h_o (by decide)
  have h_78 : S178 a77 = some (2009, .inl ((g 0), 768, .inl (fun _ => 0))) := by rw [e_180]; exact mp_keep h_78 h_o (by decide)
  have h_87 : S178 a86 = some (2010, .inl ((g 0), 3, .inl (fun _ => 0))) := by rw [e_180]; exact mp_keep h_87 h_o (by decide)
  have h_96 : S178 a95 = some (2011, .inl ((g 0), 51, .inl (fun _ => 0))) := by rw [e_180]; exact mp_keep h_96 h_o (by decide)
  have h_105 : S178 a104 = some (2012, .inl ((g 0), 3, .inl (fun _ => 0))) := by rw [e_180]; exact mp_keep h_105 h_o (by decide)
  have h_114 : S178 a113 = some (2013, .inl ((g 0), 51, .inl (fun _ => 0))) := by rw [e_180]; exact mp_keep h_114 h_o (by decide)
  have h_123 : S178 a122 = some (2014, .inl ((g 0), 51, .inl (fun _ => 0))) := by rw [e_180]; exact mp_keep h_123 h_o (by decide)
  have h_132 : S178 a131 = some (2015, .inl ((g 0), 17, .inl (fun _ => 0))) := by rw [e_180]; exact mp_keep h_132 h_o (by decide)
  have h_141 : S178 a140 = some (2016, .inl ((g 5), 3, .inl (fun _ => 0))) := by rw [e_180]; exact mp_keep h_141 h_o (by decide)
  have h_150 : S178 a149 = some (2017, .inl ((g 0), 16, .inl (fun _ => 0))) := by rw [e_180]; exact mp_keep h_150 h_o (by decide)
  have h_159 : S178 a158 = some (2018, .inl ((g 0), 16, .inl (fun _ => 0))) := by rw [e_180]; exact mp_keep h_159 h_o (by decide)
  have h_168 : S178 a167 = some (2019, .inl ((g 0), 1700, .inl (fun _ => 0))) := by rw [e_180]; exact mp_keep h_168 h_o (by decide)
  have h_177 : S178 a176 = some (2020, .inl ((g 0), 64, .inl (fun _ => 0))) := by rw [e_180]; exact mp_keep h_177 h_o (by decide)
  have h_o : S178 o = some (2000, .inr (10, [.int 0, .int 0, .int 0, .int 0, .ref a5, .int 0, .ref a14, .ref a23, .ref a32, .ref a41, .ref a50, .ref a59, .int 0, .int 0, .int 0, .ref a68, .ref a77, .ref a86, .ref a95, .ref a104, .ref a113, .int 0, .ref a122, .ref a131, .ref a140, .ref a149, .ref a158, .ref a167, .ref a176, .null, .null])) := by rw [e_180]; exact mp_us _ _ _
  have hfr : ∀ b, S b ≠ none → b ≠ o → S178 b = S b := fun b h9 k0 => by rw [e_180]; exact (mp_un k0).trans (hfr b h9 k0)
  refine lv_aload_n hx hb d_M_init_166 rfl (lv_at hl 0 rfl) ?_
  refine lv_sipush (v := nI 256) hx hb d_M_init_167 (by decide) ?_
  have hI0 := hI
  refine mp_newi (N' := 256) hx hb (hg _ q_60) hK.va hI 0 2021 rfl (by decide) (by decide) (Nat.le_of_ble_eq_true rfl) (Nat.le_of_ble_eq_true rfl) (Nat.le_of_ble_eq_true rfl) d_M_init_170 (fun S181 H182 z_184 e_183 hI => ?_)
  obtain ⟨a185, ea185⟩ : ∃ z, z = H179.size := ⟨_, rfl⟩
  have g_a185 : s.heap.size ≤ a185 := by rw [ea185]; exact hI0.2.2.1.1
  rw [← ea185] at z_184 e_183
  refine W.eq (g2 := F0 m 172 ls [.ref a185, .ref o]) (by rw [ea185]) ?_
  have h_o : S181 o = some (2000, .inr (10, [.int 0, .int 0, .int 0, .int 0, .ref a5, .int 0, .ref a14, .ref a23, .ref a32, .ref a41, .ref a50, .ref a59, .int 0, .int 0, .int 0, .ref a68, .ref a77, .ref a86, .ref a95, .ref a104, .ref a113, .int 0, .ref a122, .ref a131, .ref a140, .ref a149, .ref a158, .ref a167, .ref a176, .null, .null])) := by rw [e_183]; exact mp_keepN h_o z_184
  have h_6 : S181 a5 = some (2001, .inl ((g 0), 40000, .inl (fun _ => 0))) := by rw [e_183]; exact mp_keepN h_6 z_184
  have h_15 : S181 a14 = some (2002, .inl ((g 0), 12, .inl (fun _ => 0))) := by rw [e_183]; exact mp_keepN h_15 z_184
  have h_24 : S181 a23 = some (2003, .inl ((g 0), 12000, .inl (fun _ => 0))) := by rw [e_183]; exact mp_keepN h_24 z_184
  have h_33 : S181 a32 = some (2004, .inl ((g 0), 12000, .inl (fun _ => 0))) := by rw [e_183]; exact mp_keepN h_33 z_184
  have h_42 : S181 a41 = some (2005, .inl ((g 0), 12, .inl (fun _ => 0))) := by rw [e_183]; exact mp_keepN h_42 z_184
  have h_51 : S181 a50 = some (2006, .inl ((g 0), 12, .inl (fun _ => 0))) := by rw [e_183]; exact mp_keepN h_51 z_184
  have h_60 : S181 a59 = some (2007, .inl ((g 0), 21952, .inl (fun _ => 0))) := by rw [e_183]; exact mp_keepN h_60 z_184
  have h_69 : S181 a68 = some (2008, .inl ((g 0), 17, .inl (fun _ => 0))) := by rw [e_183]; exact mp_keepN h_69 z_184
  have h_78 : S181 a77 = some (2009, .inl ((g 0), 768, .inl (fun _ => 0))) := by rw [e_183]; exact mp_keepN h_78 z_184
  have h_87 : S181 a86 = some (2010, .inl ((g 0), 3, .inl (fun _ => 0))) := by rw [e_183]; exact mp_keepN h_87 z_184
  have h_96 : S181 a95 = some (2011, .inl ((g 0), 51, .inl (fun _ => 0))) := by rw [e_183]; exact mp_keepN h_96 z_184
  have h_105 : S181 a104 = some (2012, .inl ((g 0), 3, .inl (fun _ => 0))) := by rw [e_183]; exact mp_keepN h_105 z_184
  have h_114 : S181 a113 = some (2013, .inl ((g 0), 51, .inl (fun _ => 0))) := by rw [e_183]; exact mp_keepN h_114 z_184
  have h_123 : S181 a122 = some (2014, .inl ((g 0), 51, .inl (fun _ => 0))) := by rw [e_183]; exact mp_keepN h_123 z_184
  have h_132 : S181 a131 = some (2015, .inl ((g 0), 17, .inl (fun _ => 0))) := by rw [e_183]; exact mp_keepN h_132 z_184
  have h_141 : S181 a140 = some (2016, .inl ((g 5), 3, .inl (fun _ => 0))) := by rw [e_183]; exact mp_keepN h_141 z_184
  have h_150 : S181 a149 = some (2017, .inl ((g 0), 16, .inl (fun _ => 0))) := by rw [e_183]; exact mp_keepN h_150 z_184
  have h_159 : S181 a158 = some (2018, .inl ((g 0), 16, .inl (fun _ => 0))) := by rw [e_183]; exact mp_keepN h_159 z_184
  have h_168 : S181 a167 = some (2019, .inl ((g 0), 1700, .inl (fun _ => 0))) := by rw [e_183]; exact mp_keepN h_168 z_184
  have h_177 : S181 a176 = some (2020, .inl ((g 0), 64, .inl (fun _ => 0))) := by rw [e_183]; exact mp_keepN h_177 z_184
  have h_186 : S181 a185 = some (2021, .inl ((g 0), 256, .inl (fun _ => 0))) := by rw [e_183]; exact mp_us _ _ _
  have nb_a185 : ∀ b, S b ≠ none → b ≠ o → b ≠ a185 := fun b h9 k0 z9 => h9 ((hfr b h9 k0).symm.trans (by rw [z9]; exact z_184))
  have hfr : ∀ b, S b ≠ none → b ≠ o → S181 b = S b := fun b h9 k0 => by rw [e_183]; exact (mp_un (nb_a185 b h9 k0)).trans (hfr b h9 k0)
  refine mp_putF (C := R_M) (T := F_M) (N := 31) (v := .ref a185) (ty := .array .int) hx hb hg i_M t_M t_M_ok n_M hown hK.va hI h_o rfl 29 (by decide) (hg _ q_833) (fun _ h9 => h9) rfl hin rfl (by decide +kernel) (rfl) rfl (Nat.le_of_ble_eq_true rfl) d_M_init_172 (fun S187 H188 locs e_189 hI => ?_)
  have e_189 : S187 = va_up S181 o (some (2000, .inr (10, [.int 0, .int 0, .int 0, .int 0, .ref a5, .int 0, .ref a14, .ref a23, .ref a32, .ref a41, .ref a50, .ref a59, .int 0, .int 0, .int 0, .ref a68, .ref a77, .ref a86, .ref a95, .ref a104, .ref a113, .int 0, .ref a122, .ref a131, .ref a140, .ref a149, .ref a158, .ref a167, .ref a176, .ref a185, .null]))) := e_189
  have h_6 : S187 a5 = some (2001, .inl ((g 0), 40000, .inl (fun _ => 0))) := by rw [e_189]; exact mp_keep h_6 h_o (by decide)
  have h_15 : S187 a14 = some (2002, .inl ((g 0), 12, .inl (fun _ => 0))) := by rw [e_189]; exact mp_keep h_15 h_o (by decide)
  have h_24 : S187 a23 = some (2003, .inl ((g 0), 12000, .inl (fun _ => 0))) := by rw [e_189]; exact mp_keep h_24 h_o (by decide)
  have h_33 : S187 a32 = some (2004, .inl ((g 0), 12000, .inl (fun _ => 0))) := by rw [e_189]; exact mp_keep h_33 h_o (by decide)
  have h_42 : S187 a41 = some (2005, .inl ((g 0), 12, .inl (fun _ => 0))) := by rw [e_189]; exact mp_keep h_42 h_o (by decide)
  have h_51 : S187 a50 = some (2006, .inl ((g 0), 12, .inl (fun _ => 0))) := by rw [e_189]; exact mp_keep h_51 h_o (by decide)
  have h_60 : S187 a59 = some (2007, .inl ((g 0), 21952, .inl (fun _ => 0))) := by rw [e_189]; exact mp_keep h_60 h_o (by decide)
  have h_69 : S187 a68 = some (2008, .inl ((g 0), 17, .inl (fun _ => 0))) := by rw [e_189]; exact mp_keep h_69 h_o (by decide)
  have h_78 : S187 a77 = some (2009, .inl ((g 0), 768, .inl (fun _ => 0))) := by rw [e_189]; exact mp_keep h_78 h_o (by decide)
  have h_87 : S187 a86 = some (2010, .inl ((g 0), 3, .inl (fun _ => 0))) := by rw [e_189]; exact mp_keep h_87 h_o (by decide)
  have h_96 : S187 a95 = some (2011, .inl ((g 0), 51, .inl (fun _ => 0))) := by rw [e_189]; exact mp_keep h_96 h_o (by decide)
  have h_105 : S187 a104 = some (2012, .inl ((g 0), 3, .inl (fun _ => 0))) := by rw [e_189]; exact mp_keep h_105 h_o (by decide)
  have h_114 : S187 a113 = some (2013, .inl ((g 0), 51, .inl (fun _ => 0))) := by rw [e_189]; exact mp_keep h_114 h_o (by decide)
  have h_123 : S187 a122 = some (2014, .inl ((g 0), 51, .inl (fun _ => 0))) := by rw [e_189]; exact mp_keep h_123 h_o (by decide)
  have h_132 : S187 a131 = some (2015, .inl ((g 0), 17, .inl (fun _ => 0))) := by rw [e_189]; exact mp_keep h_132 h_o (by decide)
  have h_141 : S187 a140 = some (2016, .inl ((g 5), 3, .inl (fun _ => 0))) := by rw [e_189]; exact mp_keep h_141 h_o (by decide)
  have h_150 : S187 a149 = some (2017, .inl ((g 0), 16, .inl (fun _ => 0))) := by rw [e_189]; exact mp_keep h_150 h_o (by decide)
  have h_159 : S187 a158 = some (2018, .inl ((g 0), 16, .inl (fun _ => 0))) := by rw [e_189]; exact mp_keep h_159 h_o (by decide)
  have h_168 : S187 a167 = some (2019, .inl ((g 0), 1700, .inl (fun _ => 0))) := by rw [e_189]; exact mp_keep h_168 h_o (by decide)
  have h_177 : S187 a176 = some (2020, .inl ((g 0), 64, .inl (fun _ => 0))) := by rw [e_189]; exact mp_keep h_177 h_o (by decide)
  have h_186 : S187 a185 = some (2021, .inl ((g 0), 256, .inl (fun _ => 0))) := by rw [e_189]; exact mp_keep h_186 h_o (by decide)
  have h_o : S187 o = some (2000, .inr (10, [.int 0, .int 0, .int 0, .int 0, .ref a5, .int 0, .ref a14, .ref a23, .ref a32, .ref a41, .ref a50, .ref a59, .int 0, .int 0, .int 0, .ref a68, .ref a77, .ref a86, .ref a95, .ref a104, .ref a113, .int 0, .ref a122, .ref a131, .ref a140, .ref a149, .ref a158, .ref a167, .ref a176, .ref a185, .null])) := by rw [e_189]; exact mp_us _ _ _
  have hfr : ∀ b, S b ≠ none → b ≠ o → S187 b = S b := fun b h9 k0 => by rw [e_189]; exact (mp_un k0).trans (hfr b h9 k0)
  refine lv_aload_n hx hb d_M_init_175 rfl (lv_at hl 0 rfl) ?_
  refine lv_sipush (v := nI 256) hx hb d_M_init_176 (by decide) ?_
  have hI0 := hI
  refine mp_newi (N' := 256) hx hb (hg _ q_60) hK.va hI 0 2022 rfl (by decide) (by decide) (Nat.le_of_ble_eq_true rfl) (Nat.le_of_ble_eq_true rfl) (Nat.le_of_ble_eq_true rfl) d_M_init_179 (fun S190 H191 z_193 e_192 hI => ?_)
  obtain ⟨a194, ea194⟩ : ∃ z, z = H188.size := ⟨_, rfl⟩
  have g_a194 : s.heap.size ≤ a194 := by rw [ea194]; exact hI0.2.2.1.1
  rw [← ea194] at z_193 e_192
  refine W.eq (g2 := F0 m 181 ls [.ref a194, .ref o]) (by rw [ea194]) ?_
  have h_o : S190 o = some (2000, .inr (10, [.int 0, .int 0, .int 0, .int 0, .ref a5, .int 0, .ref a14, .ref a23, .ref a32, .ref a41, .ref a50, .ref a59, .int 0, .int 0, .int 0, .ref a68, .ref a77, .ref a86, .ref a95, .ref a104, .ref a113, .int 0, .ref a122, .ref a131, .ref a140, .ref a149, .ref a158, .ref a167, .ref a176, .ref a185, .null])) := by rw [e_192]; exact mp_keepN h_o z_193
  have h_6 : S190 a5 = some (2001, .inl ((g 0), 40000, .inl (fun _ => 0))) := by rw [e_192]; exact mp_keepN h_6 z_193
  have h_15 : S190 a14 = some (2002, .inl ((g 0), 12, .inl (fun _ => 0))) := by rw [e_192]; exact mp_keepN h_15 z_193
  have h_24 : S190 a23 = some (2003, .inl ((g 0), 12000, .inl (fun _ => 0))) := by rw [e_192]; exact mp_keepN h_24 z_193
  have h_33 : S190 a32 = some (2004, .inl ((g 0), 12000, .inl (fun _ => 0))) := by rw [e_192]; exact mp_keepN h_33 z_193
  have h_42 : S190 a41 = some (2005, .inl ((g 0), 12, .inl (fun _ => 0))) := by rw [e_192]; exact mp_keepN h_42 z_193
  have h_51 : S190 a50 = some (2006, .inl ((g 0), 12, .inl (fun _ => 0))) := by rw [e_192]; exact mp_keepN h_51 z_193
  have h_60 : S190 a59 = some (2007, .inl ((g 0), 21952, .inl (fun _ => 0))) := by rw [e_192]; exact mp_keepN h_60 z_193
  have h_69 : S190 a68 = some (2008, .inl ((g 0), 17, .inl (fun _ => 0))) := by rw [e_192]; exact mp_keepN h_69 z_193
  have h_78 : S190 a77 = some (2009, .inl ((g 0), 768, .inl (fun _ => 0))) := by rw [e_192]; exact mp_keepN h_78 z_193
  have h_87 : S190 a86 = some (2010, .inl ((g 0), 3, .inl (fun _ => 0))) := by rw [e_192]; exact mp_keepN h_87 z_193
  have h_96 : S190 a95 = some (2011, .inl ((g 0), 51, .inl (fun _ => 0))) := by rw [e_192]; exact mp_keepN h_96 z_193
  have h_105 : S190 a104 = some (2012, .inl ((g 0), 3, .inl (fun _ => 0))) := by rw [e_192]; exact mp_keepN h_105 z_193
  have h_114 : S190 a113 = some (2013, .inl ((g 0), 51, .inl (fun _ => 0))) := by rw [e_192]; exact mp_keepN h_114 z_193
  have h_123 : S190 a122 = some (2014, .inl ((g 0), 51, .inl (fun _ => 0))) := by rw [e_192]; exact mp_keepN h_123 z_193
  have h_132 : S190 a131 = some (2015, .inl ((g 0), 17, .inl (fun _ => 0))) := by rw [e_192]; exact mp_keepN h_132 z_193
  have h_141 : S190 a140 = some (2016, .inl ((g 5), 3, .inl (fun _ => 0))) := by rw [e_192]; exact mp_keepN h_141 z_193
  have h_150 : S190 a149 = some (2017, .inl ((g 0), 16, .inl (fun _ => 0))) := by rw [e_192]; exact mp_keepN h_150 z_193
  have h_159 : S190 a158 = some (2018, .inl ((g 0), 16, .inl (fun _ => 0))) := by rw [e_192]; exact mp_keepN h_159 z_193
  have h_168 : S190 a167 = some (2019, .inl ((g 0), 1700, .inl (fun _ => 0))) := by rw [e_192]; exact mp_keepN h_168 z_193
  have h_177 : S190 a176 = some (2020, .inl ((g 0), 64, .inl (fun _ => 0))) := by rw [e_192]; exact mp_keepN h_177 z_193
  have h_186 : S190 a185 = some (2021, .inl ((g 0), 256, .inl (fun _ => 0))) := by rw [e_192]; exact mp_keepN h_186 z_193
  have h_195 : S190 a194 = some (2022, .inl ((g 0), 256, .inl (fun _ => 0))) := by rw [e_192]; exact mp_us _ _ _
  have nb_a194 : ∀ b, S b ≠ none → b ≠ o → b ≠ a194 := fun b h9 k0 z9 => h9 ((hfr b h9 k0).symm.trans (by rw [z9]; exact z_193))
  have hfr : ∀ b, S b ≠ none → b ≠ o → S190 b = S b := fun b h9 k0 => by rw [e_192]; exact (mp_un (nb_a194 b h9 k0)).trans (hfr b h9 k0)
  refine mp_putF (C := R_M) (T := F_M) (N := 31) (v := .ref a194) (ty := .array .int) hx hb hg i_M t_M t_M_ok n_M hown hK.va hI h_o rfl 30 (by decide) (hg _ q_834) (fun _ h9 => h9) rfl hin rfl (by decide +kernel) (rfl) rfl (Nat.le_of_ble_eq_true rfl) d_M_init_181 (fun S196 H197 locs e_198 hI => ?_)
  have e_198 : S196 = va_up S190 o (some (2000, .inr (10, [.int 0, .int 0, .int 0, .int 0, .ref a5, .int 0, .ref a14, .ref a23, .ref a32, .ref a41, .ref a50, .ref a59, .int 0, .int 0, .int 0, .ref a68, .ref a77, .ref a86, .ref a95, .ref a104, .ref a113, .int 0, .ref a122, .ref a131, .ref a140, .ref a149, .ref a158, .ref a167, .ref a176, .ref a185, .ref a194]))) := e_198
  have h_6 : S196 a5 = some (2001, .inl ((g 0), 40000, .inl (fun _ => 0))) := by rw [e_198]; exact mp_keep h_6 h_o (by decide)
  have h_15 : S196 a14 = some (2002, .inl ((g 0), 12, .inl (fun _ => 0))) := by rw [e_198]; exact mp_keep h_15 h_o (by decide)
  have h_24 : S196 a23 = some (2003, .inl ((g 0), 12000, .inl (fun _ => 0))) := by rw [e_198]; exact mp_keep h_24 h_o (by decide)
  have h_33 : S196 a32 = some (2004, .inl ((g 0), 12000, .inl (fun _ => 0))) := by rw [e_198]; exact mp_keep h_33 h_o (by decide)
  have h_42 : S196 a41 = some (2005, .inl ((g 0), 12, .inl (fun _ => 0))) := by rw [e_198]; exact mp_keep h_42 h_o (by decide)
  have h_51 : S196 a50 = some (2006, .inl ((g 0), 12, .inl (fun _ => 0))) := by rw [e_198]; exact mp_keep h_51 h_o (by decide)
  have h_60 : S196 a59 = some (2007, .inl ((g 0), 21952, .inl (fun _ => 0))) := by rw [e_198]; exact mp_keep h_60 h_o (by decide)
  have h_69 : S196 a68 = some (2008, .inl ((g 0), 17, .inl (fun _ => 0))) := by rw [e_198]; exact mp_keep h_69 h_o (by decide)
  have h_78 : S196 a77 = some (2009, .inl ((g 0), 768, .inl (fun _ => 0))) := by rw [e_198]; exact mp_keep h_78 h_o (by decide)
  have h_87 : S196 a86 = some (2010, .inl ((g 0), 3, .inl (fun _ => 0))) := by rw [e_198]; exact mp_keep h_87 h_o (by decide)
  have h_96 : S196 a95 = some (2011, .inl ((g 0), 51, .inl (fun _ => 0))) := by rw [e_198]; exact mp_keep h_96 h_o (by decide)
  have h_105 : S196 a104 = some (2012, .inl ((g 0), 3, .inl (fun _ => 0))) := by rw [e_198]; exact mp_keep h_105 h_o (by decide)
  have h_114 : S196 a113 = some (2013, .inl ((g 0), 51, .inl (fun _ => 0))) := by rw [e_198]; exact mp_keep h_114 h_o (by decide)
  have h_123 : S196 a122 = some (2014, .inl ((g 0), 51, .inl (fun _ => 0))) := by rw [e_198]; exact mp_keep h_123 h_o (by decide)
  have h_132 : S196 a131 = some (2015, .inl ((g 0), 17, .inl (fun _ => 0))) := by rw [e_198]; exact mp_keep h_132 h_o (by decide)
  have h_141 : S196 a140 = some (2016, .inl ((g 5), 3, .inl (fun _ => 0))) := by rw [e_198]; exact mp_keep h_141 h_o (by decide)
  have h_150 : S196 a149 = some (2017, .inl ((g 0), 16, .inl (fun _ => 0))) := by rw [e_198]; exact mp_keep h_150 h_o (by decide)
  have h_159 : S196 a158 = some (2018, .inl ((g 0), 16, .inl (fun _ => 0))) := by rw [e_198]; exact mp_keep h_159 h_o (by decide)
  have h_168 : S196 a167 = some (2019, .inl ((g 0), 1700, .inl (fun _ => 0))) := by rw [e_198]; exact mp_keep h_168 h_o (by decide)
  have h_177 : S196 a176 = some (2020, .inl ((g 0), 64, .inl (fun _ => 0))) := by rw [e_198]; exact mp_keep h_177 h_o (by decide)
  have h_186 : S196 a185 = some (2021, .inl ((g 0), 256, .inl (fun _ => 0))) := by rw [e_198]; exact mp_keep h_186 h_o (by decide)
  have h_195 : S196 a194 = some (2022, .inl ((g 0), 256, .inl (fun _ => 0))) := by rw [e_198]; exact mp_keep h_195 h_o (by decide)
  have h_o : S196 o = some (2000, .inr (10, [.int 0, .int 0, .int 0, .int 0, .ref a5, .int 0, .ref a14, .ref a23, .ref a32, .ref a41, .ref a50, .ref a59, .int 0, .int 0, .int 0, .ref a68, .ref a77, .ref a86, .ref a95, .ref a104, .ref a113, .int 0, .ref a122, .ref a131, .ref a140, .ref a149, .ref a158, .ref a167, .ref a176, .ref a185, .ref a194])) := by rw [e_198]; exact mp_us _ _ _
  have hfr : ∀ b, S b ≠ none → b ≠ o → S196 b = S b := fun b h9 k0 => by rw [e_198]; exact (mp_un k0).trans (hfr b h9 k0)
  refine lv_aload_n hx hb d_M_init_184 rfl (lv_at hl 0 rfl) ?_
  refine lv_iload_n hx hb d_M_init_185 rfl (lv_at hl 1 rfl) ?_
  refine lv_iconst (v := nI 1) hx hb d_M_init_186 (by decide) ?_
  rcases lc_cases x with ⟨q1, q2⟩ | ⟨q1, q2⟩ | ⟨q1, q2, q3, _, _⟩
  · refine lv_icmp_ge (tgt := 194) hx hb d_M_init_187 (by decide) (fun h9 => absurd h9 (fun h9 => absurd q1 (Int32.not_lt.mpr h9))) (fun _ => ?_)
    refine lv_iconst (v := nI 1) hx hb d_M_init_190 (by decide) ?_
    refine lv_goto (tgt := 204) hx hb d_M_init_191 (by decide) ?_
    refine lv_topi (fun v199 ev199 => ?_)
    obtain rfl : v199 = nI (lcN x) := ev199.trans (by rw [q2])
    refine mp_putF (C := R_M) (T := F_M) (N := 31) (v := .int (nI (lcN x))) (ty := .int) hx hb hg i_M t_M t_M_ok n_M hown hK.va hI h_o rfl 0 (by decide) (hg _ q_804) (fun _ h9 => h9) rfl hin rfl (by decide +kernel) (rfl) rfl (Nat.le_of_ble_eq_true rfl) d_M_init_204 (fun S200 H201 locs e_202 hI => ?_)
    have e_202 : S200 = va_up S196 o (some (2000, .inr (10, [.int (nI (lcN x)), .int 0, .int 0, .int 0, .ref a5, .int 0, .ref a14, .ref a23, .ref a32, .ref a41, .ref a50, .ref a59, .int 0, .int 0, .int 0, .ref a68, .ref a77, .ref a86, .ref a95, .ref a104, .ref a113, .int 0, .ref a122, .ref a131, .ref a140, .ref a149, .ref a158, .ref a167, .ref a176, .ref a185, .ref a194]))) := e_202
    have h_6 : S200 a5 = some (2001, .inl ((g 0), 40000, .inl (fun _ => 0))) := by rw [e_202]; exact mp_keep h_6 h_o (by decide)
    have h_15 : S200 a14 = some (2002, .inl ((g 0), 12, .inl (fun _ => 0))) := by rw [e_202]; exact mp_keep h_15 h_o (by decide)
    have h_24 : S200 a23 = some (2003, .inl ((g 0), 12000, .inl (fun _ => 0))) := by rw [e_202]; exact mp_keep h_24 h_o (by decide)
    have h_33 : S200 a32 = some (2004, .inl ((g 0), 12000, .inl (fun _ => 0))) := by rw [e_202]; exact mp_keep h_33 h_o (by decide)
    have h_42 : S200 a41 = some (2005, .inl ((g 0), 12, .inl (fun _ => 0))) := by rw [e_202]; exact mp_keep h_42 h_o (by decide)
    have h_51 : S200 a50 = some (2006, .inl ((g 0), 12, .inl (fun _ => 0))) := by rw [e_202]; exact mp_keep h_51 h_o (by decide)
    have h_60 : S200 a59 = some (2007, .inl ((g 0), 21952, .inl (fun _ => 0))) := by rw [e_202]; exact mp_keep h_60 h_o (by decide)
    have h_69 : S200 a68 = some (2008, .inl ((g 0), 17, .inl (fun _ => 0))) := by rw [e_202]; exact mp_keep h_69 h_o (by decide)
    have h_78 : S200 a77 = some (2009, .inl ((g 0), 768, .inl (fun _ => 0))) := by rw [e_202]; exact mp_keep h_78 h_o (by decide)
    have h_87 : S200 a86 = some (2010, .inl ((g 0), 3, .inl (fun _ => 0))) := by rw [e_202]; exact mp_keep h_87 h_o (by decide)
    have h_96 : S200 a95 = some (2011, .inl ((g 0), 51, .inl (fun _ => 0))) := by rw [e_202]; exact mp_keep h_96 h_o (by decide)
    have h_105 : S200 a104 = some (2012, .inl ((g 0), 3, .inl (fun _ => 0))) := by rw [e_202]; exact mp_keep h_105 h_o (by decide)
    have h_114 : S200 a113 = some (2013, .inl ((g 0), 51, .inl (fun _ => 0))) := by rw [e_202]; exact mp_keep h_114 h_o (by decide)
    have h_123 : S200 a122 = some (2014, .inl ((g 0), 51, .inl (fun _ => 0))) := by rw [e_202]; exact mp_keep h_123 h_o (by decide)
    have h_132 : S200 a131 = some (2015, .inl ((g 0), 17, .inl (fun _ => 0))) := by rw [e_202]; exact mp_keep h_132 h_o (by decide)
    have h_141 : S200 a140 = some (2016, .inl ((g 5), 3, .inl (fun _ => 0))) := by rw [e_202]; exact mp_keep h_141 h_o (by decide)
    have h_150 : S200 a149 = some (2017, .inl ((g 0), 16, .inl (fun _ => 0))) := by rw [e_202]; exact mp_keep h_150 h_o (by decide)
    have h_159 : S200 a158 = some (2018, .inl ((g 0), 16, .inl (fun _ => 0))) := by rw [e_202]; exact mp_keep h_159 h_o (by decide)
    have h_168 : S200 a167 = some (2019, .inl ((g 0), 1700, .inl (fun _ => 0))) := by rw [e_202]; exact mp_keep h_168 h_o (by decide)
    have h_177 : S200 a176 = some (2020, .inl ((g 0), 64, .inl (fun _ => 0))) := by rw [e_202]; exact mp_keep h_177 h_o (by decide)
    have h_186 : S200 a185 = some (2021, .inl ((g 0), 256, .inl (fun _ => 0))) := by rw [e_202]; exact mp_keep h_186 h_o (by decide)
    have h_195 : S200 a194 = some (2022, .inl ((g 0), 256, .inl (fun _ => 0))) := by rw [e_202]; exact mp_keep h_195 h_o (by decide)
    have h_o : S200 o = some (2000, .inr (10, [.int (nI (lcN x)), .int 0, .int 0, .int 0, .ref a5, .int 0, .ref a14, .ref a23, .ref a32, .ref a41, .ref a50, .ref a59, .int 0, .int 0, .int 0, .ref a68, .ref a77, .ref a86, .ref a95, .ref a104, .ref a113, .int 0, .ref a122, .ref a131, .ref a140, .ref a149, .ref a158, .ref a167, .ref a176, .ref a185, .ref a194])) := by rw [e_202]; exact mp_us _ _ _
    have hfr : ∀ b, S b ≠ none → b ≠ o → S200 b = S b := fun b h9 k0 => by rw [e_202]; exact (mp_un k0).trans (hfr b h9 k0)
    refine mp_vret hx hb hr hlocks hI (by decide) (by decide) ?_ d_M_init_207
    refine ⟨(fun t => if t = 2001 then a5 else if t = 2002 then a14 else if t = 2003 then a23 else if t = 2004 then a32 else if t = 2005 then a41 else if t = 2006 then a50 else if t = 2007 then a59 else if t = 2008 then a68 else if t = 2009 then a77 else if t = 2010 then a86 else if t = 2011 then a95 else if t = 2012 then a104 else if t = 2013 then a113 else if t = 2014 then a122 else if t = 2015 then a131 else if t = 2016 then a140 else if t = 2017 then a149 else if t = 2018 then a158 else if t = 2019 then a167 else if t = 2020 then a176 else if t = 2021 then a185 else if t = 2022 then a194 else  0), ⟨h_o, h_6, h_15, h_24, h_33, h_42, h_51, h_60, h_69, h_78, h_87, h_96, h_105, h_114, h_123, h_132, h_141, h_150, h_159, h_168, h_177, h_186, h_195⟩, hfr⟩
  · refine lv_icmp_ge (tgt := 194) hx hb d_M_init_187 (by decide) (fun _ => ?_) (fun h9 => absurd (Int32.le_trans (by decide) (Int32.le_of_lt q1)) h9)
    refine lv_iload_n hx hb d_M_init_194 rfl (lv_at hl 1 rfl) ?_
    refine lv_iconst (v := nI 3) hx hb d_M_init_195 (by decide) ?_
    refine lv_icmp_le (tgt := 203) hx hb d_M_init_196 (by decide) (fun h9 => absurd h9 (Int32.not_le.mpr q1)) (fun _ => ?_)
    refine lv_iconst (v := nI 3) hx hb d_M_init_199 (by decide) ?_
    refine lv_goto (tgt := 204) hx hb d_M_init_200 (by decide) ?_
    refine lv_topi (fun v203 ev203 => ?_)
    obtain rfl : v203 = nI (lcN x) := ev203.trans (by rw [q2])
    refine mp_putF (C := R_M) (T := F_M) (N := 31) (v := .int (nI (lcN x))) (ty := .int) hx hb hg i_M t_M t_M_ok n_M hown hK.va hI h_o rfl 0 (by decide) (hg _ q_804) (fun _ h9 => h9) rfl hin rfl (by decide +kernel) (rfl) rfl (Nat.le_of_ble_eq_true rfl) d_M_init_204 (fun S204 H205 locs e_206 hI => ?_)
    have e_206 : S204 = va_up S196 o (some (2000, .inr (10, [.int (nI (lcN x)), .int 0, .int 0, .int 0, .ref a5, .int 0, .ref a14, .ref a23, .ref a32, .ref a41, .ref a50, .ref a59, .int 0, .int 0, .int 0, .ref a68, .ref a77, .ref a86, .ref a95, .ref a104, .ref a113, .int 0, .ref a122, .ref a131, .ref a140, .ref a149, .ref a158, .ref a167, .ref a176, .ref a185, .ref a194]))) := e_206
    have h_6 : S204 a5 = some (2001, .inl ((g 0), 40000, .inl (fun _ => 0))) := by rw [e_206]; exact mp_keep h_6 h_o (by decide)
    have h_15 : S204 a14 = some (2002, .inl ((g 0), 12, .inl (fun _ => 0))) := by rw [e_206]; exact mp_keep h_15 h_o (by decide)
    have h_24 : S204 a23 = some (2003, .inl ((g 0), 12000, .inl (fun _ => 0))) := by rw [e_206]; exact mp_keep h_24 h_o (by decide)
    have h_33 : S204 a32 = some (2004, .inl ((g 0), 12000, .inl (fun _ => 0))) := by rw [e_206]; exact mp_keep h_33 h_o (by decide)
    have h_42 : S204 a41 = some (2005, .inl ((g 0), 12, .inl (fun _ => 0))) := by rw [e_206]; exact mp_keep h_42 h_o (by decide)
    have h_51 : S204 a50 = some (2006, .inl ((g 0), 12, .inl (fun _ => 0))) := by rw [e_206]; exact mp_keep h_51 h_o (by decide)
    have h_60 : S204 a59 = some (2007, .inl ((g 0), 21952, .inl (fun _ => 0))) := by rw [e_206]; exact mp_keep h_60 h_o (by decide)
    have h_69 : S204 a68 = some (2008, .inl ((g 0), 17, .inl (fun _ => 0))) := by rw [e_206]; exact mp_keep h_69 h_o (by decide)
    have h_78 : S204 a77 = some (2009, .inl ((g 0), 768, .inl (fun _ => 0))) := by rw [e_206]; exact mp_keep h_78 h_o (by decide)
    have h_87 : S204 a86 = some (2010, .inl ((g 0), 3, .inl (fun _ => 0))) := by rw [e_206]; exact mp_keep h_87 h_o (by decide)
    have h_96 : S204 a95 = some (2011, .inl ((g 0), 51, .inl (fun _ => 0))) := by rw [e_206]; exact mp_keep h_96 h_o (by decide)
    have h_105 : S204 a104 = some (2012, .inl ((g 0), 3, .inl (fun _ => 0))) := by rw [e_206]; exact mp_keep h_105 h_o (by decide)
    have h_114 : S204 a113 = some (2013, .inl ((g 0), 51, .inl (fun _ => 0))) := by rw [e_206]; exact mp_keep h_114 h_o (by decide)
    have h_123 : S204 a122 = some (2014, .inl ((g 0), 51, .inl (fun _ => 0))) := by rw [e_206]; exact mp_keep h_123 h_o (by decide)
    have h_132 : S204 a131 = some (2015, .inl ((g 0), 17, .inl (fun _ => 0))) := by rw [e_206]; exact mp_keep h_132 h_o (by decide)
    have h_141 : S204 a140 = some (2016, .inl ((g 5), 3, .inl (fun _ => 0))) := by rw [e_206]; exact mp_keep h_141 h_o (by decide)
    have h_150 : S204 a149 = some (2017, .inl ((g 0), 16, .inl (fun _ => 0))) := by rw [e_206]; exact mp_keep h_150 h_o (by decide)
    have h_159 : S204 a158 = some (2018, .inl ((g 0), 16, .inl (fun _ => 0))) := by rw [e_206]; exact mp_keep h_159 h_o (by decide)
    have h_168 : S204 a167 = some (2019, .inl ((g 0), 1700, .inl (fun _ => 0))) := by rw [e_206]; exact mp_keep h_168 h_o (by decide)
    have h_177 : S204 a176 = some (2020, .inl ((g 0), 64, .inl (fun _ => 0))) := by rw [e_206]; exact mp_keep h_177 h_o (by decide)
    have h_186 : S204 a185 = some (2021, .inl ((g 0), 256, .inl (fun _ => 0))) := by rw [e_206]; exact mp_keep h_186 h_o (by decide)
    have h_195 : S204 a194 = some (2022, .inl ((g 0), 256, .inl (fun _ => 0))) := by rw [e_206]; exact mp_keep h_195 h_o (by decide)
    have h_o : S204 o = some (2000, .inr (10, [.int (nI (lcN x)), .int 0, .int 0, .int 0, .ref a5, .int 0, .ref a14, .ref a23, .ref a32, .ref a41, .ref a50, .ref a59, .int 0, .int 0, .int 0, .ref a68, .ref a77, .ref a86, .ref a95, .ref a104, .ref a113, .int 0, .ref a122, .ref a131, .ref a140, .ref a149, .ref a158, .ref a167, .ref a176, .ref a185, .ref a194])) := by rw [e_206]; exact mp_us _ _ _
    have hfr : ∀ b, S b ≠ none → b ≠ o → S204 b = S b := fun b h9 k0 => by rw [e_206]; exact (mp_un k0).trans (hfr b h9 k0)
    refine mp_vret hx hb hr hlocks hI (by decide) (by decide) ?_ d_M_init_207
    refine ⟨(fun t => if t = 2001 then a5 else if t = 2002 then a14 else if t = 2003 then a23 else if t = 2004 then a32 else if t = 2005 then a41 else if t = 2006 then a50 else if t = 2007 then a59 else if t = 2008 then a68 else if t = 2009 then a77 else if t = 2010 then a86 else if t = 2011 then a95 else if t = 2012 then a104 else if t = 2013 then a113 else if t = 2014 then a122 else if t = 2015 then a131 else if t = 2016 then a140 else if t = 2017 then a149 else if t = 2018 then a158 else if t = 2019 then a167 else if t = 2020 then a176 else if t = 2021 then a185 else if t = 2022 then a194 else  0), ⟨h_o, h_6, h_15, h_24, h_33, h_42, h_51, h_60, h_69, h_78, h_87, h_96, h_105, h_114, h_123, h_132, h_141, h_150, h_159, h_168, h_177, h_186, h_195⟩, hfr⟩
  · refine lv_icmp_ge (tgt := 194) hx hb d_M_init_187 (by decide) (fun _ => ?_) (fun h9 => absurd (Int32.not_lt.mp q1) h9)
    refine lv_iload_n hx hb d_M_init_194 rfl (lv_at hl 1 rfl) ?_
    refine lv_iconst (v := nI 3) hx hb d_M_init_195 (by decide) ?_
    refine lv_icmp_le (tgt := 203) hx hb d_M_init_196 (by decide) (fun _ => ?_) (fun h9 => absurd (Int32.not_lt.mp q2) h9)
    refine lv_iload_n hx hb d_M_init_203 rfl (lv_at hl 1 rfl) ?_
    refine lv_topi (fun v207 ev207 => ?_)
    obtain rfl : v207 = nI (lcN x) := ev207.trans (q3)
    refine mp_putF (C := R_M) (T := F_M) (N := 31) (v := .int (nI (lcN x))) (ty := .int) hx hb hg i_M t_M t_M_ok n_M hown hK.va hI h_o rfl 0 (by decide) (hg _ q_804) (fun _ h9 => h9) rfl hin rfl (by decide +kernel) (rfl) rfl (Nat.le_of_ble_eq_true rfl) d_M_init_204 (fun S208 H209 locs e_210 hI => ?_)
    have e_210 : S208 = va_up S196 o (some (2000, .inr (10, [.int (nI (lcN x)), .int 0, .int 0, .int 0, .ref a5, .int 0, .ref a14, .ref a23, .ref a32, .ref a41, .ref a50, .ref a59, .int 0, .int 0, .int 0, .ref a68, .ref a77, .ref a86, .ref a95, .ref a104, .ref a113, .int 0, .ref a122, .ref a131, .ref a140, .ref a149, .ref a158, .ref a167, .ref a176, .ref a185, .ref a194]))) := e_210
    have h_6 : S208 a5 = some (2001, .inl ((g 0), 40000, .inl (fun _ => 0))) := by rw [e_210]; exact mp_keep h_6 h_o (by decide)
    have h_15 : S208 a14 = some (2002, .inl ((g 0), 12, .inl (fun _ => 0))) := by rw [e_210]; exact mp_keep h_15 h_o (by decide)
    have h_24 : S208 a23 = some (2003, .inl ((g 0), 12000, .inl (fun _ => 0))) := by rw [e_210]; exact mp_keep h_24 h_o (by decide)
    have h_33 : S208 a32 = some (2004, .inl ((g 0), 12000, .inl (fun _ => 0))) := by rw [e_210]; exact mp_keep h_33 h_o (by decide)
    have h_42 : S208 a41 = some (2005, .inl ((g 0), 12, .inl (fun _ => 0))) := by rw [e_210]; exact mp_keep h_42 h_o (by decide)
    have h_51 : S208 a50 = some (2006, .inl ((g 0), 12, .inl (fun _ => 0))) := by rw [e_210]; exact mp_keep h_51 h_o (by decide)
    have h_60 : S208 a59 = some (2007, .inl ((g 0), 21952, .inl (fun _ => 0))) := by rw [e_210]; exact mp_keep h_60 h_o (by decide)
    have h_69 : S208 a68 = some (2008, .inl ((g 0), 17, .inl (fun _ => 0))) := by rw [e_210]; exact mp_keep h_69 h_o (by decide)
    have h_78 : S208 a77 = some (2009, .inl ((g 0), 768, .inl (fun _ => 0))) := by rw [e_210]; exact mp_keep h_78 h_o (by decide)
    have h_87 : S208 a86 = some (2010, .inl ((g 0), 3, .inl (fun _ => 0))) := by rw [e_210]; exact mp_keep h_87 h_o (by decide)
    have h_96 : S208 a95 = some (2011, .inl ((g 0), 51, .inl (fun _ => 0))) := by rw [e_210]; exact mp_keep h_96 h_o (by decide)
    have h_105 : S208 a104 = some (2012, .inl ((g 0), 3, .inl (fun _ => 0))) := by rw [e_210]; exact mp_keep h_105 h_o (by decide)
    have h_114 : S208 a113 = some (2013, .inl ((g 0), 51, .inl (fun _ => 0))) := by rw [e_210]; exact mp_keep h_114 h_o (by decide)
    have h_123 : S208 a122 = some (2014, .inl ((g 0), 51, .inl (fun _ => 0))) := by rw [e_210]; exact mp_keep h_123 h_o (by decide)
    have h_132 : S208 a131 = some (2015, .inl ((g 0), 17, .inl (fun _ => 0))) := by rw [e_210]; exact mp_keep h_132 h_o (by decide)
    have h_141 : S208 a140 = some (2016, .inl ((g 5), 3, .inl (fun _ => 0))) := by rw [e_210]; exact mp_keep h_141 h_o (by decide)
    have h_150 : S208 a149 = some (2017, .inl ((g 0), 16, .inl (fun _ => 0))) := by rw [e_210]; exact mp_keep h_150 h_o (by decide)
    have h_159 : S208 a158 = some (2018, .inl ((g 0), 16, .inl (fun _ => 0))) := by rw [e_210]; exact mp_keep h_159 h_o (by decide)
    have h_168 : S208 a167 = some (2019, .inl ((g 0), 1700, .inl (fun _ => 0))) := by rw [e_210]; exact mp_keep h_168 h_o (by decide)
    have h_177 : S208 a176 = some (2020, .inl ((g 0), 64, .inl (fun _ => 0))) := by rw [e_210]; exact mp_keep h_177 h_o (by decide)
    have h_186 : S208 a185 = some (2021, .inl ((g 0), 256, .inl (fun _ => 0))) := by rw [e_210]; exact mp_keep h_186 h_o (by decide)
    have h_195 : S208 a194 = some (2022, .inl ((g 0), 256, .inl (fun _ => 0))) := by rw [e_210]; exact mp_keep h_195 h_o (by decide)
    have h_o : S208 o = some (2000, .inr (10, [.int (nI (lcN x)), .int 0, .int 0, .int 0, .ref a5, .int 0, .ref a14, .ref a23, .ref a32, .ref a41, .ref a50, .ref a59, .int 0, .int 0, .int 0, .ref a68, .ref a77, .ref a86, .ref a95, .ref a104, .ref a113, .int 0, .ref a122, .ref a131, .ref a140, .ref a149, .ref a158, .ref a167, .ref a176, .ref a185, .ref a194])) := by rw [e_210]; exact mp_us _ _ _
    have hfr : ∀ b, S b ≠ none → b ≠ o → S208 b = S b := fun b h9 k0 => by rw [e_210]; exact (mp_un k0).trans (hfr b h9 k0)
    refine mp_vret hx hb hr hlocks hI (by decide) (by decide) ?_ d_M_init_207
    refine ⟨(fun t => if t = 2001 then a5 else if t = 2002 then a14 else if t = 2003 then a23 else if t = 2004 then a32 else if t = 2005 then a41 else if t = 2006 then a50 else if t = 2007 then a59 else if t = 2008 then a68 else if t = 2009 then a77 else if t = 2010 then a86 else if t = 2011 then a95 else if t = 2012 then a104 else if t = 2013 then a113 else if t = 2014 then a122 else if t = 2015 then a131 else if t = 2016 then a140 else if t = 2017 then a149 else if t = 2018 then a158 else if t = 2019 then a167 else if t = 2020 then a176 else if t = 2021 then a185 else if t = 2022 then a194 else  0), ⟨h_o, h_6, h_15, h_24, h_33, h_42, h_51, h_60, h_69, h_78, h_87, h_96, h_105, h_114, h_123, h_132, h_141, h_150, h_159, h_168, h_177, h_186, h_195⟩, hfr⟩
set_option maxHeartbeats 4000000 in
set_option maxRecDepth 100000 in
/-- thrown -/
theorem c_M_thrown (l : Launch) (D : mp_G) (g : Nat → ClassId) (S : mp_M) (sz : Nat) (o : Nat) (m0 m1 m2 m4 m5 m6 m7 m8 m9 m10 m11 m12 m13 m14 m15 m16 m17 m18 m19 m20 m21 m22 m23 m24 m25 m26 m27 m28 m29 m30 : Value) (th : Int32) (h_o : S o = some (2000, .inr (10, [m0, m1, m2, .int th, m4, m5, m6, m7, m8, m9, m10, m11, m12, m13, m14, m15, m16, m17, m18, m19, m20, m21, m22, m23, m24, m25, m26, m27, m28, m29, m30])))  : Met l y_M_thrown w_M_thrown ({ frames := 0, cells := 0, slots := 0, locals := 0 }) (va_Pc [.ref o] (mp_B0 D classes (tys g) S sz)) (va_Qi (fun (r : Int32) (S1 : mp_M) => r = th ∧ S1 = S) (mp_B1 D classes S sz) (mp_A S sz)) 0 0 (mp_A S sz) := by
  refine Met.ofW (cc := b_M_thrown) (maxL := 1) (ret := (some .int)) (by decide) rfl ?_
  intro p e s m args below meth c s₁ B hml hv
  obtain ⟨rfl, hsz, hH, hK⟩ := hv
  have hx := B.exec
  have hb := B.bytes
  have hr := B.returns
  have hts := atoms_spec (ws := w_M_thrown) B.pre
  have hg : ∀ w ∈ gw, w.before _ s = true := fun w h => hts w (List.mem_cons_of_mem _ h)
  have hown : s.vm.findClass R_M = some m.cls := findClass_of_methodNamed B.named
  have hlocks := B.notSynchronized
  subst hsz
  have hI := mp_I.start hH
  have hl := lv_entry ([.ref o]) (n := 1) (Nat.le_of_ble_eq_true rfl)
  rw [lg_entry_eq]
  generalize (lg_sl ([.ref o]) ++ List.replicate (1 - (lg_sl ([.ref o])).length) Slot.unset).toArray = ls at hl ⊢
  have hl : lv_has ls 1 [(0, .ref o)] := hl
  refine lv_aload_n hx hb d_M_thrown_0 rfl (lv_at hl 0 rfl) ?_
  refine mp_get (C := R_M) (T := F_M) (N := 31) (v := .int th) hx hb hg i_M hown hK.va hI h_o rfl 3 (by decide) (hg _ q_807) (fun _ h9 => h9) rfl d_M_thrown_1 ?_
  refine mp_iret hx hb hr hlocks hI (by decide) (by decide) ?_ d_M_thrown_4
  exact ⟨rfl, rfl⟩
set_option maxHeartbeats 4000000 in
set_option maxRecDepth 100000 in
/-- no such polynomial -/
theorem c_M_isPolyN (l : Launch) (D : mp_G) (g : Nat → ClassId) (S : mp_M) (sz : Nat) (x : Int32)  (hx9 : x < 0 ∨ nI 40 ≤ x) : Met l y_M_isPoly w_M_isPoly ({ frames := 0, cells := 0, slots := 0, locals := 0 }) (va_Pc [.int x] (mp_B0 D classes (tys g) S sz)) (va_Qi (fun (r : Int32) (S1 : mp_M) => r = 0 ∧ S1 = S) (mp_B1 D classes S sz) (mp_A S sz)) 0 0 (mp_A S sz) := by
  refine Met.ofW (cc := b_M_isPoly) (maxL := 1) (ret := (some .boolean)) (by decide) rfl ?_
  intro p e s m args below meth c s₁ B hml hv
  obtain ⟨rfl, hsz, hH, hK⟩ := hv
  have hx := B.exec
  have hb := B.bytes
  have hr := B.returns
  have hts := atoms_spec (ws := w_M_isPoly) B.pre
  have hg : ∀ w ∈ gw, w.before _ s = true := fun w h => hts w (List.mem_cons_of_mem _ h)
  have hown : s.vm.findClass R_M = some m.cls := findClass_of_methodNamed B.named
  have hlocks := B.notSynchronized
  subst hsz
  have hI := mp_I.start hH
  have hl := lv_entry ([.int x]) (n := 1) (Nat.le_of_ble_eq_true rfl)
  rw [lg_entry_eq]
  generalize (lg_sl ([.int x]) ++ List.replicate (1 - (lg_sl ([.int x])).length) Slot.unset).toArray = ls at hl ⊢
  have hl : lv_has ls 1 [(0, .int x)] := hl
  refine lv_iload_n hx hb d_M_isPoly_0 rfl (lv_at hl 0 rfl) ?_
  refine lv_if_lt (tgt := 14) hx hb d_M_isPoly_1 (by decide) (fun c1 => ?_) (fun c1 => ?_)
  · refine lv_iconst (v := nI 0) hx hb d_M_isPoly_14 (by decide) ?_
    refine mp_zret hx hb hr hlocks hI (by decide) (by decide) ?_ (by decide) d_M_isPoly_15
    exact ⟨rfl, rfl⟩
  · refine lv_iload_n hx hb d_M_isPoly_4 rfl (lv_at hl 0 rfl) ?_
    refine lv_bipush (v := nI 40) hx hb d_M_isPoly_5 (by decide) ?_
    refine lv_icmp_ge (tgt := 14) hx hb d_M_isPoly_7 (by decide) (fun _ => ?_) (fun h9 => absurd (hx9.resolve_left c1) h9)
    refine lv_iconst (v := nI 0) hx hb d_M_isPoly_14 (by decide) ?_
    refine mp_zret hx hb hr hlocks hI (by decide) (by decide) ?_ (by decide) d_M_isPoly_15
    exact ⟨rfl, rfl⟩
set_option maxHeartbeats 4000000 in
set_option maxRecDepth 100000 in
/-- a polynomial -/
theorem c_M_isPoly (l : Launch) (D : mp_G) (g : Nat → ClassId) (S : mp_M) (sz : Nat) (k : Nat)  (hk : k < 40) : Met l y_M_isPoly w_M_isPoly ({ frames := 0, cells := 0, slots := 0, locals := 0 }) (va_Pc [.int (nI k)] (mp_B0 D classes (tys g) S sz)) (va_Qi (fun (r : Int32) (S1 : mp_M) => r = 1 ∧ S1 = S) (mp_B1 D classes S sz) (mp_A S sz)) 0 0 (mp_A S sz) := by
  refine Met.ofW (cc := b_M_isPoly) (maxL := 1) (ret := (some .boolean)) (by decide) rfl ?_
  intro p e s m args below meth c s₁ B hml hv
  obtain ⟨rfl, hsz, hH, hK⟩ := hv
  have hx := B.exec
  have hb := B.bytes
  have hr := B.returns
  have hts := atoms_spec (ws := w_M_isPoly) B.pre
  have hg : ∀ w ∈ gw, w.before _ s = true := fun w h => hts w (List.mem_cons_of_mem _ h)
  have hown : s.vm.findClass R_M = some m.cls := findClass_of_methodNamed B.named
  have hlocks := B.notSynchronized
  subst hsz
  have hI := mp_I.start hH
  have hl := lv_entry ([.int (nI k)]) (n := 1) (Nat.le_of_ble_eq_true rfl)
  rw [lg_entry_eq]
  generalize (lg_sl ([.int (nI k)]) ++ List.replicate (1 - (lg_sl ([.int (nI k)])).length) Slot.unset).toArray = ls at hl ⊢
  have hl : lv_has ls 1 [(0, .int (nI k))] := hl
  refine lv_iload_n hx hb d_M_isPoly_0 rfl (lv_at hl 0 rfl) ?_
  refine lv_if_lt (tgt := 14) hx hb d_M_isPoly_1 (by decide) (fun h9 => absurd h9 (nI_pos (by omega))) (fun _ => ?_)
  refine lv_iload_n hx hb d_M_isPoly_4 rfl (lv_at hl 0 rfl) ?_
  refine lv_bipush (v := nI 40) hx hb d_M_isPoly_5 (by decide) ?_
  refine lv_icmp_ge (tgt := 14) hx hb d_M_isPoly_7 (by decide) (fun h9 => absurd h9 (by rw [nI_leI (by omega) (by omega)]; omega)) (fun _ => ?_)
  refine lv_iconst (v := nI 1) hx hb d_M_isPoly_10 (by decide) ?_
  refine lv_goto (tgt := 15) hx hb d_M_isPoly_11 (by decide) ?_
  refine mp_zret hx hb hr hlocks hI (by decide) (by decide) ?_ (by decide) d_M_isPoly_15
  exact ⟨rfl, rfl⟩
set_option maxHeartbeats 4000000 in
set_option maxRecDepth 100000 in
/-- no power is below 0 -/
theorem c_M_isPowerN (l : Launch) (D : mp_G) (g : Nat → ClassId) (S : mp_M) (sz : Nat) (o n : Nat) (m1 m2 m3 m4 m5 m6 m7 m8 m9 m10 m11 m12 m13 m14 m15 m16 m17 m18 m19 m20 m21 m22 m23 m24 m25 m26 m27 m28 m29 m30 : Value) (x : Int32) (h_o : S o = some (2000, .inr (10, [.int (nI n), m1, m2, m3, m4, m5, m6, m7, m8, m9, m10, m11, m12, m13, m14, m15, m16, m17, m18, m19, m20, m21, m22, m23, m24, m25, m26, m27, m28, m29, m30]))) (hx9 : x < 0) : Met l y_M_isPower w_M_isPower ({ frames := 0, cells := 0, slots := 0, locals := 0 }) (va_Pc [.ref o, .int x] (mp_B0 D classes (tys g) S sz)) (va_Qi (fun (r : Int32) (S1 : mp_M) => r = 0 ∧ S1 = S) (mp_B1 D classes S sz) (mp_A S sz)) 0 0 (mp_A S sz) := by
  refine Met.ofW (cc := b_M_isPower) (maxL := 3) (ret := (some .boolean)) (by decide) rfl ?_
  intro p e s m args below meth c s₁ B hml hv
  obtain ⟨rfl, hsz, hH, hK⟩ := hv
  have hx := B.exec
  have hb := B.bytes
  have hr := B.returns
  have hts := atoms_spec (ws := w_M_isPower) B.pre
  have hg : ∀ w ∈ gw, w.before _ s = true := fun w h => hts w (List.mem_cons_of_mem _ h)
  have hown : s.vm.findClass R_M = some m.cls := findClass_of_methodNamed B.named
  have hlocks := B.notSynchronized
  subst hsz
  have hI := mp_I.start hH
  have hl := lv_entry ([.ref o, .int x]) (n := 3) (Nat.le_of_ble_eq_true rfl)
  rw [lg_entry_eq]
  generalize (lg_sl ([.ref o, .int x]) ++ List.replicate (3 - (lg_sl ([.ref o, .int x])).length) Slot.unset).toArray = ls at hl ⊢
  have hl : lv_has ls 3 [(0, .ref o), (1, .int x)] := hl
  refine lv_iload_n hx hb d_M_isPower_0 rfl (lv_at hl 1 rfl) ?_
  refine lv_if_lt (tgt := 15) hx hb d_M_isPower_1 (by decide) (fun _ => ?_) (fun h9 => absurd (hx9) h9)
  refine lv_iconst (v := nI 0) hx hb d_M_isPower_15 (by decide) ?_
  refine mp_zret hx hb hr hlocks hI (by decide) (by decide) ?_ (by decide) d_M_isPower_16
  exact ⟨rfl, rfl⟩
set_option maxHeartbeats 4000000 in
set_option maxRecDepth 100000 in
/-- a power -/
theorem c_M_isPower (l : Launch) (D : mp_G) (g : Nat → ClassId) (S : mp_M) (sz : Nat) (o n : Nat) (m1 m2 m3 m4 m5 m6 m7 m8 m9 m10 m11 m12 m13 m14 m15 m16 m17 m18 m19 m20 m21 m22 m23 m24 m25 m26 m27 m28 m29 m30 : Value) (v : Nat) (h_o : S o = some (2000, .inr (10, [.int (nI n), m1, m2, m3, m4, m5, m6, m7, m8, m9, m10, m11, m12, m13, m14, m15, m16, m17, m18, m19, m20, m21, m22, m23, m24, m25, m26, m27, m28, m29, m30]))) (hv : v < 2 ^ 31) (hn : n < 4) (hn0 : 0 < n) : Met l y_M_isPower w_M_isPower ({ frames := 0, cells := 0, slots := 0, locals := 0 }) (va_Pc [.ref o, .int (nI v)] (mp_B0 D classes (tys g) S sz)) (va_Qi (fun (r : Int32) (S1 : mp_M) => ((pwOk n v ∧ r = 1) ∨ (¬ pwOk n v ∧ r = 0)) ∧ S1 = S) (mp_B1 D classes S sz) (mp_A S sz)) 0 0 (mp_A S sz) := by
  refine Met.ofW (cc := b_M_isPower) (maxL := 3) (ret := (some .boolean)) (by decide) rfl ?_
  intro p e s m args below meth c s₁ B hml hv
  obtain ⟨rfl, hsz, hH, hK⟩ := hv
  have hx := B.exec
  have hb := B.bytes
  have hr := B.returns
  have hts := atoms_spec (ws := w_M_isPower) B.pre
  have hg : ∀ w ∈ gw, w.before _ s = true := fun w h => hts w (List.mem_cons_of_mem _ h)
  have hown : s.vm.findClass R_M = some m.cls := findClass_of_methodNamed B.named
  have hlocks := B.notSynchronized
  subst hsz
  have hI := mp_I.start hH
  have hl := lv_entry ([.ref o, .int (nI v)]) (n := 3) (Nat.le_of_ble_eq_true rfl)
  rw [lg_entry_eq]
  generalize (lg_sl ([.ref o, .int (nI v)]) ++ List.replicate (3 - (lg_sl ([.ref o, .int (nI v)])).length) Slot.unset).toArray = ls at hl ⊢
  have hl : lv_has ls 3 [(0, .ref o), (1, .int (nI v))] := hl
  refine lv_iload_n hx hb d_M_isPower_0 rfl (lv_at hl 1 rfl) ?_
  refine lv_if_lt (tgt := 15) hx hb d_M_isPower_1 (by decide) (fun h9 => absurd h9 (nI_pos hv)) (fun _ => ?_)
  refine lv_iload_n hx hb d_M_isPower_4 rfl (lv_at hl 1 rfl) ?_
  refine lv_iconst (v := nI 4) hx hb d_M_isPower_5 (by decide) ?_
  refine lv_aload_n hx hb d_M_isPower_6 rfl (lv_at hl 0 rfl) ?_
  refine mp_get (C := R_M) (T := F_M) (N := 31) (v := .int (nI n)) hx hb hg i_M hown hK.va hI h_o rfl 0 (by decide) (hg _ q_804) (fun _ h9 => h9) rfl d_M_isPower_7 ?_
  refine lv_imul hx hb d_M_isPower_10 ?_
  refine lv_topi (fun v1 ev1 => ?_)
  obtain rfl : v1 = nI (4 * n) := ev1.trans (pk_mul _ _)
  refine lv_ishr hx hb d_M_isPower_11 ?_
  refine lv_topi (fun v2 ev2 => ?_)
  obtain rfl : v2 = nI (v / 2 ^ (4 * n)) := ev2.trans (pk_shrN hv _ _ (sh4n hn))
  have hdv : v / 2 ^ (4 * n) < 2 ^ 31 := Nat.lt_of_le_of_lt (Nat.div_le_self _ _) hv
  refine lv_if_eq (tgt := 17) hx hb d_M_isPower_12 (by decide) (fun c1 => ?_) (fun c1 => ?_)
  · rw [zI_eq (by omega)] at c1
    refine lv_iconst (v := nI 0) hx hb d_M_isPower_17 (by decide) ?_
    refine lv_istore_n (lv' := [(2, .int (nI 0)), (0, .ref o), (1, .int (nI v))]) hx hb d_M_isPower_18 rfl hl (by decide) rfl (fun ls hl => ?_)
    rcases (show n = 1 ∨ n = 2 ∨ n = 3 by omega) with rfl | rfl | rfl
    · have c1 : v / 16 = 0 := c1
      refine lv_iload_n hx hb d_M_isPower_19 rfl (lv_at hl 0 rfl) ?_
      refine lv_aload_n hx hb d_M_isPower_20 rfl (lv_at hl 1 rfl) ?_
      refine mp_get (C := R_M) (T := F_M) (N := 31) (v := .int (nI 1)) hx hb hg i_M hown hK.va hI h_o rfl 0 (by decide) (hg _ q_804) (fun _ h9 => h9) rfl d_M_isPower_21 ?_
      refine lv_icmp_ge (tgt := 48) hx hb d_M_isPower_24 (by decide) (fun h9 => absurd h9 (by decide)) (fun _ => ?_)
      refine lv_iload_n hx hb d_M_isPower_27 rfl (lv_at hl 2 rfl) ?_
      refine lv_iconst (v := nI 4) hx hb d_M_isPower_28 (by decide) ?_
      refine lv_iload_n hx hb d_M_isPower_29 rfl (lv_at hl 0 rfl) ?_
      refine lv_imul hx hb d_M_isPower_30 ?_
      refine lv_topi (fun v3 ev3 => ?_)
      obtain rfl : v3 = nI (4 * 0) := ev3.trans (pk_mul _ _)
      refine lv_ishr hx hb d_M_isPower_31 ?_
      refine lv_topi (fun v4 ev4 => ?_)
      obtain rfl : v4 = nI (v / 1) := ev4.trans (pk_shrN hv _ 0 (sh4n (n := 0) (by decide)))
      refine lv_bipush (v := nI 15) hx hb d_M_isPower_32 (by decide) ?_
      refine lv_iand hx hb d_M_isPower_34 ?_
      refine lv_topi (fun v5 ev5 => ?_)
      obtain rfl : v5 = nI (v / 1 % 16) := ev5.trans (pk_andN (by omega) 4 s15m)
      refine lv_bipush (v := nI 9) hx hb d_M_isPower_35 (by decide) ?_
      refine lv_icmp_le (tgt := 42) hx hb d_M_isPower_37 (by decide) (fun k0 => ?_) (fun k0 => ?_)
      · rw [nI_leI (by omega) (by omega)] at k0
        refine lv_iinc (v := nI (0 + 1)) (lv' := [(2, .int (nI (0 + 1))), (0, .ref o), (1, .int (nI v))]) hx hb d_M_isPower_42 hl (k := 0) rfl (nI_1 _) (by decide) rfl (fun ls hl => ?_)
        refine lv_goto (tgt := 19) hx hb d_M_isPower_45 (by decide) ?_
        refine lv_iload_n hx hb d_M_isPower_19 rfl (lv_at hl 0 rfl) ?_
        refine lv_aload_n hx hb d_M_isPower_20 rfl (lv_at hl 1 rfl) ?_
        refine mp_get (C := R_M) (T := F_M) (N := 31) (v := .int (nI 1)) hx hb hg i_M hown hK.va hI h_o rfl 0 (by decide) (hg _ q_804) (fun _ h9 => h9) rfl d_M_isPower_21 ?_
        refine lv_icmp_ge (tgt := 48) hx hb d_M_isPower_24 (by decide) (fun _ => ?_) (fun h9 => absurd (by decide) h9)
        refine lv_iconst (v := nI 1) hx hb d_M_isPower_48 (by decide) ?_
        refine mp_zret hx hb hr hlocks hI (by decide) (by decide) ?_ (by decide) d_M_isPower_49
        exact ⟨Or.inl ⟨⟨c1, by omega, by omega, by omega⟩, rfl⟩, rfl⟩
      · rw [nI_leI (by omega) (by omega)] at k0
        refine lv_iconst (v := nI 0) hx hb d_M_isPower_40 (by decide) ?_
        refine mp_zret hx hb hr hlocks hI (by decide) (by decide) ?_ (by decide) d_M_isPower_41
        exact ⟨Or.inr ⟨fun q => absurd q.2 (by omega), rfl⟩, rfl⟩
    · have c1 : v / 256 = 0 := c1
      refine lv_iload_n hx hb d_M_isPower_19 rfl (lv_at hl 0 rfl) ?_
      refine lv_aload_n hx hb d_M_isPower_20 rfl (lv_at hl 1 rfl) ?_
      refine mp_get (C := R_M) (T := F_M) (N := 31) (v := .int (nI 2)) hx hb hg i_M hown hK.va hI h_o rfl 0 (by decide) (hg _ q_804) (fun _ h9 => h9) rfl d_M_isPower_21 ?_
      refine lv_icmp_ge (tgt := 48) hx hb d_M_isPower_24 (by decide) (fun h9 => absurd h9 (by decide)) (fun _ => ?_)
      refine lv_iload_n hx hb d_M_isPower_27 rfl (lv_at hl 2 rfl) ?_
      refine lv_iconst (v := nI 4) hx hb d_M_isPower_28 (by decide) ?_
      refine lv_iload_n hx hb d_M_isPower_29 rfl (lv_at hl 0 rfl) ?_
      refine lv_imul hx hb d_M_isPower_30 ?_
      refine lv_topi (fun v6 ev6 => ?_)
      obtain rfl : v6 = nI (4 * 0) := ev6.trans (pk_mul _ _)
      refine lv_ishr hx hb d_M_isPower_31 ?_
      refine lv_topi (fun v7 ev7 => ?_)
      obtain rfl : v7 = nI (v / 1) := ev7.trans (pk_shrN hv _ 0 (sh4n (n := 0) (by decide)))
      refine lv_bipush (v := nI 15) hx hb d_M_isPower_32 (by decide) ?_
      refine lv_iand hx hb d_M_isPower_34 ?_
      refine lv_topi (fun v8 ev8 => ?_)
      obtain rfl : v8 = nI (v / 1 % 16) := ev8.trans (pk_andN (by omega) 4 s15m)
      refine lv_bipush (v := nI 9) hx hb d_M_isPower_35 (by decide) ?_
      refine lv_icmp_le (tgt := 42) hx hb d_M_isPower_37 (by decide) (fun k0 => ?_) (fun k0 => ?_)
      · rw [nI_leI (by omega) (by omega)] at k0
        refine lv_iinc (v := nI (0 + 1)) (lv' := [(2, .int (nI (0 + 1))), (0, .ref o), (1, .int (nI v))]) hx hb d_M_isPower_42 hl (k := 0) rfl (nI_1 _) (by decide) rfl (fun ls hl => ?_)
        refine lv_goto (tgt := 19) hx hb d_M_isPower_45 (by decide) ?_
        refine lv_iload_n hx hb d_M_isPower_19 rfl (lv_at hl 0 rfl) ?_
        refine lv_aload_n hx hb d_M_isPower_20 rfl (lv_at hl 1 rfl) ?_
        refine mp_get (C := R_M) (T := F_M) (N := 31) (v := .int (nI 2)) hx hb hg i_M hown hK.va hI h_o rfl 0 (by decide) (hg _ q_804) (fun _ h9 => h9) rfl d_M_isPower_21 ?_
        refine lv_icmp_ge (tgt := 48) hx hb d_M_isPower_24 (by decide) (fun h9 => absurd h9 (by decide)) (fun _ => ?_)
        refine lv_iload_n hx hb d_M_isPower_27 rfl (lv_at hl 2 rfl) ?_
        refine lv_iconst (v := nI 4) hx hb d_M_isPower_28 (by decide) ?_
        refine lv_iload_n hx hb d_M_isPower_29 rfl (lv_at hl 0 rfl) ?_
        refine lv_imul hx hb d_M_isPower_30 ?_
        refine lv_topi (fun v9 ev9 => ?_)
        obtain rfl : v9 = nI (4 * (0 + 1)) := ev9.trans (pk_mul _ _)
        refine lv_ishr hx hb d_M_isPower_31 ?_
        refine lv_topi (fun v10 ev10 => ?_)
        obtain rfl : v10 = nI (v / 16) := ev10.trans (pk_shrN hv _ 4 (sh4n (n := 1) (by decide)))
        refine lv_bipush (v := nI 15) hx hb d_M_isPower_32 (by decide) ?_
        refine lv_iand hx hb d_M_isPower_34 ?_
        refine lv_topi (fun v11 ev11 => ?_)
        obtain rfl : v11 = nI (v / 16 % 16) := ev11.trans (pk_andN (by omega) 4 s15m)
        refine lv_bipush (v := nI 9) hx hb d_M_isPower_35 (by decide) ?_
        refine lv_icmp_le (tgt := 42) hx hb d_M_isPower_37 (by decide) (fun k1 => ?_) (fun k1 => ?_)
        · rw [nI_leI (by omega) (by omega)] at k1
          refine lv_iinc (v := nI ((0 + 1) + 1)) (lv' := [(2, .int (nI ((0 + 1) + 1))), (0, .ref o), (1, .int (nI v))]) hx hb d_M_isPower_42 hl (k := 0) rfl (nI_1 _) (by decide) rfl (fun ls hl => ?_)
          refine lv_goto (tgt := 19) hx hb d_M_isPower_45 (by decide) ?_
          refine lv_iload_n hx hb d_M_isPower_19 rfl (lv_at hl 0 rfl) ?_
          refine lv_aload_n hx hb d_M_isPower_20 rfl (lv_at hl 1 rfl) ?_
          refine mp_get (C := R_M) (T := F_M) (N := 31) (v := .int (nI 2)) hx hb hg i_M hown hK.va hI h_o rfl 0 (by decide) (hg _ q_804) (fun _ h9 => h9) rfl d_M_isPower_21 ?_
          refine lv_icmp_ge (tgt := 48) hx hb d_M_isPower_24 (by decide) (fun _ => ?_) (fun h9 => absurd (by decide) h9)
          refine lv_iconst (v := nI 1) hx hb d_M_isPower_48 (by decide) ?_
          refine mp_zret hx hb hr hlocks hI (by decide) (by decide) ?_ (by decide) d_M_isPower_49
          exact ⟨Or.inl ⟨⟨c1, by omega, by omega, by omega⟩, rfl⟩, rfl⟩
        · rw [nI_leI (by omega) (by omega)] at k1
          refine lv_iconst (v := nI 0) hx hb d_M_isPower_40 (by decide) ?_
          refine mp_zret hx hb hr hlocks hI (by decide) (by decide) ?_ (by decide) d_M_isPower_41
          exact ⟨Or.inr ⟨fun q => absurd q.2 (by omega), rfl⟩, rfl⟩
      · rw [nI_leI (by omega) (by omega)] at k0
        refine lv_iconst (v := nI 0) hx hb d_M_isPower_40 (by decide) ?_
        refine mp_zret hx hb hr hlocks hI (by decide) (by decide) ?_ (by decide) d_M_isPower_41
        exact ⟨Or.inr ⟨fun q => absurd q.2 (by omega), rfl⟩, rfl⟩
    · have c1 : v / 4096 = 0 := c1
      refine lv_iload_n hx hb d_M_isPower_19 rfl (lv_at hl 0 rfl) ?_
      refine lv_aload_n hx hb d_M_isPower_20 rfl (lv_at hl 1 rfl) ?_
      refine mp_get (C := R_M) (T := F_M) (N := 31) (v := .int (nI 3)) hx hb hg i_M hown hK.va hI h_o rfl 0 (by decide) (hg _ q_804) (fun _ h9 => h9) rfl d_M_isPower_21 ?_
      refine lv_icmp_ge (tgt := 48) hx hb d_M_isPower_24 (by decide) (fun h9 => absurd h9 (by decide)) (fun _ => ?_)
      refine lv_iload_n hx hb d_M_isPower_27 rfl (lv_at hl 2 rfl) ?_
      refine lv_iconst (v := nI 4) hx hb d_M_isPower_28 (by decide) ?_
      refine lv_iload_n hx hb d_M_isPower_29 rfl (lv_at hl 0 rfl) ?_
      refine lv_imul hx hb d_M_isPower_30 ?_
      refine lv_topi (fun v12 ev12 => ?_)
      obtain rfl : v12 = nI (4 * 0) := ev12.trans (pk_mul _ _)
      refine lv_ishr hx hb d_M_isPower_31 ?_
      refine lv_topi (fun v13 ev13 => ?_)
      obtain rfl : v13 = nI (v / 1) := ev13.trans (pk_shrN hv _ 0 (sh4n (n := 0) (by decide)))
      refine lv_bipush (v := nI 15) hx hb d_M_isPower_32 (by decide) ?_
      refine lv_iand hx hb d_M_isPower_34 ?_
      refine lv_topi (fun v14 ev14 => ?_)
      obtain rfl : v14 = nI (v / 1 % 16) := ev14.trans (pk_andN (by omega) 4 s15m)
      refine lv_bipush (v := nI 9) hx hb d_M_isPower_35 (by decide) ?_
      refine lv_icmp_le (tgt := 42) hx hb d_M_isPower_37 (by decide) (fun k0 => ?_) (fun k0 => ?_)
      · rw [nI_leI (by omega) (by omega)] at k0
        refine lv_iinc (v := nI (0 + 1)) (lv' := [(2, .int (nI (0 + 1))), (0, .ref o), (1, .int (nI v))]) hx hb d_M_isPower_42 hl (k := 0) rfl (nI_1 _) (by decide) rfl (fun ls hl => ?_)
        refine lv_goto (tgt := 19) hx hb d_M_isPower_45 (by decide) ?_
        refine lv_iload_n hx hb d_M_isPower_19 rfl (lv_at hl 0 rfl) ?_
        refine lv_aload_n hx hb d_M_isPower_20 rfl (lv_at hl 1 rfl) ?_
        refine mp_get (C := R_M) (T := F_M) (N := 31) (v := .int (nI 3)) hx hb hg i_M hown hK.va hI h_o rfl 0 (by decide) (hg _ q_804) (fun _ h9 => h9) rfl d_M_isPower_21 ?_
        refine lv_icmp_ge (tgt := 48) hx hb d_M_isPower_24 (by decide) (fun h9 => absurd h9 (by decide)) (fun _ => ?_)
        refine lv_iload_n hx hb d_M_isPower_27 rfl (lv_at hl 2 rfl) ?_
        refine lv_iconst (v := nI 4) hx hb d_M_isPower_28 (by decide) ?_
        refine lv_iload_n hx hb d_M_isPower_29 rfl (lv_at hl 0 rfl) ?_
        refine lv_imul hx hb d_M_isPower_30 ?_
        refine lv_topi (fun v15 ev15 => ?_)
        obtain rfl : v15 = nI (4 * (0 + 1)) := ev15.trans (pk_mul _ _)
        refine lv_ishr hx hb d_M_isPower_31 ?_
        refine lv_topi (fun v16 ev16 => ?_)
        obtain rfl : v16 = nI (v / 16) := ev16.trans (pk_shrN hv _ 4 (sh4n (n := 1) (by decide)))
        refine lv_bipush (v := nI 15) hx hb d_M_isPower_32 (by decide) ?_
        refine lv_iand hx hb d_M_isPower_34 ?_
        refine lv_topi (fun v17 ev17 => ?_)
        obtain rfl : v17 = nI (v / 16 % 16) := ev17.trans (pk_andN (by omega) 4 s15m)
        refine lv_bipush (v := nI 9) hx hb d_M_isPower_35 (by decide) ?_
        refine lv_icmp_le (tgt := 42) hx hb d_M_isPower_37 (by decide) (fun k1 => ?_) (fun k1 => ?_)
        · rw [nI_leI (by omega) (by omega)] at k1
          refine lv_iinc (v := nI ((0 + 1) + 1)) (lv' := [(2, .int (nI ((0 + 1) + 1))), (0, .ref o), (1, .int (nI v))]) hx hb d_M_isPower_42 hl (k := 0) rfl (nI_1 _) (by decide) rfl (fun ls hl => ?_)
          refine lv_goto (tgt := 19) hx hb d_M_isPower_45 (by decide) ?_
          refine lv_iload_n hx hb d_M_isPower_19 rfl (lv_at hl 0 rfl) ?_
          refine lv_aload_n hx hb d_M_isPower_20 rfl (lv_at hl 1 rfl) ?_
          refine mp_get (C := R_M) (T := F_M) (N := 31) (v := .int (nI 3)) hx hb hg i_M hown hK.va hI h_o rfl 0 (by decide) (hg _ q_804) (fun _ h9 => h9) rfl d_M_isPower_21 ?_
          refine lv_icmp_ge (tgt := 48) hx hb d_M_isPower_24 (by decide) (fun h9 => absurd h9 (by decide)) (fun _ => ?_)
          refine lv_iload_n hx hb d_M_isPower_27 rfl (lv_at hl 2 rfl) ?_
          refine lv_iconst (v := nI 4) hx hb d_M_isPower_28 (by decide) ?_
          refine lv_iload_n hx hb d_M_isPower_29 rfl (lv_at hl 0 rfl) ?_
          refine lv_imul hx hb d_M_isPower_30 ?_
          refine lv_topi (fun v18 ev18 => ?_)
          obtain rfl : v18 = nI (4 * ((0 + 1) + 1)) := ev18.trans (pk_mul _ _)
          refine lv_ishr hx hb d_M_isPower_31 ?_
          refine lv_topi (fun v19 ev19 => ?_)
          obtain rfl : v19 = nI (v / 256) := ev19.trans (pk_shrN hv _ 8 (sh4n (n := 2) (by decide)))
          refine lv_bipush (v := nI 15) hx hb d_M_isPower_32 (by decide) ?_
          refine lv_iand hx hb d_M_isPower_34 ?_
          refine lv_topi (fun v20 ev20 => ?_)
          obtain rfl : v20 = nI (v / 256 % 16) := ev20.trans (pk_andN (by omega) 4 s15m)
          refine lv_bipush (v := nI 9) hx hb d_M_isPower_35 (by decide) ?_
          refine lv_icmp_le (tgt := 42) hx hb d_M_isPower_37 (by decide) (fun k2 => ?_) (fun k2 => ?_)
          · rw [nI_leI (by omega) (by omega)] at k2
            refine lv_iinc (v := nI (((0 + 1) + 1) + 1)) (lv' := [(2, .int (nI (((0 + 1) + 1) + 1))), (0, .ref o), (1, .int (nI v))]) hx hb d_M_isPower_42 hl (k := 0) rfl (nI_1 _) (by decide) rfl (fun ls hl => ?_)
            refine lv_goto (tgt := 19) hx hb d_M_isPower_45 (by decide) ?_
            refine lv_iload_n hx hb d_M_isPower_19 rfl (lv_at hl 0 rfl) ?_
            refine lv_aload_n hx hb d_M_isPower_20 rfl (lv_at hl 1 rfl) ?_
            refine mp_get (C := R_M) (T := F_M) (N := 31) (v := .int (nI 3)) hx hb hg i_M hown hK.va hI h_o rfl 0 (by decide) (hg _ q_804) (fun _ h9 => h9) rfl d_M_isPower_21 ?_
            refine lv_icmp_ge (tgt := 48) hx hb d_M_isPower_24 (by decide) (fun _ => ?_) (fun h9 => absurd (by decide) h9)
            refine lv_iconst (v := nI 1) hx hb d_M_isPower_48 (by decide) ?_
            refine mp_zret hx hb hr hlocks hI (by decide) (by decide) ?_ (by decide) d_M_isPower_49
            exact ⟨Or.inl ⟨⟨c1, by omega, by omega, by omega⟩, rfl⟩, rfl⟩
          · rw [nI_leI (by omega) (by omega)] at k2
            refine lv_iconst (v := nI 0) hx hb d_M_isPower_40 (by decide) ?_
            refine mp_zret hx hb hr hlocks hI (by decide) (by decide) ?_ (by decide) d_M_isPower_41
            exact ⟨Or.inr ⟨fun q => absurd q.2 (by omega), rfl⟩, rfl⟩
        · rw [nI_leI (by omega) (by omega)] at k1
          refine lv_iconst (v := nI 0) hx hb d_M_isPower_40 (by decide) ?_
          refine mp_zret hx hb hr hlocks hI (by decide) (by decide) ?_ (by decide) d_M_isPower_41
          exact ⟨Or.inr ⟨fun q => absurd q.2 (by omega), rfl⟩, rfl⟩
      · rw [nI_leI (by omega) (by omega)] at k0
        refine lv_iconst (v := nI 0) hx hb d_M_isPower_40 (by decide) ?_
        refine mp_zret hx hb hr hlocks hI (by decide) (by decide) ?_ (by decide) d_M_isPower_41
        exact ⟨Or.inr ⟨fun q => absurd q.2 (by omega), rfl⟩, rfl⟩
  · rw [zI_eq (by omega)] at c1
    refine lv_iconst (v := nI 0) hx hb d_M_isPower_15 (by decide) ?_
    refine mp_zret hx hb hr hlocks hI (by decide) (by decide) ?_ (by decide) d_M_isPower_16
    exact ⟨Or.inr ⟨fun q => c1 q.1, rfl⟩, rfl⟩
set_option maxHeartbeats 4000000 in
set_option maxRecDepth 100000 in
/-- the place of a power -/
theorem c_M_placeOf (l : Launch) (D : mp_G) (g : Nat → ClassId) (S : mp_M) (sz : Nat) (v : Nat)  (hv : v < 2 ^ 31) : Met l y_M_placeOf w_M_placeOf ({ frames := 0, cells := 0, slots := 0, locals := 0 }) (va_Pc [.int (nI v)] (mp_B0 D classes (tys g) S sz)) (va_Qi (fun (r : Int32) (S1 : mp_M) => r = nI (v % 16 + 10 * (v / 16 % 16) + 100 * (v / 256)) ∧ S1 = S) (mp_B1 D classes S sz) (mp_A S sz)) 0 0 (mp_A S sz) := by
  refine Met.ofW (cc := b_M_placeOf) (maxL := 1) (ret := (some .int)) (by decide) rfl ?_
  intro p e s m args below meth c s₁ B hml hv
  obtain ⟨rfl, hsz, hH, hK⟩ := hv
  have hx := B.exec
  have hb := B.bytes
  have hr := B.returns
  have hts := atoms_spec (ws := w_M_placeOf) B.pre
  have hg : ∀ w ∈ gw, w.before _ s = true := fun w h => hts w (List.mem_cons_of_mem _ h)
  have hown : s.vm.findClass R_M = some m.cls := findClass_of_methodNamed B.named
  have hlocks := B.notSynchronized
  subst hsz
  have hI := mp_I.start hH
  have hl := lv_entry ([.int (nI v)]) (n := 1) (Nat.le_of_ble_eq_true rfl)
  rw [lg_entry_eq]
  generalize (lg_sl ([.int (nI v)]) ++ List.replicate (1 - (lg_sl ([.int (nI v)])).length) Slot.unset).toArray = ls at hl ⊢
  have hl : lv_has ls 1 [(0, .int (nI v))] := hl
  refine lv_iload_n hx hb d_M_placeOf_0 rfl (lv_at hl 0 rfl) ?_
  refine lv_bipush (v := nI 15) hx hb d_M_placeOf_1 (by decide) ?_
  refine lv_iand hx hb d_M_placeOf_3 ?_
  refine lv_topi (fun v1 ev1 => ?_)
  obtain rfl : v1 = nI (v % 16) := ev1.trans (pk_andN (by omega) 4 s15m)
  refine lv_bipush (v := nI 10) hx hb d_M_placeOf_4 (by decide) ?_
  refine lv_iload_n hx hb d_M_placeOf_6 rfl (lv_at hl 0 rfl) ?_
  refine lv_iconst (v := nI 4) hx hb d_M_placeOf_7 (by decide) ?_
  refine lv_ishr hx hb d_M_placeOf_8 ?_
  refine lv_topi (fun v2 ev2 => ?_)
  obtain rfl : v2 = nI (v / 16) := ev2.trans (pk_shrN hv _ 4 sh4)
  refine lv_bipush (v := nI 15) hx hb d_M_placeOf_9 (by decide) ?_
  refine lv_iand hx hb d_M_placeOf_11 ?_
  refine lv_topi (fun v3 ev3 => ?_)
  obtain rfl : v3 = nI (v / 16 % 16) := ev3.trans (pk_andN (by omega) 4 s15m)
  refine lv_imul hx hb d_M_placeOf_12 ?_
  refine lv_topi (fun v4 ev4 => ?_)
  obtain rfl : v4 = nI (10 * (v / 16 % 16)) := ev4.trans (pk_mul _ _)
  refine lv_iadd hx hb d_M_placeOf_13 ?_
  refine lv_topi (fun v5 ev5 => ?_)
  obtain rfl : v5 = nI ((v % 16) + (10 * (v / 16 % 16))) := ev5.trans (nI_add _ _)
  refine lv_bipush (v := nI 100) hx hb d_M_placeOf_14 (by decide) ?_
  refine lv_iload_n hx hb d_M_placeOf_16 rfl (lv_at hl 0 rfl) ?_
  refine lv_bipush (v := nI 8) hx hb d_M_placeOf_17 (by decide) ?_
  refine lv_ishr hx hb d_M_placeOf_19 ?_
  refine lv_topi (fun v6 ev6 => ?_)
  obtain rfl : v6 = nI (v / 256) := ev6.trans (pk_shrN hv _ 8 sh8)
  refine lv_imul hx hb d_M_placeOf_20 ?_
  refine lv_topi (fun v7 ev7 => ?_)
  obtain rfl : v7 = nI (100 * (v / 256)) := ev7.trans (pk_mul _ _)
  refine lv_iadd hx hb d_M_placeOf_21 ?_
  refine lv_topi (fun v8 ev8 => ?_)
  obtain rfl : v8 = nI (((v % 16) + (10 * (v / 16 % 16))) + (100 * (v / 256))) := ev8.trans (nI_add _ _)
  refine mp_iret hx hb hr hlocks hI (by decide) (by decide) ?_ d_M_placeOf_22
  exact ⟨rfl, rfl⟩
set_option maxHeartbeats 4000000 in
theorem lp_M_inverse {p : Program} {l : Launch} {e : Env} {R : Room} {s : State} {m : MethodId} {args : Array Value} {below : List Frame} {meth : Method} {c : Code} {D : mp_G} {g : Nat → ClassId} {A : Nat → Prop} {S : mp_M} {cells slots : Nat} {Q : State → Prop} (hx : p.tables.exec = Jvm.exec) (hb : c.code = b_M_inverse) (hml : c.maxLocals = 4) (hg : ∀ w ∈ gw, w.before args s = true) (hown : s.vm.findClass R_M = some m.cls) (hK : mp_K D classes (tys g) s) (hRf : 1 ≤ R.frames) (hRl : 21 ≤ R.locals) (hRc : cells ≤ R.cells) (hRs : slots ≤ R.slots) : ∀ (n k r q : Nat) (H : Heap) (locs : List Loc) (ls : Array Slot), k < n → k < 2 ^ 31 → r < 32003 → q < 32003 → mp_I D classes A s.heap S H locs → lv_has ls 4 [(3, .int (nI k)), (2, .int (nI q)), (1, .int (nI r))] → (∀ (H : Heap) (locs : List Loc) (ls : Array Slot), mp_I D classes A s.heap S H locs → lv_has ls 4 [(1, .int (nI ((r * q ^ k) % 32003)))] → W p l e R s m args below meth c H locs cells slots Q (F0 m 38 ls [])) → W p l e R s m args below meth c H locs cells slots Q (F0 m 8 ls []) := by
  intro n
  induction n with
  | zero => intro k r q H locs ls h; omega
  | succ n ih =>
    intro k r q H locs ls hk hk2 hr9 hq9 hI hl kx
    refine lv_iload_n hx hb d_M_inverse_8 rfl (lv_at hl 0 rfl) ?_
    refine lv_if_le (tgt := 38) hx hb d_M_inverse_9 (by decide) (fun c1 => ?_) (fun c1 => ?_)
    · rw [zI_le (by omega)] at c1
      exact kx H locs ls hI (lv_sub hl [2] (by rw [c1, Nat.pow_zero, Nat.mul_one, Nat.mod_eq_of_lt hr9]; rfl))
    · rw [zI_le (by omega)] at c1
      refine lv_iload_n hx hb d_M_inverse_12 rfl (lv_at hl 0 rfl) ?_
      refine lv_iconst (v := nI 1) hx hb d_M_inverse_13 (by decide) ?_
      refine lv_iand hx hb d_M_inverse_14 ?_
      refine lv_topi (fun v1 ev1 => ?_)
      obtain rfl : v1 = nI (k % 2) := ev1.trans (pk_andN (by omega) 1 s1m)
      refine lv_iconst (v := nI 1) hx hb d_M_inverse_15 (by decide) ?_
      refine lv_icmp_ne (tgt := 25) hx hb d_M_inverse_16 (by decide) (fun c2 => ?_) (fun c2 => ?_)
      · rw [nI_eq (by omega) (by omega)] at c2
        refine lv_iload_n hx hb d_M_inverse_25 rfl (lv_at hl 1 rfl) ?_
        refine lv_iload_n hx hb d_M_inverse_26 rfl (lv_at hl 1 rfl) ?_
        refine mp_calli hI (va_runS (As := [.int (nI q), .int (nI q)]) (rest := []) ⟨hx, hb, hml, hown, hg⟩ (c_M_times l D g S _ q q (by omega) (by omega)) ⟨(callB_of 2 hg (wd_goodG q_927) rfl rfl rfl (hg _ q_5) (hg _ q_925) (by decide +kernel) ⟨Nat.le_trans (Nat.le_of_ble_eq_true rfl) hRf, Nat.le_trans (Nat.le_of_ble_eq_true rfl) hRl⟩), hg _ q_926⟩ (mp_pre hI hK [.int (nI q), .int (nI q)]) rfl rfl hl.1 rfl (lv_room (Nat.le_of_ble_eq_true rfl)) d_M_inverse_27 ⟨by omega, by omega⟩) (fun r5 S2 H3 locs p_4 hI => ?_)
        obtain ⟨er5, eS6⟩ := p_4
        rw [eS6] at hI
        have er5 : r5 = nI (q * q % 32003) := er5
        subst er5
        refine lv_istore_n (lv' := [(2, .int (nI (q * q % 32003))), (3, .int (nI k)), (1, .int (nI r))]) hx hb d_M_inverse_30 rfl hl (by decide) rfl (fun ls hl => ?_)
        refine lv_iload_n hx hb d_M_inverse_31 rfl (lv_at hl 1 rfl) ?_
        refine lv_iconst (v := nI 1) hx hb d_M_inverse_32 (by decide) ?_
        refine lv_ishr hx hb d_M_inverse_33 ?_
        refine lv_topi (fun v7 ev7 => ?_)
        obtain rfl : v7 = nI (k / 2) := ev7.trans (pk_shrN hk2 _ 1 sh1)
        refine lv_istore_n (lv' := [(3, .int (nI (k / 2))), (2, .int (nI (q * q % 32003))), (1, .int (nI r))]) hx hb d_M_inverse_34 rfl hl (by decide) rfl (fun ls hl => ?_)
        refine lv_goto (tgt := 8) hx hb d_M_inverse_35 (by decide) ?_
        exact ih (k / 2) r (q * q % 32003) _ locs ls (by omega) (by omega) (hr9) (Nat.mod_lt _ (by decide)) hI (lv_sub hl [0, 1, 2] rfl) (fun H locs ls hI hl => kx H locs ls hI (by rw [← pm_even c2]; exact hl))
      · rw [nI_eq (by omega) (by omega)] at c2
        refine lv_iload_n hx hb d_M_inverse_19 rfl (lv_at hl 2 rfl) ?_
        refine lv_iload_n hx hb d_M_inverse_20 rfl (lv_at hl 1 rfl) ?_
        refine mp_calli hI (va_runS (As := [.int (nI r), .int (nI q)]) (rest := []) ⟨hx, hb, hml, hown, hg⟩ (c_M_times l D g S _ r q (by omega) (by omega)) ⟨(callB_of 2 hg (wd_goodG q_927) rfl rfl rfl (hg _ q_5) (hg _ q_925) (by decide +kernel) ⟨Nat.le_trans (Nat.le_of_ble_eq_true rfl) hRf, Nat.le_trans (Nat.le_of_ble_eq_true rfl) hRl⟩), hg _ q_926⟩ (mp_pre hI hK [.int (nI r), .int (nI q)]) rfl rfl hl.1 rfl (lv_room (Nat.le_of_ble_eq_true rfl)) d_M_inverse_21 ⟨by omega, by omega⟩) (fun r11 S8 H9 locs p_10 hI => ?_)
        obtain ⟨er11, eS12⟩ := p_10
        rw [eS12] at hI
        have er11 : r11 = nI (r * q % 32003) := er11
        subst er11
        refine lv_istore_n (lv' := [(1, .int (nI (r * q % 32003))), (3, .int (nI k)), (2, .int (nI q))]) hx hb d_M_inverse_24 rfl hl (by decide) rfl (fun ls hl => ?_)
        refine lv_iload_n hx hb d_M_inverse_25 rfl (lv_at hl 2 rfl) ?_
        refine lv_iload_n hx hb d_M_inverse_26 rfl (lv_at hl 2 rfl) ?_
        refine mp_calli hI (va_runS (As := [.int (nI q), .int (nI q)]) (rest := []) ⟨hx, hb, hml, hown, hg⟩ (c_M_times l D g S _ q q (by omega) (by omega)) ⟨(callB_of 2 hg (wd_goodG q_927) rfl rfl rfl (hg _ q_5) (hg _ q_925) (by decide +kernel) ⟨Nat.le_trans (Nat.le_of_ble_eq_true rfl) hRf, Nat.le_trans (Nat.le_of_ble_eq_true rfl) hRl⟩), hg _ q_926⟩ (mp_pre hI hK [.int (nI q), .int (nI q)]) rfl rfl hl.1 rfl (lv_room (Nat.le_of_ble_eq_true rfl)) d_M_inverse_27 ⟨by omega, by omega⟩) (fun r16 S13 H14 locs p_15 hI => ?_)
        obtain ⟨er16, eS17⟩ := p_15
        rw [eS17] at hI
        have er16 : r16 = nI (q * q % 32003) := er16
        subst er16
        refine lv_istore_n (lv' := [(2, .int (nI (q * q % 32003))), (1, .int (nI (r * q % 32003))), (3, .int (nI k))]) hx hb d_M_inverse_30 rfl hl (by decide) rfl (fun ls hl => ?_)
        refine lv_iload_n hx hb d_M_inverse_31 rfl (lv_at hl 2 rfl) ?_
        refine lv_iconst (v := nI 1) hx hb d_M_inverse_32 (by decide) ?_
        refine lv_ishr hx hb d_M_inverse_33 ?_
        refine lv_topi (fun v18 ev18 => ?_)
        obtain rfl : v18 = nI (k / 2) := ev18.trans (pk_shrN hk2 _ 1 sh1)
        refine lv_istore_n (lv' := [(3, .int (nI (k / 2))), (2, .int (nI (q * q % 32003))), (1, .int (nI (r * q % 32003)))]) hx hb d_M_inverse_34 rfl hl (by decide) rfl (fun ls hl => ?_)
        refine lv_goto (tgt := 8) hx hb d_M_inverse_35 (by decide) ?_
        exact ih (k / 2) (r * q % 32003) (q * q % 32003) _ locs ls (by omega) (by omega) (Nat.mod_lt _ (by decide)) (Nat.mod_lt _ (by decide)) hI (lv_sub hl [0, 1, 2] rfl) (fun H locs ls hI hl => kx H locs ls hI (by rw [← pm_odd c2]; exact hl))
set_option maxHeartbeats 4000000 in
set_option maxRecDepth 100000 in
/-- one through a number -/
theorem c_M_inverse (l : Launch) (D : mp_G) (g : Nat → ClassId) (S : mp_M) (sz : Nat) (x : Nat)  (hx9 : x < 32003) : Met l y_M_inverse w_M_inverse ({ frames := 1, cells := 0, slots := 0, locals := 21 }) (va_Pc [.int (nI x)] (mp_B0 D classes (tys g) S sz)) (va_Qi (fun (r : Int32) (S1 : mp_M) => r = nI (x ^ 32001 % 32003) ∧ S1 = S) (mp_B1 D classes S sz) (mp_A S sz)) 0 0 (mp_A S sz) := by
  refine Met.ofW (cc := b_M_inverse) (maxL := 4) (ret := (some .int)) (by decide) rfl ?_
  intro p e s m args below meth c s₁ B hml hv
  obtain ⟨rfl, hsz, hH, hK⟩ := hv
  have hx := B.exec
  have hb := B.bytes
  have hr := B.returns
  have hts := atoms_spec (ws := w_M_inverse) B.pre
  have hg : ∀ w ∈ gw, w.before _ s = true := fun w h => hts w (List.mem_cons_of_mem _ h)
  have hown : s.vm.findClass R_M = some m.cls := findClass_of_methodNamed B.named
  have hlocks := B.notSynchronized
  subst hsz
  have hI := mp_I.start hH
  have hl := lv_entry ([.int (nI x)]) (n := 4) (Nat.le_of_ble_eq_true rfl)
  rw [lg_entry_eq]
  generalize (lg_sl ([.int (nI x)]) ++ List.replicate (4 - (lg_sl ([.int (nI x)])).length) Slot.unset).toArray = ls at hl ⊢
  have hl : lv_has ls 4 [(0, .int (nI x))] := hl
  refine lv_iconst (v := nI 1) hx hb d_M_inverse_0 (by decide) ?_
  refine lv_istore_n (lv' := [(1, .int (nI 1)), (0, .int (nI x))]) hx hb d_M_inverse_1 rfl hl (by decide) rfl (fun ls hl => ?_)
  refine lv_iload_n hx hb d_M_inverse_2 rfl (lv_at hl 1 rfl) ?_
  refine lv_istore_n (lv' := [(2, .int (nI x)), (1, .int (nI 1)), (0, .int (nI x))]) hx hb d_M_inverse_3 rfl hl (by decide) rfl (fun ls hl => ?_)
  refine lv_sipush (v := nI 32001) hx hb d_M_inverse_4 (by decide) ?_
  refine lv_istore_n (lv' := [(3, .int (nI 32001)), (2, .int (nI x)), (1, .int (nI 1)), (0, .int (nI x))]) hx hb d_M_inverse_7 rfl hl (by decide) rfl (fun ls hl => ?_)
  refine lp_M_inverse hx hb hml hg hown hK (Nat.le_of_ble_eq_true rfl) (Nat.le_of_ble_eq_true rfl) (Nat.le_of_ble_eq_true rfl) (Nat.le_of_ble_eq_true rfl) 32002 32001 1 x s.heap _ ls (by decide) (by decide) (by decide) hx9 hI (lv_sub hl [0, 1, 2] rfl) (fun H9 locs9 ls hI hl => ?_)
  refine lv_iload_n hx hb d_M_inverse_38 rfl (lv_at hl 0 rfl) ?_
  refine mp_iret hx hb hr hlocks hI (by decide) (by decide) ?_ d_M_inverse_39
  exact ⟨by rw [Nat.one_mul], rfl⟩
