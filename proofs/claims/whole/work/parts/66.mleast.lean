/-- numbers laid into a row from a place on -/
def layI (a i : Nat) (v RW : Nat → fF) : Nat → fF := fun q => if a ≤ q ∧ q < a + i then v (q - a) else RW q
theorem layI_0 (a : Nat) (v RW : Nat → fF) : layI a 0 v RW = RW := by funext q; unfold layI; rw [if_neg (by omega)]
theorem layI_up {a i : Nat} {v RW : Nat → fF} : va_up (layI a i v RW) (a + i) (v i) = layI a (i + 1) v RW := by
  funext q
  by_cases e : q = a + i
  · rw [e, mp_us]; unfold layI; rw [if_pos (by omega), Nat.add_sub_cancel_left]
  · rw [mp_un e]; unfold layI
    by_cases w : a ≤ q ∧ q < a + i
    · rw [if_pos w, if_pos (by omega)]
    · rw [if_neg w, if_neg (by omega)]
theorem layI_in {a i j : Nat} {v RW : Nat → fF} (h : j < i) : layI a i v RW (a + j) = v j := by unfold layI; rw [if_pos (by omega), Nat.add_sub_cancel_left]
theorem layI_out {a i q : Nat} {v RW : Nat → fF} (h : q < a ∨ a + i ≤ q) : layI a i v RW q = RW q := by unfold layI; rw [if_neg (by omega)]
def dl9 (n : Nat) : Nat → fF := fun i => if i = n then 1 else 0
/-- the reference's place in a row, as the mathematics counts -/
def pC (s q : Nat) : Nat := if q < s then q else 16 + (q - s)
theorem pC_lt {s q : Nat} (h : q < s) : pC s q = q := if_pos h
theorem pC_hi (s k : Nat) : pC s (s + k) = 16 + k := by unfold pC; rw [if_neg (by omega), Nat.add_sub_cancel_left]
def rtI (s : Nat) (v : Nat → Nat → fF) (n r a : Nat) (R0 RW : Nat → fF) : Prop := (∀ q, q < s + 17 → RW (a + q) = tkO (lsρ s v) (lsp s v) r (w0R s v n) (pC s q)) ∧ ∀ q, (q < a ∨ a + (s + 17) ≤ q) → RW q = R0 q
theorem rtI_0 {s n a : Nat} {v : Nat → Nat → fF} {vv RW : Nat → fF} (hs : s ≤ 16) (hv : ∀ k, k < s → vv k = v n k) : rtI s v n 0 a RW (layI (a + s) 17 (dl9 n) (layI a s vv RW)) := by
  refine ⟨fun q hq => ?_, fun q hq => by rw [layI_out (by omega), layI_out (by omega)]⟩
  show _ = w0R s v n (pC s q)
  unfold w0R
  by_cases e : q < s
  · rw [layI_out (by omega), layI_in e, pC_lt e, if_pos e, hv q e]
  · rw [show a + q = a + s + (q - s) by omega, layI_in (by omega)]
    unfold pC dl9
    rw [if_neg e]
    by_cases e2 : q - s = n
    · rw [if_pos e2, if_neg (by omega), if_pos (by omega)]
    · rw [if_neg e2, if_neg (by omega), if_neg (by omega)]
theorem rtI_up {s n r a b : Nat} {v : Nat → Nat → fF} {R0 RW : Nat → fF} (h : rtI s v n r a R0 RW) (hrow : ∀ q, q < s + 17 → R0 (b + q) = rwN s v r (pC s q)) (hb : b + (s + 17) ≤ a) (hp : lsp s v r < s) : rtI s v n (r + 1) a R0 (trI a b (RW (a + lsp s v r) * iv (RW (b + lsp s v r))) RW (s + 17)) := by
  refine ⟨fun q hq => ?_, fun q hq => by rw [trI_out (by omega)]; exact h.2 q hq⟩
  have h1 : ∀ q, q < s + 17 → RW (b + q) = rwN s v r (pC s q) := fun q hq => by rw [h.2 _ (by omega)]; exact hrow q hq
  show _ = tkO (lsρ s v) (lsp s v) r (w0R s v n) (pC s q) - tkO (lsρ s v) (lsp s v) r (w0R s v n) (lsp s v r) * (rwN s v r (pC s q) * iv (rwN s v r (lsp s v r)))
  unfold trI
  rw [if_pos (by omega), show a + q - a = q by omega, h.1 q hq, h1 q hq, h.1 _ (by omega), h1 _ (by omega), pC_lt hp]
  grind
theorem mul_w {w i n : Nat} (h : i < n) : w * i + w ≤ w * n := by
  have := Nat.mul_le_mul_left w h
  rw [Nat.mul_succ] at this; exact this
theorem mul_b {s n : Nat} (hs : s ≤ 16) (hn : n ≤ 16) : (s + 17) * n ≤ 528 := Nat.le_trans (Nat.mul_le_mul (show s + 17 ≤ 33 by omega) hn) (by decide)
/-- the pivot's search from above -/
def pvI (s n k : Nat) (w : Nat → fF) (P0 PV : Nat → Int32) : Prop := (∀ r, r ≠ n → PV r = P0 r) ∧ ((PV n = -1 ∧ ∀ j, k ≤ j → j < s → w j = 0) ∨ ∃ j, k ≤ j ∧ j < s ∧ PV n = nI j ∧ w j ≠ 0 ∧ ∀ i, k ≤ i → i < j → w i = 0)
theorem pv_0 {s n : Nat} {w : Nat → fF} {P0 : Nat → Int32} : pvI s n s w P0 (upd P0 n (-1)) := by
  refine ⟨fun r hr => ?_, Or.inl ⟨?_, fun j h1 h2 => absurd h2 (by omega)⟩⟩
  · exact pk_un hr
  · exact pk_us
theorem pv_z {s n k : Nat} {w : Nat → fF} {P0 PV : Nat → Int32} (h : pvI s n (k + 1) w P0 PV) (hz : w k = 0) : pvI s n k w P0 PV := by
  refine ⟨h.1, ?_⟩
  rcases h.2 with ⟨h1, h2⟩ | ⟨j, h1, h2, h3, h4, h5⟩
  · exact Or.inl ⟨h1, fun j hj hs => by by_cases e : j = k; exact e ▸ hz; exact h2 j (by omega) hs⟩
  · exact Or.inr ⟨j, by omega, h2, h3, h4, fun i hi hj => by by_cases e : i = k; exact e ▸ hz; exact h5 i (by omega) hj⟩
theorem pv_y {s n k : Nat} {w : Nat → fF} {P0 PV : Nat → Int32} (h : pvI s n (k + 1) w P0 PV) (hk : k < s) (hz : w k ≠ 0) : pvI s n k w P0 (upd PV n (nI k)) := by
  refine ⟨fun r hr => (pk_un hr).trans (h.1 r hr), Or.inr ⟨k, Nat.le_refl k, hk, pk_us, hz, fun i h1 h2 => absurd h2 (by omega)⟩⟩
theorem pv_no {s n : Nat} {w : Nat → fF} {P0 PV : Nat → Int32} (h : pvI s n 0 w P0 PV) (hf : fnz w s = s) : PV n = -1 := by
  rcases h.2 with ⟨h1, _⟩ | ⟨j, _, h2, _, h4, h5⟩
  · exact h1
  · have := fnz_un h2 (fun i hi => h5 i (Nat.zero_le i) hi) h4; omega
theorem pv_yes {s n : Nat} {w : Nat → fF} {P0 PV : Nat → Int32} (h : pvI s n 0 w P0 PV) (hf : fnz w s < s) : PV n = nI (fnz w s) := by
  rcases h.2 with ⟨_, h2⟩ | ⟨j, _, h2, h3, h4, h5⟩
  · exact absurd (h2 _ (Nat.zero_le _) hf) ((fnz_sp w s).1 hf)
  · rw [fnz_un h2 (fun i hi => h5 i (Nat.zero_le i) hi) h4]; exact h3
theorem fnz_cg {w w' : Nat → fF} : ∀ s, (∀ k, k < s → w k = w' k) → fnz w s = fnz w' s
  | 0, _ => rfl
  | s + 1, h => by unfold fnz; rw [fnz_cg s (fun k hk => h k (by omega)), h s (Nat.lt_succ_self s)]
/-- the powers of a letter, one after another, in the reference -/
def vqM (TB : Nat → fF) (l s : Nat) : Nat → Nat → fF
  | 0 => sO s
  | n + 1 => fun j => sm s (fun k => TB (256 * l + 16 * j + k) * vqM TB l s n k)
theorem iv_1 : iv 1 = 1 := by have := iv_mul (x := 1) (by decide); rw [show (1 : fF) * iv 1 = iv 1 by grind] at this; exact this
def dgP (s : Nat) (v : Nat → Nat → fF) (D9 : Nat) : Prop := D9 ≤ s ∧ fnz (rwN s v D9) s = s ∧ ∀ m, m < D9 → fnz (rwN s v m) s < s
theorem sO_at0 {s i : Nat} (h : i ≠ 0) : sO s i = 0 := by unfold sO; split; (unfold eK; rw [if_neg (by omega)]); rfl
theorem sO_at1 {s : Nat} (h : 0 < s) : sO s 0 = 1 := by unfold sO eK; rw [if_pos h]; simp
theorem nI_nm2 {f : Nat} (h : f < 16) : nI f ≠ -1 := by
  have : ∀ j : Nat, j < 16 → nI j ≠ -1 := by decide +kernel
  exact this f h

theorem d_M_findLeast_0 : decode b_M_findLeast 0 = .ok (.aload_n 0, 1) := by decide +kernel
theorem d_M_findLeast_1 : decode b_M_findLeast 1 = .ok (.getfield 171, 3) := by decide +kernel
theorem d_M_findLeast_4 : decode b_M_findLeast 4 = .ok (.bipush 17, 2) := by decide +kernel
theorem d_M_findLeast_6 : decode b_M_findLeast 6 = .ok (.iadd, 1) := by decide +kernel
theorem d_M_findLeast_7 : decode b_M_findLeast 7 = .ok (.istore_n 2, 1) := by decide +kernel
theorem d_M_findLeast_8 : decode b_M_findLeast 8 = .ok (.iconst 0, 1) := by decide +kernel
theorem d_M_findLeast_9 : decode b_M_findLeast 9 = .ok (.istore_n 3, 1) := by decide +kernel
theorem d_M_findLeast_10 : decode b_M_findLeast 10 = .ok (.iload_n 3, 1) := by decide +kernel
theorem d_M_findLeast_11 : decode b_M_findLeast 11 = .ok (.aload_n 0, 1) := by decide +kernel
theorem d_M_findLeast_12 : decode b_M_findLeast 12 = .ok (.getfield 171, 3) := by decide +kernel
theorem d_M_findLeast_15 : decode b_M_findLeast 15 = .ok (.if_icmp .ge 29, 3) := by decide +kernel
theorem d_M_findLeast_18 : decode b_M_findLeast 18 = .ok (.aload_n 0, 1) := by decide +kernel
theorem d_M_findLeast_19 : decode b_M_findLeast 19 = .ok (.getfield 60, 3) := by decide +kernel
theorem d_M_findLeast_22 : decode b_M_findLeast 22 = .ok (.iload_n 3, 1) := by decide +kernel
theorem d_M_findLeast_23 : decode b_M_findLeast 23 = .ok (.aload_n 0, 1) := by decide +kernel
theorem d_M_findLeast_24 : decode b_M_findLeast 24 = .ok (.getfield 32, 3) := by decide +kernel
theorem d_M_findLeast_27 : decode b_M_findLeast 27 = .ok (.iload_n 3, 1) := by decide +kernel
theorem d_M_findLeast_28 : decode b_M_findLeast 28 = .ok (.iaload, 1) := by decide +kernel
theorem d_M_findLeast_29 : decode b_M_findLeast 29 = .ok (.ifCond .ne 7, 3) := by decide +kernel
theorem d_M_findLeast_32 : decode b_M_findLeast 32 = .ok (.iconst 1, 1) := by decide +kernel
theorem d_M_findLeast_33 : decode b_M_findLeast 33 = .ok (.goto 4, 3) := by decide +kernel
theorem d_M_findLeast_36 : decode b_M_findLeast 36 = .ok (.iconst 0, 1) := by decide +kernel
theorem d_M_findLeast_37 : decode b_M_findLeast 37 = .ok (.iastore, 1) := by decide +kernel
theorem d_M_findLeast_38 : decode b_M_findLeast 38 = .ok (.iinc 3 1, 3) := by decide +kernel
theorem d_M_findLeast_41 : decode b_M_findLeast 41 = .ok (.goto (-31), 3) := by decide +kernel
theorem d_M_findLeast_44 : decode b_M_findLeast 44 = .ok (.iconst 1, 1) := by decide +kernel
theorem d_M_findLeast_45 : decode b_M_findLeast 45 = .ok (.istore_n 3, 1) := by decide +kernel
theorem d_M_findLeast_46 : decode b_M_findLeast 46 = .ok (.iconst 0, 1) := by decide +kernel
theorem d_M_findLeast_47 : decode b_M_findLeast 47 = .ok (.istore 4, 2) := by decide +kernel
theorem d_M_findLeast_49 : decode b_M_findLeast 49 = .ok (.iload_n 3, 1) := by decide +kernel
theorem d_M_findLeast_50 : decode b_M_findLeast 50 = .ok (.ifCond .eq 273, 3) := by decide +kernel
theorem d_M_findLeast_53 : decode b_M_findLeast 53 = .ok (.iload_n 2, 1) := by decide +kernel
theorem d_M_findLeast_54 : decode b_M_findLeast 54 = .ok (.iload 4, 2) := by decide +kernel
theorem d_M_findLeast_56 : decode b_M_findLeast 56 = .ok (.imul, 1) := by decide +kernel
theorem d_M_findLeast_57 : decode b_M_findLeast 57 = .ok (.istore 5, 2) := by decide +kernel
theorem d_M_findLeast_59 : decode b_M_findLeast 59 = .ok (.iconst 0, 1) := by decide +kernel
theorem d_M_findLeast_60 : decode b_M_findLeast 60 = .ok (.istore 6, 2) := by decide +kernel
theorem d_M_findLeast_62 : decode b_M_findLeast 62 = .ok (.iload 6, 2) := by decide +kernel
theorem d_M_findLeast_64 : decode b_M_findLeast 64 = .ok (.aload_n 0, 1) := by decide +kernel
theorem d_M_findLeast_65 : decode b_M_findLeast 65 = .ok (.getfield 171, 3) := by decide +kernel
theorem d_M_findLeast_68 : decode b_M_findLeast 68 = .ok (.if_icmp .ge 26, 3) := by decide +kernel
theorem d_M_findLeast_71 : decode b_M_findLeast 71 = .ok (.aload_n 0, 1) := by decide +kernel
theorem d_M_findLeast_72 : decode b_M_findLeast 72 = .ok (.getfield 66, 3) := by decide +kernel
theorem d_M_findLeast_75 : decode b_M_findLeast 75 = .ok (.iload 5, 2) := by decide +kernel
theorem d_M_findLeast_77 : decode b_M_findLeast 77 = .ok (.iload 6, 2) := by decide +kernel
theorem d_M_findLeast_79 : decode b_M_findLeast 79 = .ok (.iadd, 1) := by decide +kernel
theorem d_M_findLeast_80 : decode b_M_findLeast 80 = .ok (.aload_n 0, 1) := by decide +kernel
theorem d_M_findLeast_81 : decode b_M_findLeast 81 = .ok (.getfield 60, 3) := by decide +kernel
theorem d_M_findLeast_84 : decode b_M_findLeast 84 = .ok (.iload 6, 2) := by decide +kernel
theorem d_M_findLeast_86 : decode b_M_findLeast 86 = .ok (.iaload, 1) := by decide +kernel
theorem d_M_findLeast_87 : decode b_M_findLeast 87 = .ok (.iastore, 1) := by decide +kernel
theorem d_M_findLeast_88 : decode b_M_findLeast 88 = .ok (.iinc 6 1, 3) := by decide +kernel
theorem d_M_findLeast_91 : decode b_M_findLeast 91 = .ok (.goto (-29), 3) := by decide +kernel
theorem d_M_findLeast_94 : decode b_M_findLeast 94 = .ok (.iconst 0, 1) := by decide +kernel
theorem d_M_findLeast_95 : decode b_M_findLeast 95 = .ok (.istore 6, 2) := by decide +kernel
theorem d_M_findLeast_97 : decode b_M_findLeast 97 = .ok (.iload 6, 2) := by decide +kernel
theorem d_M_findLeast_99 : decode b_M_findLeast 99 = .ok (.bipush 17, 2) := by decide +kernel
theorem d_M_findLeast_101 : decode b_M_findLeast 101 = .ok (.if_icmp .ge 36, 3) := by decide +kernel
theorem d_M_findLeast_104 : decode b_M_findLeast 104 = .ok (.aload_n 0, 1) := by decide +kernel
theorem d_M_findLeast_105 : decode b_M_findLeast 105 = .ok (.getfield 66, 3) := by decide +kernel
theorem d_M_findLeast_108 : decode b_M_findLeast 108 = .ok (.iload 5, 2) := by decide +kernel
theorem d_M_findLeast_110 : decode b_M_findLeast 110 = .ok (.aload_n 0, 1) := by decide +kernel
theorem d_M_findLeast_111 : decode b_M_findLeast 111 = .ok (.getfield 171, 3) := by decide +kernel
theorem d_M_findLeast_114 : decode b_M_findLeast 114 = .ok (.iadd, 1) := by decide +kernel
theorem d_M_findLeast_115 : decode b_M_findLeast 115 = .ok (.iload 6, 2) := by decide +kernel
theorem d_M_findLeast_117 : decode b_M_findLeast 117 = .ok (.iadd, 1) := by decide +kernel
theorem d_M_findLeast_118 : decode b_M_findLeast 118 = .ok (.iload 6, 2) := by decide +kernel
theorem d_M_findLeast_120 : decode b_M_findLeast 120 = .ok (.iload 4, 2) := by decide +kernel
theorem d_M_findLeast_122 : decode b_M_findLeast 122 = .ok (.if_icmp .ne 7, 3) := by decide +kernel
theorem d_M_findLeast_125 : decode b_M_findLeast 125 = .ok (.iconst 1, 1) := by decide +kernel
theorem d_M_findLeast_126 : decode b_M_findLeast 126 = .ok (.goto 4, 3) := by decide +kernel
theorem d_M_findLeast_129 : decode b_M_findLeast 129 = .ok (.iconst 0, 1) := by decide +kernel
theorem d_M_findLeast_130 : decode b_M_findLeast 130 = .ok (.iastore, 1) := by decide +kernel
theorem d_M_findLeast_131 : decode b_M_findLeast 131 = .ok (.iinc 6 1, 3) := by decide +kernel
theorem d_M_findLeast_134 : decode b_M_findLeast 134 = .ok (.goto (-37), 3) := by decide +kernel
theorem d_M_findLeast_137 : decode b_M_findLeast 137 = .ok (.iconst 0, 1) := by decide +kernel
theorem d_M_findLeast_138 : decode b_M_findLeast 138 = .ok (.istore 6, 2) := by decide +kernel
theorem d_M_findLeast_140 : decode b_M_findLeast 140 = .ok (.iload 6, 2) := by decide +kernel
theorem d_M_findLeast_142 : decode b_M_findLeast 142 = .ok (.iload 4, 2) := by decide +kernel
theorem d_M_findLeast_144 : decode b_M_findLeast 144 = .ok (.if_icmp .ge 27, 3) := by decide +kernel
theorem d_M_findLeast_147 : decode b_M_findLeast 147 = .ok (.aload_n 0, 1) := by decide +kernel
theorem d_M_findLeast_148 : decode b_M_findLeast 148 = .ok (.iload 5, 2) := by decide +kernel
theorem d_M_findLeast_150 : decode b_M_findLeast 150 = .ok (.iload_n 2, 1) := by decide +kernel
theorem d_M_findLeast_151 : decode b_M_findLeast 151 = .ok (.iload 6, 2) := by decide +kernel
theorem d_M_findLeast_153 : decode b_M_findLeast 153 = .ok (.imul, 1) := by decide +kernel
theorem d_M_findLeast_154 : decode b_M_findLeast 154 = .ok (.aload_n 0, 1) := by decide +kernel
theorem d_M_findLeast_155 : decode b_M_findLeast 155 = .ok (.getfield 69, 3) := by decide +kernel
theorem d_M_findLeast_158 : decode b_M_findLeast 158 = .ok (.iload 6, 2) := by decide +kernel
theorem d_M_findLeast_160 : decode b_M_findLeast 160 = .ok (.iaload, 1) := by decide +kernel
theorem d_M_findLeast_161 : decode b_M_findLeast 161 = .ok (.iload_n 2, 1) := by decide +kernel
theorem d_M_findLeast_162 : decode b_M_findLeast 162 = .ok (.invokevirtual 177, 3) := by decide +kernel
theorem d_M_findLeast_165 : decode b_M_findLeast 165 = .ok (.iinc 6 1, 3) := by decide +kernel
theorem d_M_findLeast_168 : decode b_M_findLeast 168 = .ok (.goto (-28), 3) := by decide +kernel
theorem d_M_findLeast_171 : decode b_M_findLeast 171 = .ok (.aload_n 0, 1) := by decide +kernel
theorem d_M_findLeast_172 : decode b_M_findLeast 172 = .ok (.getfield 69, 3) := by decide +kernel
theorem d_M_findLeast_175 : decode b_M_findLeast 175 = .ok (.iload 4, 2) := by decide +kernel
theorem d_M_findLeast_177 : decode b_M_findLeast 177 = .ok (.iconst (-1), 1) := by decide +kernel
theorem d_M_findLeast_178 : decode b_M_findLeast 178 = .ok (.iastore, 1) := by decide +kernel
theorem d_M_findLeast_179 : decode b_M_findLeast 179 = .ok (.aload_n 0, 1) := by decide +kernel
theorem d_M_findLeast_180 : decode b_M_findLeast 180 = .ok (.getfield 171, 3) := by decide +kernel
theorem d_M_findLeast_183 : decode b_M_findLeast 183 = .ok (.iconst 1, 1) := by decide +kernel
theorem d_M_findLeast_184 : decode b_M_findLeast 184 = .ok (.isub, 1) := by decide +kernel
theorem d_M_findLeast_185 : decode b_M_findLeast 185 = .ok (.istore 6, 2) := by decide +kernel
theorem d_M_findLeast_187 : decode b_M_findLeast 187 = .ok (.iload 6, 2) := by decide +kernel
theorem d_M_findLeast_189 : decode b_M_findLeast 189 = .ok (.ifCond .lt 31, 3) := by decide +kernel
theorem d_M_findLeast_192 : decode b_M_findLeast 192 = .ok (.aload_n 0, 1) := by decide +kernel
theorem d_M_findLeast_193 : decode b_M_findLeast 193 = .ok (.getfield 66, 3) := by decide +kernel
theorem d_M_findLeast_196 : decode b_M_findLeast 196 = .ok (.iload 5, 2) := by decide +kernel
theorem d_M_findLeast_198 : decode b_M_findLeast 198 = .ok (.iload 6, 2) := by decide +kernel
theorem d_M_findLeast_200 : decode b_M_findLeast 200 = .ok (.iadd, 1) := by decide +kernel
theorem d_M_findLeast_201 : decode b_M_findLeast 201 = .ok (.iaload, 1) := by decide +kernel
theorem d_M_findLeast_202 : decode b_M_findLeast 202 = .ok (.ifCond .eq 12, 3) := by decide +kernel
theorem d_M_findLeast_205 : decode b_M_findLeast 205 = .ok (.aload_n 0, 1) := by decide +kernel
theorem d_M_findLeast_206 : decode b_M_findLeast 206 = .ok (.getfield 69, 3) := by decide +kernel
theorem d_M_findLeast_209 : decode b_M_findLeast 209 = .ok (.iload 4, 2) := by decide +kernel
theorem d_M_findLeast_211 : decode b_M_findLeast 211 = .ok (.iload 6, 2) := by decide +kernel
theorem d_M_findLeast_213 : decode b_M_findLeast 213 = .ok (.iastore, 1) := by decide +kernel
theorem d_M_findLeast_214 : decode b_M_findLeast 214 = .ok (.iinc 6 (-1), 3) := by decide +kernel
theorem d_M_findLeast_217 : decode b_M_findLeast 217 = .ok (.goto (-30), 3) := by decide +kernel
theorem d_M_findLeast_220 : decode b_M_findLeast 220 = .ok (.aload_n 0, 1) := by decide +kernel
theorem d_M_findLeast_221 : decode b_M_findLeast 221 = .ok (.getfield 69, 3) := by decide +kernel
theorem d_M_findLeast_224 : decode b_M_findLeast 224 = .ok (.iload 4, 2) := by decide +kernel
theorem d_M_findLeast_226 : decode b_M_findLeast 226 = .ok (.iaload, 1) := by decide +kernel
theorem d_M_findLeast_227 : decode b_M_findLeast 227 = .ok (.iconst (-1), 1) := by decide +kernel
theorem d_M_findLeast_228 : decode b_M_findLeast 228 = .ok (.if_icmp .ne 84, 3) := by decide +kernel
theorem d_M_findLeast_231 : decode b_M_findLeast 231 = .ok (.iconst 0, 1) := by decide +kernel
theorem d_M_findLeast_232 : decode b_M_findLeast 232 = .ok (.istore_n 3, 1) := by decide +kernel
theorem d_M_findLeast_233 : decode b_M_findLeast 233 = .ok (.aload_n 0, 1) := by decide +kernel
theorem d_M_findLeast_234 : decode b_M_findLeast 234 = .ok (.getfield 38, 3) := by decide +kernel
theorem d_M_findLeast_237 : decode b_M_findLeast 237 = .ok (.iload_n 1, 1) := by decide +kernel
theorem d_M_findLeast_238 : decode b_M_findLeast 238 = .ok (.iload 4, 2) := by decide +kernel
theorem d_M_findLeast_240 : decode b_M_findLeast 240 = .ok (.iastore, 1) := by decide +kernel
theorem d_M_findLeast_241 : decode b_M_findLeast 241 = .ok (.aload_n 0, 1) := by decide +kernel
theorem d_M_findLeast_242 : decode b_M_findLeast 242 = .ok (.getfield 66, 3) := by decide +kernel
theorem d_M_findLeast_245 : decode b_M_findLeast 245 = .ok (.iload 5, 2) := by decide +kernel
theorem d_M_findLeast_247 : decode b_M_findLeast 247 = .ok (.aload_n 0, 1) := by decide +kernel
theorem d_M_findLeast_248 : decode b_M_findLeast 248 = .ok (.getfield 171, 3) := by decide +kernel
theorem d_M_findLeast_251 : decode b_M_findLeast 251 = .ok (.iadd, 1) := by decide +kernel
theorem d_M_findLeast_252 : decode b_M_findLeast 252 = .ok (.iload 4, 2) := by decide +kernel
theorem d_M_findLeast_254 : decode b_M_findLeast 254 = .ok (.iadd, 1) := by decide +kernel
theorem d_M_findLeast_255 : decode b_M_findLeast 255 = .ok (.iaload, 1) := by decide +kernel
theorem d_M_findLeast_256 : decode b_M_findLeast 256 = .ok (.invokestatic 112, 3) := by decide +kernel
theorem d_M_findLeast_259 : decode b_M_findLeast 259 = .ok (.istore 6, 2) := by decide +kernel
theorem d_M_findLeast_261 : decode b_M_findLeast 261 = .ok (.iconst 0, 1) := by decide +kernel
theorem d_M_findLeast_262 : decode b_M_findLeast 262 = .ok (.istore 7, 2) := by decide +kernel
theorem d_M_findLeast_264 : decode b_M_findLeast 264 = .ok (.iload 7, 2) := by decide +kernel
theorem d_M_findLeast_266 : decode b_M_findLeast 266 = .ok (.iload 4, 2) := by decide +kernel
theorem d_M_findLeast_268 : decode b_M_findLeast 268 = .ok (.if_icmp .gt 41, 3) := by decide +kernel
theorem d_M_findLeast_271 : decode b_M_findLeast 271 = .ok (.aload_n 0, 1) := by decide +kernel
theorem d_M_findLeast_272 : decode b_M_findLeast 272 = .ok (.getfield 41, 3) := by decide +kernel
theorem d_M_findLeast_275 : decode b_M_findLeast 275 = .ok (.bipush 17, 2) := by decide +kernel
theorem d_M_findLeast_277 : decode b_M_findLeast 277 = .ok (.iload_n 1, 1) := by decide +kernel
theorem d_M_findLeast_278 : decode b_M_findLeast 278 = .ok (.imul, 1) := by decide +kernel
theorem d_M_findLeast_279 : decode b_M_findLeast 279 = .ok (.iload 7, 2) := by decide +kernel
theorem d_M_findLeast_281 : decode b_M_findLeast 281 = .ok (.iadd, 1) := by decide +kernel
theorem d_M_findLeast_282 : decode b_M_findLeast 282 = .ok (.aload_n 0, 1) := by decide +kernel
theorem d_M_findLeast_283 : decode b_M_findLeast 283 = .ok (.getfield 66, 3) := by decide +kernel
theorem d_M_findLeast_286 : decode b_M_findLeast 286 = .ok (.iload 5, 2) := by decide +kernel
theorem d_M_findLeast_288 : decode b_M_findLeast 288 = .ok (.aload_n 0, 1) := by decide +kernel
theorem d_M_findLeast_289 : decode b_M_findLeast 289 = .ok (.getfield 171, 3) := by decide +kernel
theorem d_M_findLeast_292 : decode b_M_findLeast 292 = .ok (.iadd, 1) := by decide +kernel
theorem d_M_findLeast_293 : decode b_M_findLeast 293 = .ok (.iload 7, 2) := by decide +kernel
theorem d_M_findLeast_295 : decode b_M_findLeast 295 = .ok (.iadd, 1) := by decide +kernel
theorem d_M_findLeast_296 : decode b_M_findLeast 296 = .ok (.iaload, 1) := by decide +kernel
theorem d_M_findLeast_297 : decode b_M_findLeast 297 = .ok (.iload 6, 2) := by decide +kernel
theorem d_M_findLeast_299 : decode b_M_findLeast 299 = .ok (.invokestatic 87, 3) := by decide +kernel
theorem d_M_findLeast_302 : decode b_M_findLeast 302 = .ok (.iastore, 1) := by decide +kernel
theorem d_M_findLeast_303 : decode b_M_findLeast 303 = .ok (.iinc 7 1, 3) := by decide +kernel
theorem d_M_findLeast_306 : decode b_M_findLeast 306 = .ok (.goto (-42), 3) := by decide +kernel
theorem d_M_findLeast_309 : decode b_M_findLeast 309 = .ok (.goto 8, 3) := by decide +kernel
theorem d_M_findLeast_312 : decode b_M_findLeast 312 = .ok (.aload_n 0, 1) := by decide +kernel
theorem d_M_findLeast_313 : decode b_M_findLeast 313 = .ok (.iload_n 1, 1) := by decide +kernel
theorem d_M_findLeast_314 : decode b_M_findLeast 314 = .ok (.invokevirtual 181, 3) := by decide +kernel
theorem d_M_findLeast_317 : decode b_M_findLeast 317 = .ok (.iinc 4 1, 3) := by decide +kernel
theorem d_M_findLeast_320 : decode b_M_findLeast 320 = .ok (.goto (-271), 3) := by decide +kernel
theorem d_M_findLeast_323 : decode b_M_findLeast 323 = .ok (.return_, 1) := by decide +kernel
set_option maxHeartbeats 4000000 in
set_option maxRecDepth 100000 in
theorem lp_M_fl0 {p : Program} {l : Launch} {e : Env} {R : Room} {s : State} {m : MethodId} {args : Array Value} {below : List Frame} {meth : Method} {c : Code} {Q : State → Prop} {D : mp_G} {g : Nat → ClassId} {A : Nat → Prop} {cells slots : Nat} (hx : p.tables.exec = Jvm.exec) (hb : c.code = b_M_findLeast) (hml : c.maxLocals = 8) (hg : ∀ w ∈ gw, w.before args s = true) (hown : s.vm.findClass R_M = some m.cls) (hK : mp_K D classes (tys g) s) (hRf : 0 ≤ R.frames) (hRl : 0 ≤ R.locals) (hRc : cells ≤ R.cells) (hRs : slots ≤ R.slots) {B : mp_M} {o le ta ve ot ro pv9 dg lt9 s9 l9 : Nat} {mv0 mv1 mv2 mv3 mv4 mv5 mv6 mv7 mv8 mv9 mv10 mv11 mv12 mv13 mv19 mv20 mv21 mv22 mv23 mv24 mv29 mv30 : Value} {LF : Nat → Nat} {TB : Nat → fF} {RW vv ww LE9 : Nat → fF} {PV : Nat → Int32} {DG : Nat → Nat} (hs : s9 ≤ 16) (hl9 : l9 < 3) (hL0 : ∀ k, k < s9 → (LF k = 0 ↔ k = 0)) (hLb : ∀ k, k < s9 → LF k < 1000) : ∀ (k : Nat) (i : Nat) (S : mp_M) (H : Heap) (locs : List Loc) (ls : Array Slot), i + k = s9 → S o = some (2000, .inr (10, [mv0, mv1, mv2, mv3, mv4, mv5, mv6, mv7, mv8, mv9, mv10, mv11, mv12, mv13, .int (nI s9), .ref le, .ref ta, .ref dg, .ref lt9, mv19, mv20, mv21, mv22, mv23, mv24, .ref ve, .ref ot, .ref ro, .ref pv9, mv29, mv30])) → S le = some (2008, .inl ((g 0), 17, .inl (fun j => nI (LF j)))) → S ta = some (2009, .inl ((g 0), 768, .inl (fun j => nI (TB j).val))) → S ve = some (2017, .inl ((g 0), 16, .inl (fun j => nI ((mgF i (sO s9) vv) j).val))) → S ot = some (2018, .inl ((g 0), 16, .inl (fun j => nI (ww j).val))) → S ro = some (2019, .inl ((g 0), 1700, .inl (fun j => nI (RW j).val))) → S pv9 = some (2020, .inl ((g 0), 64, .inl PV)) → S dg = some (2010, .inl ((g 0), 3, .inl (fun j => nI (DG j)))) → S lt9 = some (2011, .inl ((g 0), 51, .inl (fun j => nI (LE9 j).val))) → (∀ b t e9, B b = some (t, e9) → (t ≠ 2017) → (t ≠ 2018) → (t ≠ 2019) → (t ≠ 2020) → (t ≠ 2010) → (t ≠ 2011) → S b = some (t, e9)) → mp_I D classes A s.heap S H locs → lv_has ls 8 [(3, .int (nI i)), (2, .int (nI (s9 + 17))), (1, .int (nI l9)), (0, .ref o)] → (∀ (S : mp_M) (H : Heap) (locs : List Loc) (ls : Array Slot), S o = some (2000, .inr (10, [mv0, mv1, mv2, mv3, mv4, mv5, mv6, mv7, mv8, mv9, mv10, mv11, mv12, mv13, .int (nI s9), .ref le, .ref ta, .ref dg, .ref lt9, mv19, mv20, mv21, mv22, mv23, mv24, .ref ve, .ref ot, .ref ro, .ref pv9, mv29, mv30])) → S le = some (2008, .inl ((g 0), 17, .inl (fun j => nI (LF j)))) → S ta = some (2009, .inl ((g 0), 768, .inl (fun j => nI (TB j).val))) → S ve = some (2017, .inl ((g 0), 16, .inl (fun j => nI ((mgF s9 (sO s9) vv) j).val))) → S ot = some (2018, .inl ((g 0), 16, .inl (fun j => nI (ww j).val))) → S ro = some (2019, .inl ((g 0), 1700, .inl (fun j => nI (RW j).val))) → S pv9 = some (2020, .inl ((g 0), 64, .inl PV)) → S dg = some (2010, .inl ((g 0), 3, .inl (fun j => nI (DG j)))) → S lt9 = some (2011, .inl ((g 0), 51, .inl (fun j => nI (LE9 j).val))) → (∀ b t e9, B b = some (t, e9) → (t ≠ 2017) → (t ≠ 2018) → (t ≠ 2019) → (t ≠ 2020) → (t ≠ 2010) → (t ≠ 2011) → S b = some (t, e9)) → mp_I D classes A s.heap S H locs → lv_has ls 8 [(3, .int (nI s9)), (2, .int (nI (s9 + 17))), (1, .int (nI l9)), (0, .ref o)] → W p l e R s m args below meth c H locs cells slots Q (F0 m 44 ls [])) → W p l e R s m args below meth c H locs cells slots Q (F0 m 10 ls []) := by
  intro k
  induction k with
  | zero =>
    intro i S H locs ls hi h_o h_le h_ta h_ve h_ot h_ro h_pv9 h_dg h_lt9 hfr hI hl kx
    refine lv_iload_n hx hb d_M_findLeast_10 rfl (lv_at hl 0 rfl) ?_
    refine lv_aload_n hx hb d_M_findLeast_11 rfl (lv_at hl 3 rfl) ?_
    refine mp_get (C := R_M) (T := F_M) (N := 31) (v := .int (nI s9)) hx hb hg i_M hown hK.va hI h_o rfl 14 (by decide) (hg _ q_818) (fun _ h9 => h9) rfl d_M_findLeast_12 ?_
    refine lv_icmp_ge (tgt := 44) hx hb d_M_findLeast_15 (by decide) (fun _ => ?_) (fun h9 => absurd ((nI_leI (by omega) (by omega)).mpr (by omega)) h9)
    obtain rfl : i = s9 := by omega
    exact kx S H locs ls h_o h_le h_ta h_ve h_ot h_ro h_pv9 h_dg h_lt9 hfr hI (lv_sub hl [0, 1, 2, 3] rfl)
  | succ k ih =>
    intro i S H locs ls hi h_o h_le h_ta h_ve h_ot h_ro h_pv9 h_dg h_lt9 hfr hI hl kx
    have hli := hL0 i (by omega)
    have hlb := hLb i (by omega)
    refine lv_iload_n hx hb d_M_findLeast_10 rfl (lv_at hl 0 rfl) ?_
    refine lv_aload_n hx hb d_M_findLeast_11 rfl (lv_at hl 3 rfl) ?_
    refine mp_get (C := R_M) (T := F_M) (N := 31) (v := .int (nI s9)) hx hb hg i_M hown hK.va hI h_o rfl 14 (by decide) (hg _ q_818) (fun _ h9 => h9) rfl d_M_findLeast_12 ?_
    refine lv_icmp_ge (tgt := 44) hx hb d_M_findLeast_15 (by decide) (fun h9 => absurd h9 (by rw [nI_leI (by omega) (by omega)]; omega)) (fun _ => ?_)
    refine lv_aload_n hx hb d_M_findLeast_18 rfl (lv_at hl 3 rfl) ?_
    refine mp_get (C := R_M) (T := F_M) (N := 31) (v := .ref ve) hx hb hg i_M hown hK.va hI h_o rfl 25 (by decide) (hg _ q_829) (fun _ h9 => h9) rfl d_M_findLeast_19 ?_
    refine lv_iload_n hx hb d_M_findLeast_22 rfl (lv_at hl 0 rfl) ?_
    refine lv_aload_n hx hb d_M_findLeast_23 rfl (lv_at hl 3 rfl) ?_
    refine mp_get (C := R_M) (T := F_M) (N := 31) (v := .ref le) hx hb hg i_M hown hK.va hI h_o rfl 15 (by decide) (hg _ q_819) (fun _ h9 => h9) rfl d_M_findLeast_24 ?_
    refine lv_iload_n hx hb d_M_findLeast_27 rfl (lv_at hl 0 rfl) ?_
    refine mp_iald hx hb hK.va hI 0 h_le rfl (vp_in_nI (show i < 17 by omega) (by omega)) d_M_findLeast_28 ?_
    refine lv_topi (fun v1 ev1 => ?_)
    obtain rfl : v1 = nI (LF i) := ev1.trans (by rw [nI_clamp (by omega)])
    refine lv_if_ne (tgt := 36) hx hb d_M_findLeast_29 (by decide) (fun c1 => ?_) (fun c1 => ?_)
    · rw [zI_eq (by omega)] at c1
      refine lv_iconst (v := nI 0) hx hb d_M_findLeast_36 (by decide) ?_
      refine mp_iast hx hb hK.va hI 0 h_ve rfl (vp_in_nI (show i < 16 by omega) (by omega)) d_M_findLeast_37 (fun S2 H3 locs e_4 hI => ?_)
      have h_ve_o := h_ve
      have e_4 : S2 = va_up S ve (some (2017, .inl ((g 0), 16, .inl (upd (fun j => nI ((mgF i (sO s9) vv) j).val) (nI i).toNatClampNeg (nI 0))))) := e_4
      have h_o : S2 o = some (2000, .inr (10, [mv0, mv1, mv2, mv3, mv4, mv5, mv6, mv7, mv8, mv9, mv10, mv11, mv12, mv13, .int (nI s9), .ref le, .ref ta, .ref dg, .ref lt9, mv19, mv20, mv21, mv22, mv23, mv24, .ref ve, .ref ot, .ref ro, .ref pv9, mv29, mv30])) := by rw [e_4]; exact mp_keep h_o h_ve (by decide)
      have h_le : S2 le = some (2008, .inl ((g 0), 17, .inl (fun j => nI (LF j)))) := by rw [e_4]; exact mp_keep h_le h_ve (by decide)
      have h_ta : S2 ta = some (2009, .inl ((g 0), 768, .inl (fun j => nI (TB j).val))) := by rw [e_4]; exact mp_keep h_ta h_ve (by decide)
      have h_ot : S2 ot = some (2018, .inl ((g 0), 16, .inl (fun j => nI (ww j).val))) := by rw [e_4]; exact mp_keep h_ot h_ve (by decide)
      have h_ro : S2 ro = some (2019, .inl ((g 0), 1700, .inl (fun j => nI (RW j).val))) := by rw [e_4]; exact mp_keep h_ro h_ve (by decide)
      have h_pv9 : S2 pv9 = some (2020, .inl ((g 0), 64, .inl PV)) := by rw [e_4]; exact mp_keep h_pv9 h_ve (by decide)
      have h_dg : S2 dg = some (2010, .inl ((g 0), 3, .inl (fun j => nI (DG j)))) := by rw [e_4]; exact mp_keep h_dg h_ve (by decide)
      have h_lt9 : S2 lt9 = some (2011, .inl ((g 0), 51, .inl (fun j => nI (LE9 j).val))) := by rw [e_4]; exact mp_keep h_lt9 h_ve (by decide)
      have h_ve : S2 ve = some (2017, .inl ((g 0), 16, .inl (upd (fun j => nI ((mgF i (sO s9) vv) j).val) (nI i).toNatClampNeg (nI 0)))) := by rw [e_4]; exact mp_us _ _ _
      have hfr : ∀ b t e9, B b = some (t, e9) → (t ≠ 2017) → (t ≠ 2018) → (t ≠ 2019) → (t ≠ 2020) → (t ≠ 2010) → (t ≠ 2011) → S2 b = some (t, e9) := fun b t e9 h9 k0 k1 k2 k3 k4 k5 => by rw [e_4]; exact mp_keep (hfr b t e9 h9 k0 k1 k2 k3 k4 k5) h_ve_o (by omega)
      have h_ve := h_ve
      rw [nI_clamp (by omega), nIv_up0] at h_ve
      have e9h_ve : (fun j => nI (va_up (mgF i (sO s9) vv) i 0 j).val) = (fun j => nI ((mgF (i + 1) (sO s9) vv) j).val) := by rw [← mgF_up, show sO s9 i = 0 from sO_at0 (fun q9 => c1 (hli.mpr q9))]
      rw [e9h_ve] at h_ve
      refine lv_iinc (v := nI (i + 1)) (lv' := [(3, .int (nI (i + 1))), (2, .int (nI (s9 + 17))), (1, .int (nI l9)), (0, .ref o)]) hx hb d_M_findLeast_38 hl (k := 0) rfl (nI_1 _) (by decide) rfl (fun ls hl => ?_)
      refine lv_goto (tgt := 10) hx hb d_M_findLeast_41 (by decide) ?_
      exact ih (i + 1) S2 H3 locs ls (by omega) h_o h_le h_ta h_ve h_ot h_ro h_pv9 h_dg h_lt9 hfr hI (lv_sub hl [0, 1, 2, 3] rfl) kx
    · rw [zI_eq (by omega)] at c1
      refine lv_iconst (v := nI 1) hx hb d_M_findLeast_32 (by decide) ?_
      refine lv_goto (tgt := 37) hx hb d_M_findLeast_33 (by decide) ?_
      refine mp_iast hx hb hK.va hI 0 h_ve rfl (vp_in_nI (show i < 16 by omega) (by omega)) d_M_findLeast_37 (fun S5 H6 locs e_7 hI => ?_)
      have h_ve_o := h_ve
      have e_7 : S5 = va_up S ve (some (2017, .inl ((g 0), 16, .inl (upd (fun j => nI ((mgF i (sO s9) vv) j).val) (nI i).toNatClampNeg (nI 1))))) := e_7
      have h_o : S5 o = some (2000, .inr (10, [mv0, mv1, mv2, mv3, mv4, mv5, mv6, mv7, mv8, mv9, mv10, mv11, mv12, mv13, .int (nI s9), .ref le, .ref ta, .ref dg, .ref lt9, mv19, mv20, mv21, mv22, mv23, mv24, .ref ve, .ref ot, .ref ro, .ref pv9, mv29, mv30])) := by rw [e_7]; exact mp_keep h_o h_ve (by decide)
      have h_le : S5 le = some (2008, .inl ((g 0), 17, .inl (fun j => nI (LF j)))) := by rw [e_7]; exact mp_keep h_le h_ve (by decide)
      have h_ta : S5 ta = some (2009, .inl ((g 0), 768, .inl (fun j => nI (TB j).val))) := by rw [e_7]; exact mp_keep h_ta h_ve (by decide)
      have h_ot : S5 ot = some (2018, .inl ((g 0), 16, .inl (fun j => nI (ww j).val))) := by rw [e_7]; exact mp_keep h_ot h_ve (by decide)
      have h_ro : S5 ro = some (2019, .inl ((g 0), 1700, .inl (fun j => nI (RW j).val))) := by rw [e_7]; exact mp_keep h_ro h_ve (by decide)
      have h_pv9 : S5 pv9 = some (2020, .inl ((g 0), 64, .inl PV)) := by rw [e_7]; exact mp_keep h_pv9 h_ve (by decide)
      have h_dg : S5 dg = some (2010, .inl ((g 0), 3, .inl (fun j => nI (DG j)))) := by rw [e_7]; exact mp_keep h_dg h_ve (by decide)
      have h_lt9 : S5 lt9 = some (2011, .inl ((g 0), 51, .inl (fun j => nI (LE9 j).val))) := by rw [e_7]; exact mp_keep h_lt9 h_ve (by decide)
      have h_ve : S5 ve = some (2017, .inl ((g 0), 16, .inl (upd (fun j => nI ((mgF i (sO s9) vv) j).val) (nI i).toNatClampNeg (nI 1)))) := by rw [e_7]; exact mp_us _ _ _
      have hfr : ∀ b t e9, B b = some (t, e9) → (t ≠ 2017) → (t ≠ 2018) → (t ≠ 2019) → (t ≠ 2020) → (t ≠ 2010) → (t ≠ 2011) → S5 b = some (t, e9) := fun b t e9 h9 k0 k1 k2 k3 k4 k5 => by rw [e_7]; exact mp_keep (hfr b t e9 h9 k0 k1 k2 k3 k4 k5) h_ve_o (by omega)
      have h_ve := h_ve
      rw [nI_clamp (by omega), nIv_up1] at h_ve
      have e9h_ve : (fun j => nI (va_up (mgF i (sO s9) vv) i 1 j).val) = (fun j => nI ((mgF (i + 1) (sO s9) vv) j).val) := by rw [← mgF_up, show sO s9 i = 1 from by rw [hli.mp c1]; exact sO_at1 (by omega)]
      rw [e9h_ve] at h_ve
      refine lv_iinc (v := nI (i + 1)) (lv' := [(3, .int (nI (i + 1))), (2, .int (nI (s9 + 17))), (1, .int (nI l9)), (0, .ref o)]) hx hb d_M_findLeast_38 hl (k := 0) rfl (nI_1 _) (by decide) rfl (fun ls hl => ?_)
      refine lv_goto (tgt := 10) hx hb d_M_findLeast_41 (by decide) ?_
      exact ih (i + 1) S5 H6 locs ls (by omega) h_o h_le h_ta h_ve h_ot h_ro h_pv9 h_dg h_lt9 hfr hI (lv_sub hl [0, 1, 2, 3] rfl) kx
set_option maxHeartbeats 4000000 in
set_option maxRecDepth 100000 in
theorem lp_M_fl1 {p : Program} {l : Launch} {e : Env} {R : Room} {s : State} {m : MethodId} {args : Array Value} {below : List Frame} {meth : Method} {c : Code} {Q : State → Prop} {D : mp_G} {g : Nat → ClassId} {A : Nat → Prop} {cells slots : Nat} (hx : p.tables.exec = Jvm.exec) (hb : c.code = b_M_findLeast) (hml : c.maxLocals = 8) (hg : ∀ w ∈ gw, w.before args s = true) (hown : s.vm.findClass R_M = some m.cls) (hK : mp_K D classes (tys g) s) (hRf : 0 ≤ R.frames) (hRl : 0 ≤ R.locals) (hRc : cells ≤ R.cells) (hRs : slots ≤ R.slots) {B : mp_M} {o le ta ve ot ro pv9 dg lt9 s9 l9 : Nat} {mv0 mv1 mv2 mv3 mv4 mv5 mv6 mv7 mv8 mv9 mv10 mv11 mv12 mv13 mv19 mv20 mv21 mv22 mv23 mv24 mv29 mv30 : Value} {LF : Nat → Nat} {TB : Nat → fF} {RW vv ww LE9 : Nat → fF} {PV : Nat → Int32} {DG : Nat → Nat} {a9 n9 : Nat} (hs : s9 ≤ 16) (hl9 : l9 < 3) (ha9 : a9 ≤ 528) (hn9 : n9 ≤ 16) : ∀ (k : Nat) (i : Nat) (S : mp_M) (H : Heap) (locs : List Loc) (ls : Array Slot), i + k = s9 → S o = some (2000, .inr (10, [mv0, mv1, mv2, mv3, mv4, mv5, mv6, mv7, mv8, mv9, mv10, mv11, mv12, mv13, .int (nI s9), .ref le, .ref ta, .ref dg, .ref lt9, mv19, mv20, mv21, mv22, mv23, mv24, .ref ve, .ref ot, .ref ro, .ref pv9, mv29, mv30])) → S le = some (2008, .inl ((g 0), 17, .inl (fun j => nI (LF j)))) → S ta = some (2009, .inl ((g 0), 768, .inl (fun j => nI (TB j).val))) → S ve = some (2017, .inl ((g 0), 16, .inl (fun j => nI (vv j).val))) → S ot = some (2018, .inl ((g 0), 16, .inl (fun j => nI (ww j).val))) → S ro = some (2019, .inl ((g 0), 1700, .inl (fun j => nI ((layI a9 i vv RW) j).val))) → S pv9 = some (2020, .inl ((g 0), 64, .inl PV)) → S dg = some (2010, .inl ((g 0), 3, .inl (fun j => nI (DG j)))) → S lt9 = some (2011, .inl ((g 0), 51, .inl (fun j => nI (LE9 j).val))) → (∀ b t e9, B b = some (t, e9) → (t ≠ 2017) → (t ≠ 2018) → (t ≠ 2019) → (t ≠ 2020) → (t ≠ 2010) → (t ≠ 2011) → S b = some (t, e9)) → mp_I D classes A s.heap S H locs → lv_has ls 8 [(6, .int (nI i)), (5, .int (nI a9)), (4, .int (nI n9)), (3, .int (nI 1)), (2, .int (nI (s9 + 17))), (1, .int (nI l9)), (0, .ref o)] → (∀ (S : mp_M) (H : Heap) (locs : List Loc) (ls : Array Slot), S o = some (2000, .inr (10, [mv0, mv1, mv2, mv3, mv4, mv5, mv6, mv7, mv8, mv9, mv10, mv11, mv12, mv13, .int (nI s9), .ref le, .ref ta, .ref dg, .ref lt9, mv19, mv20, mv21, mv22, mv23, mv24, .ref ve, .ref ot, .ref ro, .ref pv9, mv29, mv30])) → S le = some (2008, .inl ((g 0), 17, .inl (fun j => nI (LF j)))) → S ta = some (2009, .inl ((g 0), 768, .inl (fun j => nI (TB j).val))) → S ve = some (2017, .inl ((g 0), 16, .inl (fun j => nI (vv j).val))) → S ot = some (2018, .inl ((g 0), 16, .inl (fun j => nI (ww j).val))) → S ro = some (2019, .inl ((g 0), 1700, .inl (fun j => nI ((layI a9 s9 vv RW) j).val))) → S pv9 = some (2020, .inl ((g 0), 64, .inl PV)) → S dg = some (2010, .inl ((g 0), 3, .inl (fun j => nI (DG j)))) → S lt9 = some (2011, .inl ((g 0), 51, .inl (fun j => nI (LE9 j).val))) → (∀ b t e9, B b = some (t, e9) → (t ≠ 2017) → (t ≠ 2018) → (t ≠ 2019) → (t ≠ 2020) → (t ≠ 2010) → (t ≠ 2011) → S b = some (t, e9)) → mp_I D classes A s.heap S H locs → lv_has ls 8 [(6, .int (nI s9)), (5, .int (nI a9)), (4, .int (nI n9)), (3, .int (nI 1)), (2, .int (nI (s9 + 17))), (1, .int (nI l9)), (0, .ref o)] → W p l e R s m args below meth c H locs cells slots Q (F0 m 94 ls [])) → W p l e R s m args below meth c H locs cells slots Q (F0 m 62 ls []) := by
  intro k
  induction k with
  | zero =>
    intro i S H locs ls hi h_o h_le h_ta h_ve h_ot h_ro h_pv9 h_dg h_lt9 hfr hI hl kx
    refine lv_iload hx hb d_M_findLeast_62 (lv_at hl 0 rfl) ?_
    refine lv_aload_n hx hb d_M_findLeast_64 rfl (lv_at hl 6 rfl) ?_
    refine mp_get (C := R_M) (T := F_M) (N := 31) (v := .int (nI s9)) hx hb hg i_M hown hK.va hI h_o rfl 14 (by decide) (hg _ q_818) (fun _ h9 => h9) rfl d_M_findLeast_65 ?_
    refine lv_icmp_ge (tgt := 94) hx hb d_M_findLeast_68 (by decide) (fun _ => ?_) (fun h9 => absurd ((nI_leI (by omega) (by omega)).mpr (by omega)) h9)
    obtain rfl : i = s9 := by omega
    exact kx S H locs ls h_o h_le h_ta h_ve h_ot h_ro h_pv9 h_dg h_lt9 hfr hI (lv_sub hl [0, 1, 2, 3, 4, 5, 6] rfl)
  | succ k ih =>
    intro i S H locs ls hi h_o h_le h_ta h_ve h_ot h_ro h_pv9 h_dg h_lt9 hfr hI hl kx
    refine lv_iload hx hb d_M_findLeast_62 (lv_at hl 0 rfl) ?_
    refine lv_aload_n hx hb d_M_findLeast_64 rfl (lv_at hl 6 rfl) ?_
    refine mp_get (C := R_M) (T := F_M) (N := 31) (v := .int (nI s9)) hx hb hg i_M hown hK.va hI h_o rfl 14 (by decide) (hg _ q_818) (fun _ h9 => h9) rfl d_M_findLeast_65 ?_
    refine lv_icmp_ge (tgt := 94) hx hb d_M_findLeast_68 (by decide) (fun h9 => absurd h9 (by rw [nI_leI (by omega) (by omega)]; omega)) (fun _ => ?_)
    refine lv_aload_n hx hb d_M_findLeast_71 rfl (lv_at hl 6 rfl) ?_
    refine mp_get (C := R_M) (T := F_M) (N := 31) (v := .ref ro) hx hb hg i_M hown hK.va hI h_o rfl 27 (by decide) (hg _ q_831) (fun _ h9 => h9) rfl d_M_findLeast_72 ?_
    refine lv_iload hx hb d_M_findLeast_75 (lv_at hl 1 rfl) ?_
    refine lv_iload hx hb d_M_findLeast_77 (lv_at hl 0 rfl) ?_
    refine lv_iadd hx hb d_M_findLeast_79 ?_
    refine lv_topi (fun v1 ev1 => ?_)
    obtain rfl : v1 = nI (a9 + i) := ev1.trans (nI_add _ _)
    refine lv_aload_n hx hb d_M_findLeast_80 rfl (lv_at hl 6 rfl) ?_
    refine mp_get (C := R_M) (T := F_M) (N := 31) (v := .ref ve) hx hb hg i_M hown hK.va hI h_o rfl 25 (by decide) (hg _ q_829) (fun _ h9 => h9) rfl d_M_findLeast_81 ?_
    refine lv_iload hx hb d_M_findLeast_84 (lv_at hl 0 rfl) ?_
    refine mp_iald hx hb hK.va hI 0 h_ve rfl (vp_in_nI (show i < 16 by omega) (by omega)) d_M_findLeast_86 ?_
    refine lv_topi (fun v2 ev2 => ?_)
    obtain rfl : v2 = nI (vv i).val := ev2.trans (by rw [nI_clamp (by omega)])
    refine mp_iast hx hb hK.va hI 0 h_ro rfl (vp_in_nI (show a9 + i < 1700 by omega) (by omega)) d_M_findLeast_87 (fun S3 H4 locs e_5 hI => ?_)
    have h_ro_o := h_ro
    have e_5 : S3 = va_up S ro (some (2019, .inl ((g 0), 1700, .inl (upd (fun j => nI ((layI a9 i vv RW) j).val) (nI (a9 + i)).toNatClampNeg (nI (vv i).val))))) := e_5
    have h_o : S3 o = some (2000, .inr (10, [mv0, mv1, mv2, mv3, mv4, mv5, mv6, mv7, mv8, mv9, mv10, mv11, mv12, mv13, .int (nI s9), .ref le, .ref ta, .ref dg, .ref lt9, mv19, mv20, mv21, mv22, mv23, mv24, .ref ve, .ref ot, .ref ro, .ref pv9, mv29, mv30])) := by rw [e_5]; exact mp_keep h_o h_ro (by decide)
    have h_le : S3 le = some (2008, .inl ((g 0), 17, .inl (fun j => nI (LF j)))) := by rw [e_5]; exact mp_keep h_le h_ro (by decide)
    have h_ta : S3 ta = some (2009, .inl ((g 0), 768, .inl (fun j => nI (TB j).val))) := by rw [e_5]; exact mp_keep h_ta h_ro (by decide)
    have h_ve : S3 ve = some (2017, .inl ((g 0), 16, .inl (fun j => nI (vv j).val))) := by rw [e_5]; exact mp_keep h_ve h_ro (by decide)
    have h_ot : S3 ot = some (2018, .inl ((g 0), 16, .inl (fun j => nI (ww j).val))) := by rw [e_5]; exact mp_keep h_ot h_ro (by decide)
    have h_pv9 : S3 pv9 = some (2020, .inl ((g 0), 64, .inl PV)) := by rw [e_5]; exact mp_keep h_pv9 h_ro (by decide)
    have h_dg : S3 dg = some (2010, .inl ((g 0), 3, .inl (fun j => nI (DG j)))) := by rw [e_5]; exact mp_keep h_dg h_ro (by decide)
    have h_lt9 : S3 lt9 = some (2011, .inl ((g 0), 51, .inl (fun j => nI (LE9 j).val))) := by rw [e_5]; exact mp_keep h_lt9 h_ro (by decide)
    have h_ro : S3 ro = some (2019, .inl ((g 0), 1700, .inl (upd (fun j => nI ((layI a9 i vv RW) j).val) (nI (a9 + i)).toNatClampNeg (nI (vv i).val)))) := by rw [e_5]; exact mp_us _ _ _
    have hfr : ∀ b t e9, B b = some (t, e9) → (t ≠ 2017) → (t ≠ 2018) → (t ≠ 2019) → (t ≠ 2020) → (t ≠ 2010) → (t ≠ 2011) → S3 b = some (t, e9) := fun b t e9 h9 k0 k1 k2 k3 k4 k5 => by rw [e_5]; exact mp_keep (hfr b t e9 h9 k0 k1 k2 k3 k4 k5) h_ro_o (by omega)
    rw [nI_clamp (by omega), nIv_up] at h_ro
    have e9h_ro : (fun j => nI (va_up (layI a9 i vv RW) (a9 + i) (vv i) j).val) = (fun j => nI ((layI a9 (i + 1) vv RW) j).val) := by rw [layI_up]
    rw [e9h_ro] at h_ro
    refine lv_iinc (v := nI (i + 1)) (lv' := [(6, .int (nI (i + 1))), (5, .int (nI a9)), (4, .int (nI n9)), (3, .int (nI 1)), (2, .int (nI (s9 + 17))), (1, .int (nI l9)), (0, .ref o)]) hx hb d_M_findLeast_88 hl (k := 0) rfl (nI_1 _) (by decide) rfl (fun ls hl => ?_)
    refine lv_goto (tgt := 62) hx hb d_M_findLeast_91 (by decide) ?_
    exact ih (i + 1) S3 H4 locs ls (by omega) h_o h_le h_ta h_ve h_ot h_ro h_pv9 h_dg h_lt9 hfr hI (lv_sub hl [0, 1, 2, 3, 4, 5, 6] rfl) kx
set_option maxHeartbeats 4000000 in
set_option maxRecDepth 100000 in
theorem lp_M_fl2 {p : Program} {l : Launch} {e : Env} {R : Room} {s : State} {m : MethodId} {args : Array Value} {below : List Frame} {meth : Method} {c : Code} {Q : State → Prop} {D : mp_G} {g : Nat → ClassId} {A : Nat → Prop} {cells slots : Nat} (hx : p.tables.exec = Jvm.exec) (hb : c.code = b_M_findLeast) (hml : c.maxLocals = 8) (hg : ∀ w ∈ gw, w.before args s = true) (hown : s.vm.findClass R_M = some m.cls) (hK : mp_K D classes (tys g) s) (hRf : 0 ≤ R.frames) (hRl : 0 ≤ R.locals) (hRc : cells ≤ R.cells) (hRs : slots ≤ R.slots) {B : mp_M} {o le ta ve ot ro pv9 dg lt9 s9 l9 : Nat} {mv0 mv1 mv2 mv3 mv4 mv5 mv6 mv7 mv8 mv9 mv10 mv11 mv12 mv13 mv19 mv20 mv21 mv22 mv23 mv24 mv29 mv30 : Value} {LF : Nat → Nat} {TB : Nat → fF} {RW vv ww LE9 : Nat → fF} {PV : Nat → Int32} {DG : Nat → Nat} {a9 n9 : Nat} (hs : s9 ≤ 16) (hl9 : l9 < 3) (ha9 : a9 ≤ 528) (hn9 : n9 ≤ 16) : ∀ (k : Nat) (i : Nat) (S : mp_M) (H : Heap) (locs : List Loc) (ls : Array Slot), i + k = 17 → S o = some (2000, .inr (10, [mv0, mv1, mv2, mv3, mv4, mv5, mv6, mv7, mv8, mv9, mv10, mv11, mv12, mv13, .int (nI s9), .ref le, .ref ta, .ref dg, .ref lt9, mv19, mv20, mv21, mv22, mv23, mv24, .ref ve, .ref ot, .ref ro, .ref pv9, mv29, mv30])) → S le = some (2008, .inl ((g 0), 17, .inl (fun j => nI (LF j)))) → S ta = some (2009, .inl ((g 0), 768, .inl (fun j => nI (TB j).val))) → S ve = some (2017, .inl ((g 0), 16, .inl (fun j => nI (vv j).val))) → S ot = some (2018, .inl ((g 0), 16, .inl (fun j => nI (ww j).val))) → S ro = some (2019, .inl ((g 0), 1700, .inl (fun j => nI ((layI (a9 + s9) i (dl9 n9) RW) j).val))) → S pv9 = some (2020, .inl ((g 0), 64, .inl PV)) → S dg = some (2010, .inl ((g 0), 3, .inl (fun j => nI (DG j)))) → S lt9 = some (2011, .inl ((g 0), 51, .inl (fun j => nI (LE9 j).val))) → (∀ b t e9, B b = some (t, e9) → (t ≠ 2017) → (t ≠ 2018) → (t ≠ 2019) → (t ≠ 2020) → (t ≠ 2010) → (t ≠ 2011) → S b = some (t, e9)) → mp_I D classes A s.heap S H locs → lv_has ls 8 [(6, .int (nI i)), (5, .int (nI a9)), (4, .int (nI n9)), (3, .int (nI 1)), (2, .int (nI (s9 + 17))), (1, .int (nI l9)), (0, .ref o)] → (∀ (S : mp_M) (H : Heap) (locs : List Loc) (ls : Array Slot), S o = some (2000, .inr (10, [mv0, mv1, mv2, mv3, mv4, mv5, mv6, mv7, mv8, mv9, mv10, mv11, mv12, mv13, .int (nI s9), .ref le, .ref ta, .ref dg, .ref lt9, mv19, mv20, mv21, mv22, mv23, mv24, .ref ve, .ref ot, .ref ro, .ref pv9, mv29, mv30])) → S le = some (2008, .inl ((g 0), 17, .inl (fun j => nI (LF j)))) → S ta = some (2009, .inl ((g 0), 768, .inl (fun j => nI (TB j).val))) → S ve = some (2017, .inl ((g 0), 16, .inl (fun j => nI (vv j).val))) → S ot = some (2018, .inl ((g 0), 16, .inl (fun j => nI (ww j).val))) → S ro = some (2019, .inl ((g 0), 1700, .inl (fun j => nI ((layI (a9 + s9) 17 (dl9 n9) RW) j).val))) → S pv9 = some (2020, .inl ((g 0), 64, .inl PV)) → S dg = some (2010, .inl ((g 0), 3, .inl (fun j => nI (DG j)))) → S lt9 = some (2011, .inl ((g 0), 51, .inl (fun j => nI (LE9 j).val))) → (∀ b t e9, B b = some (t, e9) → (t ≠ 2017) → (t ≠ 2018) → (t ≠ 2019) → (t ≠ 2020) → (t ≠ 2010) → (t ≠ 2011) → S b = some (t, e9)) → mp_I D classes A s.heap S H locs → lv_has ls 8 [(6, .int (nI 17)), (5, .int (nI a9)), (4, .int (nI n9)), (3, .int (nI 1)), (2, .int (nI (s9 + 17))), (1, .int (nI l9)), (0, .ref o)] → W p l e R s m args below meth c H locs cells slots Q (F0 m 137 ls [])) → W p l e R s m args below meth c H locs cells slots Q (F0 m 97 ls []) := by
  intro k
  induction k with
  | zero =>
    intro i S H locs ls hi h_o h_le h_ta h_ve h_ot h_ro h_pv9 h_dg h_lt9 hfr hI hl kx
    refine lv_iload hx hb d_M_findLeast_97 (lv_at hl 0 rfl) ?_
    refine lv_bipush (v := nI 17) hx hb d_M_findLeast_99 (by decide) ?_
    refine lv_icmp_ge (tgt := 137) hx hb d_M_findLeast_101 (by decide) (fun _ => ?_) (fun h9 => absurd ((nI_leI (by omega) (by omega)).mpr (by omega)) h9)
    obtain rfl : i = 17 := by omega
    exact kx S H locs ls h_o h_le h_ta h_ve h_ot h_ro h_pv9 h_dg h_lt9 hfr hI (lv_sub hl [0, 1, 2, 3, 4, 5, 6] rfl)
  | succ k ih =>
    intro i S H locs ls hi h_o h_le h_ta h_ve h_ot h_ro h_pv9 h_dg h_lt9 hfr hI hl kx
    refine lv_iload hx hb d_M_findLeast_97 (lv_at hl 0 rfl) ?_
    refine lv_bipush (v := nI 17) hx hb d_M_findLeast_99 (by decide) ?_
    refine lv_icmp_ge (tgt := 137) hx hb d_M_findLeast_101 (by decide) (fun h9 => absurd h9 (by rw [nI_leI (by omega) (by omega)]; omega)) (fun _ => ?_)
    refine lv_aload_n hx hb d_M_findLeast_104 rfl (lv_at hl 6 rfl) ?_
    refine mp_get (C := R_M) (T := F_M) (N := 31) (v := .ref ro) hx hb hg i_M hown hK.va hI h_o rfl 27 (by decide) (hg _ q_831) (fun _ h9 => h9) rfl d_M_findLeast_105 ?_
    refine lv_iload hx hb d_M_findLeast_108 (lv_at hl 1 rfl) ?_
    refine lv_aload_n hx hb d_M_findLeast_110 rfl (lv_at hl 6 rfl) ?_
    refine mp_get (C := R_M) (T := F_M) (N := 31) (v := .int (nI s9)) hx hb hg i_M hown hK.va hI h_o rfl 14 (by decide) (hg _ q_818) (fun _ h9 => h9) rfl d_M_findLeast_111 ?_
    refine lv_iadd hx hb d_M_findLeast_114 ?_
    refine lv_topi (fun v1 ev1 => ?_)
    obtain rfl : v1 = nI (a9 + s9) := ev1.trans (nI_add _ _)
    refine lv_iload hx hb d_M_findLeast_115 (lv_at hl 0 rfl) ?_
    refine lv_iadd hx hb d_M_findLeast_117 ?_
    refine lv_topi (fun v2 ev2 => ?_)
    obtain rfl : v2 = nI ((a9 + s9) + i) := ev2.trans (nI_add _ _)
    refine lv_iload hx hb d_M_findLeast_118 (lv_at hl 0 rfl) ?_
    refine lv_iload hx hb d_M_findLeast_120 (lv_at hl 2 rfl) ?_
    refine lv_icmp_ne (tgt := 129) hx hb d_M_findLeast_122 (by decide) (fun c1 => ?_) (fun c1 => ?_)
    · rw [nI_eq (by omega) (by omega)] at c1
      refine lv_iconst (v := nI 0) hx hb d_M_findLeast_129 (by decide) ?_
      refine mp_iast hx hb hK.va hI 0 h_ro rfl (vp_in_nI (show (a9 + s9) + i < 1700 by omega) (by omega)) d_M_findLeast_130 (fun S3 H4 locs e_5 hI => ?_)
      have h_ro_o := h_ro
      have e_5 : S3 = va_up S ro (some (2019, .inl ((g 0), 1700, .inl (upd (fun j => nI ((layI (a9 + s9) i (dl9 n9) RW) j).val) (nI ((a9 + s9) + i)).toNatClampNeg (nI 0))))) := e_5
      have h_o : S3 o = some (2000, .inr (10, [mv0, mv1, mv2, mv3, mv4, mv5, mv6, mv7, mv8, mv9, mv10, mv11, mv12, mv13, .int (nI s9), .ref le, .ref ta, .ref dg, .ref lt9, mv19, mv20, mv21, mv22, mv23, mv24, .ref ve, .ref ot, .ref ro, .ref pv9, mv29, mv30])) := by rw [e_5]; exact mp_keep h_o h_ro (by decide)
      have h_le : S3 le = some (2008, .inl ((g 0), 17, .inl (fun j => nI (LF j)))) := by rw [e_5]; exact mp_keep h_le h_ro (by decide)
      have h_ta : S3 ta = some (2009, .inl ((g 0), 768, .inl (fun j => nI (TB j).val))) := by rw [e_5]; exact mp_keep h_ta h_ro (by decide)
      have h_ve : S3 ve = some (2017, .inl ((g 0), 16, .inl (fun j => nI (vv j).val))) := by rw [e_5]; exact mp_keep h_ve h_ro (by decide)
      have h_ot : S3 ot = some (2018, .inl ((g 0), 16, .inl (fun j => nI (ww j).val))) := by rw [e_5]; exact mp_keep h_ot h_ro (by decide)
      have h_pv9 : S3 pv9 = some (2020, .inl ((g 0), 64, .inl PV)) := by rw [e_5]; exact mp_keep h_pv9 h_ro (by decide)
      have h_dg : S3 dg = some (2010, .inl ((g 0), 3, .inl (fun j => nI (DG j)))) := by rw [e_5]; exact mp_keep h_dg h_ro (by decide)
      have h_lt9 : S3 lt9 = some (2011, .inl ((g 0), 51, .inl (fun j => nI (LE9 j).val))) := by rw [e_5]; exact mp_keep h_lt9 h_ro (by decide)
      have h_ro : S3 ro = some (2019, .inl ((g 0), 1700, .inl (upd (fun j => nI ((layI (a9 + s9) i (dl9 n9) RW) j).val) (nI ((a9 + s9) + i)).toNatClampNeg (nI 0)))) := by rw [e_5]; exact mp_us _ _ _
      have hfr : ∀ b t e9, B b = some (t, e9) → (t ≠ 2017) → (t ≠ 2018) → (t ≠ 2019) → (t ≠ 2020) → (t ≠ 2010) → (t ≠ 2011) → S3 b = some (t, e9) := fun b t e9 h9 k0 k1 k2 k3 k4 k5 => by rw [e_5]; exact mp_keep (hfr b t e9 h9 k0 k1 k2 k3 k4 k5) h_ro_o (by omega)
      have h_ro := h_ro
      rw [nI_clamp (by omega), nIv_up0] at h_ro
      have e9h_ro : (fun j => nI (va_up (layI (a9 + s9) i (dl9 n9) RW) ((a9 + s9) + i) 0 j).val) = (fun j => nI ((layI (a9 + s9) (i + 1) (dl9 n9) RW) j).val) := by rw [← layI_up, show dl9 n9 i = 0 from if_neg c1]
      rw [e9h_ro] at h_ro
      refine lv_iinc (v := nI (i + 1)) (lv' := [(6, .int (nI (i + 1))), (5, .int (nI a9)), (4, .int (nI n9)), (3, .int (nI 1)), (2, .int (nI (s9 + 17))), (1, .int (nI l9)), (0, .ref o)]) hx hb d_M_findLeast_131 hl (k := 0) rfl (nI_1 _) (by decide) rfl (fun ls hl => ?_)
      refine lv_goto (tgt := 97) hx hb d_M_findLeast_134 (by decide) ?_
      exact ih (i + 1) S3 H4 locs ls (by omega) h_o h_le h_ta h_ve h_ot h_ro h_pv9 h_dg h_lt9 hfr hI (lv_sub hl [0, 1, 2, 3, 4, 5, 6] rfl) kx
    · rw [nI_eq (by omega) (by omega)] at c1
      refine lv_iconst (v := nI 1) hx hb d_M_findLeast_125 (by decide) ?_
      refine lv_goto (tgt := 130) hx hb d_M_findLeast_126 (by decide) ?_
      refine mp_iast hx hb hK.va hI 0 h_ro rfl (vp_in_nI (show (a9 + s9) + i < 1700 by omega) (by omega)) d_M_findLeast_130 (fun S6 H7 locs e_8 hI => ?_)
      have h_ro_o := h_ro
      have e_8 : S6 = va_up S ro (some (2019, .inl ((g 0), 1700, .inl (upd (fun j => nI ((layI (a9 + s9) i (dl9 n9) RW) j).val) (nI ((a9 + s9) + i)).toNatClampNeg (nI 1))))) := e_8
      have h_o : S6 o = some (2000, .inr (10, [mv0, mv1, mv2, mv3, mv4, mv5, mv6, mv7, mv8, mv9, mv10, mv11, mv12, mv13, .int (nI s9), .ref le, .ref ta, .ref dg, .ref lt9, mv19, mv20, mv21, mv22, mv23, mv24, .ref ve, .ref ot, .ref ro, .ref pv9, mv29, mv30])) := by rw [e_8]; exact mp_keep h_o h_ro (by decide)
      have h_le : S6 le = some (2008, .inl ((g 0), 17, .inl (fun j => nI (LF j)))) := by rw [e_8]; exact mp_keep h_le h_ro (by decide)
      have h_ta : S6 ta = some (2009, .inl ((g 0), 768, .inl (fun j => nI (TB j).val))) := by rw [e_8]; exact mp_keep h_ta h_ro (by decide)
      have h_ve : S6 ve = some (2017, .inl ((g 0), 16, .inl (fun j => nI (vv j).val))) := by rw [e_8]; exact mp_keep h_ve h_ro (by decide)
      have h_ot : S6 ot = some (2018, .inl ((g 0), 16, .inl (fun j => nI (ww j).val))) := by rw [e_8]; exact mp_keep h_ot h_ro (by decide)
      have h_pv9 : S6 pv9 = some (2020, .inl ((g 0), 64, .inl PV)) := by rw [e_8]; exact mp_keep h_pv9 h_ro (by decide)
      have h_dg : S6 dg = some (2010, .inl ((g 0), 3, .inl (fun j => nI (DG j)))) := by rw [e_8]; exact mp_keep h_dg h_ro (by decide)
      have h_lt9 : S6 lt9 = some (2011, .inl ((g 0), 51, .inl (fun j => nI (LE9 j).val))) := by rw [e_8]; exact mp_keep h_lt9 h_ro (by decide)
      have h_ro : S6 ro = some (2019, .inl ((g 0), 1700, .inl (upd (fun j => nI ((layI (a9 + s9) i (dl9 n9) RW) j).val) (nI ((a9 + s9) + i)).toNatClampNeg (nI 1)))) := by rw [e_8]; exact mp_us _ _ _
      have hfr : ∀ b t e9, B b = some (t, e9) → (t ≠ 2017) → (t ≠ 2018) → (t ≠ 2019) → (t ≠ 2020) → (t ≠ 2010) → (t ≠ 2011) → S6 b = some (t, e9) := fun b t e9 h9 k0 k1 k2 k3 k4 k5 => by rw [e_8]; exact mp_keep (hfr b t e9 h9 k0 k1 k2 k3 k4 k5) h_ro_o (by omega)
      have h_ro := h_ro
      rw [nI_clamp (by omega), nIv_up1] at h_ro
      have e9h_ro : (fun j => nI (va_up (layI (a9 + s9) i (dl9 n9) RW) ((a9 + s9) + i) 1 j).val) = (fun j => nI ((layI (a9 + s9) (i + 1) (dl9 n9) RW) j).val) := by rw [← layI_up, show dl9 n9 i = 1 from if_pos c1]
      rw [e9h_ro] at h_ro
      refine lv_iinc (v := nI (i + 1)) (lv' := [(6, .int (nI (i + 1))), (5, .int (nI a9)), (4, .int (nI n9)), (3, .int (nI 1)), (2, .int (nI (s9 + 17))), (1, .int (nI l9)), (0, .ref o)]) hx hb d_M_findLeast_131 hl (k := 0) rfl (nI_1 _) (by decide) rfl (fun ls hl => ?_)
      refine lv_goto (tgt := 97) hx hb d_M_findLeast_134 (by decide) ?_
      exact ih (i + 1) S6 H7 locs ls (by omega) h_o h_le h_ta h_ve h_ot h_ro h_pv9 h_dg h_lt9 hfr hI (lv_sub hl [0, 1, 2, 3, 4, 5, 6] rfl) kx
set_option maxHeartbeats 4000000 in
set_option maxRecDepth 100000 in
theorem lp_M_fl3 {p : Program} {l : Launch} {e : Env} {R : Room} {s : State} {m : MethodId} {args : Array Value} {below : List Frame} {meth : Method} {c : Code} {Q : State → Prop} {D : mp_G} {g : Nat → ClassId} {A : Nat → Prop} {cells slots : Nat} (hx : p.tables.exec = Jvm.exec) (hb : c.code = b_M_findLeast) (hml : c.maxLocals = 8) (hg : ∀ w ∈ gw, w.before args s = true) (hown : s.vm.findClass R_M = some m.cls) (hK : mp_K D classes (tys g) s) (hRf : 3 ≤ R.frames) (hRl : 71 ≤ R.locals) (hRc : cells ≤ R.cells) (hRs : slots ≤ R.slots) {B : mp_M} {o le ta ve ot ro pv9 dg lt9 s9 l9 : Nat} {mv0 mv1 mv2 mv3 mv4 mv5 mv6 mv7 mv8 mv9 mv10 mv11 mv12 mv13 mv19 mv20 mv21 mv22 mv23 mv24 mv29 mv30 : Value} {LF : Nat → Nat} {TB : Nat → fF} {RW vv ww LE9 : Nat → fF} {PV : Nat → Int32} {DG : Nat → Nat} {a9 n9 : Nat} (hs : s9 ≤ 16) (hl9 : l9 < 3) (ha9 : a9 ≤ 528) (hn9 : n9 ≤ 16) (ea9 : a9 = (s9 + 17) * n9) (hrw : ∀ r, r < n9 → ∀ q, q < s9 + 17 → RW ((s9 + 17) * r + q) = rwN s9 (vqM TB l9 s9) r (pC s9 q)) (hpv : ∀ r, r < n9 → PV r = nI (lsp s9 (vqM TB l9 s9) r)) (hlo : ∀ r, r < n9 → lsp s9 (vqM TB l9 s9) r < s9) : ∀ (k : Nat) (i : Nat) (RV : Nat → fF) (S : mp_M) (H : Heap) (locs : List Loc) (ls : Array Slot), i + k = n9 → (rtI s9 (vqM TB l9 s9) n9 i a9 RW RV) → S o = some (2000, .inr (10, [mv0, mv1, mv2, mv3, mv4, mv5, mv6, mv7, mv8, mv9, mv10, mv11, mv12, mv13, .int (nI s9), .ref le, .ref ta, .ref dg, .ref lt9, mv19, mv20, mv21, mv22, mv23, mv24, .ref ve, .ref ot, .ref ro, .ref pv9, mv29, mv30])) → S le = some (2008, .inl ((g 0), 17, .inl (fun j => nI (LF j)))) → S ta = some (2009, .inl ((g 0), 768, .inl (fun j => nI (TB j).val))) → S ve = some (2017, .inl ((g 0), 16, .inl (fun j => nI (vv j).val))) → S ot = some (2018, .inl ((g 0), 16, .inl (fun j => nI (ww j).val))) → S ro = some (2019, .inl ((g 0), 1700, .inl (fun j => nI (RV j).val))) → S pv9 = some (2020, .inl ((g 0), 64, .inl PV)) → S dg = some (2010, .inl ((g 0), 3, .inl (fun j => nI (DG j)))) → S lt9 = some (2011, .inl ((g 0), 51, .inl (fun j => nI (LE9 j).val))) → (∀ b t e9, B b = some (t, e9) → (t ≠ 2017) → (t ≠ 2018) → (t ≠ 2019) → (t ≠ 2020) → (t ≠ 2010) → (t ≠ 2011) → S b = some (t, e9)) → mp_I D classes A s.heap S H locs → lv_has ls 8 [(6, .int (nI i)), (5, .int (nI a9)), (4, .int (nI n9)), (3, .int (nI 1)), (2, .int (nI (s9 + 17))), (1, .int (nI l9)), (0, .ref o)] → (∀ (RV : Nat → fF) (S : mp_M) (H : Heap) (locs : List Loc) (ls : Array Slot), (rtI s9 (vqM TB l9 s9) n9 n9 a9 RW RV) → S o = some (2000, .inr (10, [mv0, mv1, mv2, mv3, mv4, mv5, mv6, mv7, mv8, mv9, mv10, mv11, mv12, mv13, .int (nI s9), .ref le, .ref ta, .ref dg, .ref lt9, mv19, mv20, mv21, mv22, mv23, mv24, .ref ve, .ref ot, .ref ro, .ref pv9, mv29, mv30])) → S le = some (2008, .inl ((g 0), 17, .inl (fun j => nI (LF j)))) → S ta = some (2009, .inl ((g 0), 768, .inl (fun j => nI (TB j).val))) → S ve = some (2017, .inl ((g 0), 16, .inl (fun j => nI (vv j).val))) → S ot = some (2018, .inl ((g 0), 16, .inl (fun j => nI (ww j).val))) → S ro = some (2019, .inl ((g 0), 1700, .inl (fun j => nI (RV j).val))) → S pv9 = some (2020, .inl ((g 0), 64, .inl PV)) → S dg = some (2010, .inl ((g 0), 3, .inl (fun j => nI (DG j)))) → S lt9 = some (2011, .inl ((g 0), 51, .inl (fun j => nI (LE9 j).val))) → (∀ b t e9, B b = some (t, e9) → (t ≠ 2017) → (t ≠ 2018) → (t ≠ 2019) → (t ≠ 2020) → (t ≠ 2010) → (t ≠ 2011) → S b = some (t, e9)) → mp_I D classes A s.heap S H locs → lv_has ls 8 [(6, .int (nI n9)), (5, .int (nI a9)), (4, .int (nI n9)), (3, .int (nI 1)), (2, .int (nI (s9 + 17))), (1, .int (nI l9)), (0, .ref o)] → W p l e R s m args below meth c H locs cells slots Q (F0 m 171 ls [])) → W p l e R s m args below meth c H locs cells slots Q (F0 m 140 ls []) := by
  intro k
  induction k with
  | zero =>
    intro i RV S H locs ls hi hrt h_o h_le h_ta h_ve h_ot h_ro h_pv9 h_dg h_lt9 hfr hI hl kx
    refine lv_iload hx hb d_M_findLeast_140 (lv_at hl 0 rfl) ?_
    refine lv_iload hx hb d_M_findLeast_142 (lv_at hl 2 rfl) ?_
    refine lv_icmp_ge (tgt := 171) hx hb d_M_findLeast_144 (by decide) (fun _ => ?_) (fun h9 => absurd ((nI_leI (by omega) (by omega)).mpr (by omega)) h9)
    obtain rfl : i = n9 := by omega
    exact kx RV S H locs ls hrt h_o h_le h_ta h_ve h_ot h_ro h_pv9 h_dg h_lt9 hfr hI (lv_sub hl [0, 1, 2, 3, 4, 5, 6] rfl)
  | succ k ih =>
    intro i RV S H locs ls hi hrt h_o h_le h_ta h_ve h_ot h_ro h_pv9 h_dg h_lt9 hfr hI hl kx
    have hmw := mul_w (w := s9 + 17) (show i < n9 by omega)
    have hl8 := hlo i (by omega)
    have hlp := hpv i (by omega)
    refine lv_iload hx hb d_M_findLeast_140 (lv_at hl 0 rfl) ?_
    refine lv_iload hx hb d_M_findLeast_142 (lv_at hl 2 rfl) ?_
    refine lv_icmp_ge (tgt := 171) hx hb d_M_findLeast_144 (by decide) (fun h9 => absurd h9 (by rw [nI_leI (by omega) (by omega)]; omega)) (fun _ => ?_)
    refine lv_aload_n hx hb d_M_findLeast_147 rfl (lv_at hl 6 rfl) ?_
    refine lv_iload hx hb d_M_findLeast_148 (lv_at hl 1 rfl) ?_
    refine lv_iload_n hx hb d_M_findLeast_150 rfl (lv_at hl 4 rfl) ?_
    refine lv_iload hx hb d_M_findLeast_151 (lv_at hl 0 rfl) ?_
    refine lv_imul hx hb d_M_findLeast_153 ?_
    refine lv_topi (fun v1 ev1 => ?_)
    obtain rfl : v1 = nI ((s9 + 17) * i) := ev1.trans (pk_mul _ _)
    refine lv_aload_n hx hb d_M_findLeast_154 rfl (lv_at hl 6 rfl) ?_
    refine mp_get (C := R_M) (T := F_M) (N := 31) (v := .ref pv9) hx hb hg i_M hown hK.va hI h_o rfl 28 (by decide) (hg _ q_832) (fun _ h9 => h9) rfl d_M_findLeast_155 ?_
    refine lv_iload hx hb d_M_findLeast_158 (lv_at hl 0 rfl) ?_
    refine mp_iald hx hb hK.va hI 0 h_pv9 rfl (vp_in_nI (show i < 64 by omega) (by omega)) d_M_findLeast_160 ?_
    refine lv_topi (fun v2 ev2 => ?_)
    obtain rfl : v2 = nI (lsp s9 (vqM TB l9 s9) i) := ev2.trans (by rw [nI_clamp (by omega)]; exact hlp)
    refine lv_iload_n hx hb d_M_findLeast_161 rfl (lv_at hl 4 rfl) ?_
    refine mp_callv hI (va_runV (As := [.int (nI a9), .int (nI ((s9 + 17) * i)), .int (nI (lsp s9 (vqM TB l9 s9) i)), .int (nI (s9 + 17))]) (rest := []) ⟨hx, hb, hml, hown, hg⟩ (c_M_takeRow l D g S _ o ro a9 ((s9 + 17) * i) (lsp s9 (vqM TB l9 s9) i) (s9 + 17) mv0 mv1 mv2 mv3 mv4 mv5 mv6 mv7 mv8 mv9 mv10 mv11 mv12 mv13 (.int (nI s9)) (.ref le) (.ref ta) (.ref dg) (.ref lt9) mv19 mv20 mv21 mv22 mv23 mv24 (.ref ve) (.ref ot) (.ref pv9) mv29 mv30 RV h_o h_ro (by omega) (by omega) (by omega) (by omega)) ⟨(callB_of 4 hg (wd_goodG q_1018) rfl rfl rfl (hg _ q_5) (hg _ q_1015) (by decide +kernel) ⟨Nat.le_trans (Nat.le_of_ble_eq_true rfl) hRf, Nat.le_trans (Nat.le_of_ble_eq_true rfl) hRl⟩), hg _ q_1017, hg _ qs_38⟩ (mp_preV (C := R_M) (T := F_M) hI hK h_o rfl [.int (nI a9), .int (nI ((s9 + 17) * i)), .int (nI (lsp s9 (vqM TB l9 s9) i)), .int (nI (s9 + 17))]) rfl rfl hl.1 rfl (lv_room (Nat.le_of_ble_eq_true rfl)) d_M_findLeast_162 ⟨by omega, by omega⟩) (fun S3 H4 locs p_5 hI => ?_)
    obtain ⟨q_ro, fq⟩ := p_5
    have h_o : S3 o = some (2000, .inr (10, [mv0, mv1, mv2, mv3, mv4, mv5, mv6, mv7, mv8, mv9, mv10, mv11, mv12, mv13, .int (nI s9), .ref le, .ref ta, .ref dg, .ref lt9, mv19, mv20, mv21, mv22, mv23, mv24, .ref ve, .ref ot, .ref ro, .ref pv9, mv29, mv30])) := fq o _ _ h_o (by omega)
    have h_le : S3 le = some (2008, .inl ((g 0), 17, .inl (fun j => nI (LF j)))) := fq le _ _ h_le (by omega)
    have h_ta : S3 ta = some (2009, .inl ((g 0), 768, .inl (fun j => nI (TB j).val))) := fq ta _ _ h_ta (by omega)
    have h_ve : S3 ve = some (2017, .inl ((g 0), 16, .inl (fun j => nI (vv j).val))) := fq ve _ _ h_ve (by omega)
    have h_ot : S3 ot = some (2018, .inl ((g 0), 16, .inl (fun j => nI (ww j).val))) := fq ot _ _ h_ot (by omega)
    have h_pv9 : S3 pv9 = some (2020, .inl ((g 0), 64, .inl PV)) := fq pv9 _ _ h_pv9 (by omega)
    have h_dg : S3 dg = some (2010, .inl ((g 0), 3, .inl (fun j => nI (DG j)))) := fq dg _ _ h_dg (by omega)
    have h_lt9 : S3 lt9 = some (2011, .inl ((g 0), 51, .inl (fun j => nI (LE9 j).val))) := fq lt9 _ _ h_lt9 (by omega)
    have hfr : ∀ b t e9, B b = some (t, e9) → (t ≠ 2017) → (t ≠ 2018) → (t ≠ 2019) → (t ≠ 2020) → (t ≠ 2010) → (t ≠ 2011) → S3 b = some (t, e9) := fun b t e9 h9 k0 k1 k2 k3 k4 k5 => by have h8 := hfr b t e9 h9 k0 k1 k2 k3 k4 k5; exact fq b _ _ h8 (by omega)
    have h_ro := q_ro
    refine lv_iinc (v := nI (i + 1)) (lv' := [(6, .int (nI (i + 1))), (5, .int (nI a9)), (4, .int (nI n9)), (3, .int (nI 1)), (2, .int (nI (s9 + 17))), (1, .int (nI l9)), (0, .ref o)]) hx hb d_M_findLeast_165 hl (k := 0) rfl (nI_1 _) (by decide) rfl (fun ls hl => ?_)
    refine lv_goto (tgt := 140) hx hb d_M_findLeast_168 (by decide) ?_
    exact ih (i + 1) (trI a9 ((s9 + 17) * i) (RV (a9 + lsp s9 (vqM TB l9 s9) i) * iv (RV ((s9 + 17) * i + lsp s9 (vqM TB l9 s9) i))) RV (s9 + 17)) S3 H4 locs ls (by omega) (rtI_up hrt (fun q hq => by rw [← hrw i (by omega) q hq]) (by omega) hl8) h_o h_le h_ta h_ve h_ot h_ro h_pv9 h_dg h_lt9 hfr hI (lv_sub hl [0, 1, 2, 3, 4, 5, 6] rfl) kx
set_option maxHeartbeats 4000000 in
set_option maxRecDepth 100000 in
theorem lp_M_fl4 {p : Program} {l : Launch} {e : Env} {R : Room} {s : State} {m : MethodId} {args : Array Value} {below : List Frame} {meth : Method} {c : Code} {Q : State → Prop} {D : mp_G} {g : Nat → ClassId} {A : Nat → Prop} {cells slots : Nat} (hx : p.tables.exec = Jvm.exec) (hb : c.code = b_M_findLeast) (hml : c.maxLocals = 8) (hg : ∀ w ∈ gw, w.before args s = true) (hown : s.vm.findClass R_M = some m.cls) (hK : mp_K D classes (tys g) s) (hRf : 0 ≤ R.frames) (hRl : 0 ≤ R.locals) (hRc : cells ≤ R.cells) (hRs : slots ≤ R.slots) {B : mp_M} {o le ta ve ot ro pv9 dg lt9 s9 l9 : Nat} {mv0 mv1 mv2 mv3 mv4 mv5 mv6 mv7 mv8 mv9 mv10 mv11 mv12 mv13 mv19 mv20 mv21 mv22 mv23 mv24 mv29 mv30 : Value} {LF : Nat → Nat} {TB : Nat → fF} {RW vv ww LE9 : Nat → fF} {Pq : Nat → Int32} {DG : Nat → Nat} {a9 n9 : Nat} (hs : s9 ≤ 16) (hl9 : l9 < 3) (ha9 : a9 ≤ 528) (hn9 : n9 ≤ 16) : ∀ (k : Nat) (PV : Nat → Int32) (S : mp_M) (H : Heap) (locs : List Loc) (ls : Array Slot), k ≤ s9 → (pvI s9 n9 k (fun q => RW (a9 + q)) Pq PV) → S o = some (2000, .inr (10, [mv0, mv1, mv2, mv3, mv4, mv5, mv6, mv7, mv8, mv9, mv10, mv11, mv12, mv13, .int (nI s9), .ref le, .ref ta, .ref dg, .ref lt9, mv19, mv20, mv21, mv22, mv23, mv24, .ref ve, .ref ot, .ref ro, .ref pv9, mv29, mv30])) → S le = some (2008, .inl ((g 0), 17, .inl (fun j => nI (LF j)))) → S ta = some (2009, .inl ((g 0), 768, .inl (fun j => nI (TB j).val))) → S ve = some (2017, .inl ((g 0), 16, .inl (fun j => nI (vv j).val))) → S ot = some (2018, .inl ((g 0), 16, .inl (fun j => nI (ww j).val))) → S ro = some (2019, .inl ((g 0), 1700, .inl (fun j => nI (RW j).val))) → S pv9 = some (2020, .inl ((g 0), 64, .inl PV)) → S dg = some (2010, .inl ((g 0), 3, .inl (fun j => nI (DG j)))) → S lt9 = some (2011, .inl ((g 0), 51, .inl (fun j => nI (LE9 j).val))) → (∀ b t e9, B b = some (t, e9) → (t ≠ 2017) → (t ≠ 2018) → (t ≠ 2019) → (t ≠ 2020) → (t ≠ 2010) → (t ≠ 2011) → S b = some (t, e9)) → mp_I D classes A s.heap S H locs → lv_has ls 8 [(6, .int (nI k + -1)), (5, .int (nI a9)), (4, .int (nI n9)), (3, .int (nI 1)), (2, .int (nI (s9 + 17))), (1, .int (nI l9)), (0, .ref o)] → (∀ (PV : Nat → Int32) (S : mp_M) (H : Heap) (locs : List Loc) (ls : Array Slot), (pvI s9 n9 0 (fun q => RW (a9 + q)) Pq PV) → S o = some (2000, .inr (10, [mv0, mv1, mv2, mv3, mv4, mv5, mv6, mv7, mv8, mv9, mv10, mv11, mv12, mv13, .int (nI s9), .ref le, .ref ta, .ref dg, .ref lt9, mv19, mv20, mv21, mv22, mv23, mv24, .ref ve, .ref ot, .ref ro, .ref pv9, mv29, mv30])) → S le = some (2008, .inl ((g 0), 17, .inl (fun j => nI (LF j)))) → S ta = some (2009, .inl ((g 0), 768, .inl (fun j => nI (TB j).val))) → S ve = some (2017, .inl ((g 0), 16, .inl (fun j => nI (vv j).val))) → S ot = some (2018, .inl ((g 0), 16, .inl (fun j => nI (ww j).val))) → S ro = some (2019, .inl ((g 0), 1700, .inl (fun j => nI (RW j).val))) → S pv9 = some (2020, .inl ((g 0), 64, .inl PV)) → S dg = some (2010, .inl ((g 0), 3, .inl (fun j => nI (DG j)))) → S lt9 = some (2011, .inl ((g 0), 51, .inl (fun j => nI (LE9 j).val))) → (∀ b t e9, B b = some (t, e9) → (t ≠ 2017) → (t ≠ 2018) → (t ≠ 2019) → (t ≠ 2020) → (t ≠ 2010) → (t ≠ 2011) → S b = some (t, e9)) → mp_I D classes A s.heap S H locs → lv_has ls 8 [(6, .int (nI 0 + -1)), (5, .int (nI a9)), (4, .int (nI n9)), (3, .int (nI 1)), (2, .int (nI (s9 + 17))), (1, .int (nI l9)), (0, .ref o)] → W p l e R s m args below meth c H locs cells slots Q (F0 m 220 ls [])) → W p l e R s m args below meth c H locs cells slots Q (F0 m 187 ls []) := by
  intro k
  induction k with
  | zero =>
    intro PV S H locs ls hi hpi h_o h_le h_ta h_ve h_ot h_ro h_pv9 h_dg h_lt9 hfr hI hl kx
    refine lv_iload hx hb d_M_findLeast_187 (lv_at hl 0 rfl) ?_
    refine lv_if_lt (tgt := 220) hx hb d_M_findLeast_189 (by decide) (fun _ => ?_) (fun h9 => absurd (by decide) h9)
    exact kx PV S H locs ls hpi h_o h_le h_ta h_ve h_ot h_ro h_pv9 h_dg h_lt9 hfr hI (lv_sub hl [0, 1, 2, 3, 4, 5, 6] rfl)
  | succ k ih =>
    intro PV S H locs ls hi hpi h_o h_le h_ta h_ve h_ot h_ro h_pv9 h_dg h_lt9 hfr hI hl kx
    rw [nI_dec] at hl
    refine lv_iload hx hb d_M_findLeast_187 (lv_at hl 0 rfl) ?_
    refine lv_if_lt (tgt := 220) hx hb d_M_findLeast_189 (by decide) (fun h9 => absurd h9 (nI_pos (by omega))) (fun _ => ?_)
    refine lv_aload_n hx hb d_M_findLeast_192 rfl (lv_at hl 6 rfl) ?_
    refine mp_get (C := R_M) (T := F_M) (N := 31) (v := .ref ro) hx hb hg i_M hown hK.va hI h_o rfl 27 (by decide) (hg _ q_831) (fun _ h9 => h9) rfl d_M_findLeast_193 ?_
    refine lv_iload hx hb d_M_findLeast_196 (lv_at hl 1 rfl) ?_
    refine lv_iload hx hb d_M_findLeast_198 (lv_at hl 0 rfl) ?_
    refine lv_iadd hx hb d_M_findLeast_200 ?_
    refine lv_topi (fun v1 ev1 => ?_)
    obtain rfl : v1 = nI (a9 + k) := ev1.trans (nI_add _ _)
    refine mp_iald hx hb hK.va hI 0 h_ro rfl (vp_in_nI (show a9 + k < 1700 by omega) (by omega)) d_M_findLeast_201 ?_
    refine lv_topi (fun v2 ev2 => ?_)
    obtain rfl : v2 = nI (RW (a9 + k)).val := ev2.trans (by rw [nI_clamp (by omega)])
    refine lv_if_eq (tgt := 214) hx hb d_M_findLeast_202 (by decide) (fun c1 => ?_) (fun c1 => ?_)
    · rw [zI_eq (by omega)] at c1
      refine lv_iinc (v := (nI k + (-1))) (lv' := [(6, .int (nI k + (-1))), (5, .int (nI a9)), (4, .int (nI n9)), (3, .int (nI 1)), (2, .int (nI (s9 + 17))), (1, .int (nI l9)), (0, .ref o)]) hx hb d_M_findLeast_214 hl (k := 0) rfl (rfl) (by decide) rfl (fun ls hl => ?_)
      refine lv_goto (tgt := 187) hx hb d_M_findLeast_217 (by decide) ?_
      exact ih PV S H locs ls (by omega) (pv_z hpi (Fin.ext c1)) h_o h_le h_ta h_ve h_ot h_ro h_pv9 h_dg h_lt9 hfr hI (lv_sub hl [0, 1, 2, 3, 4, 5, 6] rfl) kx
    · rw [zI_eq (by omega)] at c1
      refine lv_aload_n hx hb d_M_findLeast_205 rfl (lv_at hl 6 rfl) ?_
      refine mp_get (C := R_M) (T := F_M) (N := 31) (v := .ref pv9) hx hb hg i_M hown hK.va hI h_o rfl 28 (by decide) (hg _ q_832) (fun _ h9 => h9) rfl d_M_findLeast_206 ?_
      refine lv_iload hx hb d_M_findLeast_209 (lv_at hl 2 rfl) ?_
      refine lv_iload hx hb d_M_findLeast_211 (lv_at hl 0 rfl) ?_
      refine mp_iast hx hb hK.va hI 0 h_pv9 rfl (vp_in_nI (show n9 < 64 by omega) (by omega)) d_M_findLeast_213 (fun S3 H4 locs e_5 hI => ?_)
      have h_pv9_o := h_pv9
      have e_5 : S3 = va_up S pv9 (some (2020, .inl ((g 0), 64, .inl (upd PV (nI n9).toNatClampNeg (nI k))))) := e_5
      have h_o : S3 o = some (2000, .inr (10, [mv0, mv1, mv2, mv3, mv4, mv5, mv6, mv7, mv8, mv9, mv10, mv11, mv12, mv13, .int (nI s9), .ref le, .ref ta, .ref dg, .ref lt9, mv19, mv20, mv21, mv22, mv23, mv24, .ref ve, .ref ot, .ref ro, .ref pv9, mv29, mv30])) := by rw [e_5]; exact mp_keep h_o h_pv9 (by decide)
      have h_le : S3 le = some (2008, .inl ((g 0), 17, .inl (fun j => nI (LF j)))) := by rw [e_5]; exact mp_keep h_le h_pv9 (by decide)
      have h_ta : S3 ta = some (2009, .inl ((g 0), 768, .inl (fun j => nI (TB j).val))) := by rw [e_5]; exact mp_keep h_ta h_pv9 (by decide)
      have h_ve : S3 ve = some (2017, .inl ((g 0), 16, .inl (fun j => nI (vv j).val))) := by rw [e_5]; exact mp_keep h_ve h_pv9 (by decide)
      have h_ot : S3 ot = some (2018, .inl ((g 0), 16, .inl (fun j => nI (ww j).val))) := by rw [e_5]; exact mp_keep h_ot h_pv9 (by decide)
      have h_ro : S3 ro = some (2019, .inl ((g 0), 1700, .inl (fun j => nI (RW j).val))) := by rw [e_5]; exact mp_keep h_ro h_pv9 (by decide)
      have h_dg : S3 dg = some (2010, .inl ((g 0), 3, .inl (fun j => nI (DG j)))) := by rw [e_5]; exact mp_keep h_dg h_pv9 (by decide)
      have h_lt9 : S3 lt9 = some (2011, .inl ((g 0), 51, .inl (fun j => nI (LE9 j).val))) := by rw [e_5]; exact mp_keep h_lt9 h_pv9 (by decide)
      have h_pv9 : S3 pv9 = some (2020, .inl ((g 0), 64, .inl (upd PV (nI n9).toNatClampNeg (nI k)))) := by rw [e_5]; exact mp_us _ _ _
      have hfr : ∀ b t e9, B b = some (t, e9) → (t ≠ 2017) → (t ≠ 2018) → (t ≠ 2019) → (t ≠ 2020) → (t ≠ 2010) → (t ≠ 2011) → S3 b = some (t, e9) := fun b t e9 h9 k0 k1 k2 k3 k4 k5 => by rw [e_5]; exact mp_keep (hfr b t e9 h9 k0 k1 k2 k3 k4 k5) h_pv9_o (by omega)
      rw [nI_clamp (by omega)] at h_pv9
      refine lv_iinc (v := (nI k + (-1))) (lv' := [(6, .int (nI k + (-1))), (5, .int (nI a9)), (4, .int (nI n9)), (3, .int (nI 1)), (2, .int (nI (s9 + 17))), (1, .int (nI l9)), (0, .ref o)]) hx hb d_M_findLeast_214 hl (k := 0) rfl (rfl) (by decide) rfl (fun ls hl => ?_)
      refine lv_goto (tgt := 187) hx hb d_M_findLeast_217 (by decide) ?_
      exact ih (upd PV n9 (nI k)) S3 H4 locs ls (by omega) (pv_y hpi (by omega) (fun q9 => c1 (by rw [q9]; rfl))) h_o h_le h_ta h_ve h_ot h_ro h_pv9 h_dg h_lt9 hfr hI (lv_sub hl [0, 1, 2, 3, 4, 5, 6] rfl) kx
set_option maxHeartbeats 4000000 in
set_option maxRecDepth 100000 in
theorem lp_M_fl5 {p : Program} {l : Launch} {e : Env} {R : Room} {s : State} {m : MethodId} {args : Array Value} {below : List Frame} {meth : Method} {c : Code} {Q : State → Prop} {D : mp_G} {g : Nat → ClassId} {A : Nat → Prop} {cells slots : Nat} (hx : p.tables.exec = Jvm.exec) (hb : c.code = b_M_findLeast) (hml : c.maxLocals = 8) (hg : ∀ w ∈ gw, w.before args s = true) (hown : s.vm.findClass R_M = some m.cls) (hK : mp_K D classes (tys g) s) (hRf : 1 ≤ R.frames) (hRl : 21 ≤ R.locals) (hRc : cells ≤ R.cells) (hRs : slots ≤ R.slots) {B : mp_M} {o le ta ve ot ro pv9 dg lt9 s9 l9 : Nat} {mv0 mv1 mv2 mv3 mv4 mv5 mv6 mv7 mv8 mv9 mv10 mv11 mv12 mv13 mv19 mv20 mv21 mv22 mv23 mv24 mv29 mv30 : Value} {LF : Nat → Nat} {TB : Nat → fF} {RW vv ww LE9 : Nat → fF} {PV : Nat → Int32} {DG : Nat → Nat} {a9 n9 : Nat} {y9 : fF} (hs : s9 ≤ 16) (hl9 : l9 < 3) (ha9 : a9 ≤ 528) (hn9 : n9 ≤ 16) : ∀ (k : Nat) (i : Nat) (S : mp_M) (H : Heap) (locs : List Loc) (ls : Array Slot), i + k = n9 + 1 → S o = some (2000, .inr (10, [mv0, mv1, mv2, mv3, mv4, mv5, mv6, mv7, mv8, mv9, mv10, mv11, mv12, mv13, .int (nI s9), .ref le, .ref ta, .ref dg, .ref lt9, mv19, mv20, mv21, mv22, mv23, mv24, .ref ve, .ref ot, .ref ro, .ref pv9, mv29, mv30])) → S le = some (2008, .inl ((g 0), 17, .inl (fun j => nI (LF j)))) → S ta = some (2009, .inl ((g 0), 768, .inl (fun j => nI (TB j).val))) → S ve = some (2017, .inl ((g 0), 16, .inl (fun j => nI (vv j).val))) → S ot = some (2018, .inl ((g 0), 16, .inl (fun j => nI (ww j).val))) → S ro = some (2019, .inl ((g 0), 1700, .inl (fun j => nI (RW j).val))) → S pv9 = some (2020, .inl ((g 0), 64, .inl PV)) → S dg = some (2010, .inl ((g 0), 3, .inl (fun j => nI (DG j)))) → S lt9 = some (2011, .inl ((g 0), 51, .inl (fun j => nI ((layI (17 * l9) i (fun k => RW (a9 + s9 + k) * y9) LE9) j).val))) → (∀ b t e9, B b = some (t, e9) → (t ≠ 2017) → (t ≠ 2018) → (t ≠ 2019) → (t ≠ 2020) → (t ≠ 2010) → (t ≠ 2011) → S b = some (t, e9)) → mp_I D classes A s.heap S H locs → lv_has ls 8 [(7, .int (nI i)), (6, .int (nI (y9).val)), (5, .int (nI a9)), (4, .int (nI n9)), (3, .int (nI 0)), (2, .int (nI (s9 + 17))), (1, .int (nI l9)), (0, .ref o)] → (∀ (S : mp_M) (H : Heap) (locs : List Loc) (ls : Array Slot), S o = some (2000, .inr (10, [mv0, mv1, mv2, mv3, mv4, mv5, mv6, mv7, mv8, mv9, mv10, mv11, mv12, mv13, .int (nI s9), .ref le, .ref ta, .ref dg, .ref lt9, mv19, mv20, mv21, mv22, mv23, mv24, .ref ve, .ref ot, .ref ro, .ref pv9, mv29, mv30])) → S le = some (2008, .inl ((g 0), 17, .inl (fun j => nI (LF j)))) → S ta = some (2009, .inl ((g 0), 768, .inl (fun j => nI (TB j).val))) → S ve = some (2017, .inl ((g 0), 16, .inl (fun j => nI (vv j).val))) → S ot = some (2018, .inl ((g 0), 16, .inl (fun j => nI (ww j).val))) → S ro = some (2019, .inl ((g 0), 1700, .inl (fun j => nI (RW j).val))) → S pv9 = some (2020, .inl ((g 0), 64, .inl PV)) → S dg = some (2010, .inl ((g 0), 3, .inl (fun j => nI (DG j)))) → S lt9 = some (2011, .inl ((g 0), 51, .inl (fun j => nI ((layI (17 * l9) (n9 + 1) (fun k => RW (a9 + s9 + k) * y9) LE9) j).val))) → (∀ b t e9, B b = some (t, e9) → (t ≠ 2017) → (t ≠ 2018) → (t ≠ 2019) → (t ≠ 2020) → (t ≠ 2010) → (t ≠ 2011) → S b = some (t, e9)) → mp_I D classes A s.heap S H locs → lv_has ls 8 [(7, .int (nI (n9 + 1))), (6, .int (nI (y9).val)), (5, .int (nI a9)), (4, .int (nI n9)), (3, .int (nI 0)), (2, .int (nI (s9 + 17))), (1, .int (nI l9)), (0, .ref o)] → W p l e R s m args below meth c H locs cells slots Q (F0 m 309 ls [])) → W p l e R s m args below meth c H locs cells slots Q (F0 m 264 ls []) := by
  intro k
  induction k with
  | zero =>
    intro i S H locs ls hi h_o h_le h_ta h_ve h_ot h_ro h_pv9 h_dg h_lt9 hfr hI hl kx
    refine lv_iload hx hb d_M_findLeast_264 (lv_at hl 0 rfl) ?_
    refine lv_iload hx hb d_M_findLeast_266 (lv_at hl 3 rfl) ?_
    refine lv_icmp_gt (tgt := 309) hx hb d_M_findLeast_268 (by decide) (fun _ => ?_) (fun h9 => absurd ((nI_ltI (by omega) (by omega)).mpr (by omega)) h9)
    obtain rfl : i = n9 + 1 := by omega
    exact kx S H locs ls h_o h_le h_ta h_ve h_ot h_ro h_pv9 h_dg h_lt9 hfr hI (lv_sub hl [0, 1, 2, 3, 4, 5, 6, 7] rfl)
  | succ k ih =>
    intro i S H locs ls hi h_o h_le h_ta h_ve h_ot h_ro h_pv9 h_dg h_lt9 hfr hI hl kx
    refine lv_iload hx hb d_M_findLeast_264 (lv_at hl 0 rfl) ?_
    refine lv_iload hx hb d_M_findLeast_266 (lv_at hl 3 rfl) ?_
    refine lv_icmp_gt (tgt := 309) hx hb d_M_findLeast_268 (by decide) (fun h9 => absurd h9 (by rw [nI_ltI (by omega) (by omega)]; omega)) (fun _ => ?_)
    refine lv_aload_n hx hb d_M_findLeast_271 rfl (lv_at hl 7 rfl) ?_
    refine mp_get (C := R_M) (T := F_M) (N := 31) (v := .ref lt9) hx hb hg i_M hown hK.va hI h_o rfl 18 (by decide) (hg _ q_822) (fun _ h9 => h9) rfl d_M_findLeast_272 ?_
    refine lv_bipush (v := nI 17) hx hb d_M_findLeast_275 (by decide) ?_
    refine lv_iload_n hx hb d_M_findLeast_277 rfl (lv_at hl 6 rfl) ?_
    refine lv_imul hx hb d_M_findLeast_278 ?_
    refine lv_topi (fun v1 ev1 => ?_)
    obtain rfl : v1 = nI (17 * l9) := ev1.trans (pk_mul _ _)
    refine lv_iload hx hb d_M_findLeast_279 (lv_at hl 0 rfl) ?_
    refine lv_iadd hx hb d_M_findLeast_281 ?_
    refine lv_topi (fun v2 ev2 => ?_)
    obtain rfl : v2 = nI ((17 * l9) + i) := ev2.trans (nI_add _ _)
    refine lv_aload_n hx hb d_M_findLeast_282 rfl (lv_at hl 7 rfl) ?_
    refine mp_get (C := R_M) (T := F_M) (N := 31) (v := .ref ro) hx hb hg i_M hown hK.va hI h_o rfl 27 (by decide) (hg _ q_831) (fun _ h9 => h9) rfl d_M_findLeast_283 ?_
    refine lv_iload hx hb d_M_findLeast_286 (lv_at hl 2 rfl) ?_
    refine lv_aload_n hx hb d_M_findLeast_288 rfl (lv_at hl 7 rfl) ?_
    refine mp_get (C := R_M) (T := F_M) (N := 31) (v := .int (nI s9)) hx hb hg i_M hown hK.va hI h_o rfl 14 (by decide) (hg _ q_818) (fun _ h9 => h9) rfl d_M_findLeast_289 ?_
    refine lv_iadd hx hb d_M_findLeast_292 ?_
    refine lv_topi (fun v3 ev3 => ?_)
    obtain rfl : v3 = nI (a9 + s9) := ev3.trans (nI_add _ _)
    refine lv_iload hx hb d_M_findLeast_293 (lv_at hl 0 rfl) ?_
    refine lv_iadd hx hb d_M_findLeast_295 ?_
    refine lv_topi (fun v4 ev4 => ?_)
    obtain rfl : v4 = nI ((a9 + s9) + i) := ev4.trans (nI_add _ _)
    refine mp_iald hx hb hK.va hI 0 h_ro rfl (vp_in_nI (show (a9 + s9) + i < 1700 by omega) (by omega)) d_M_findLeast_296 ?_
    refine lv_topi (fun v5 ev5 => ?_)
    obtain rfl : v5 = nI (RW ((a9 + s9) + i)).val := ev5.trans (by rw [nI_clamp (by omega)])
    refine lv_iload hx hb d_M_findLeast_297 (lv_at hl 1 rfl) ?_
    refine mp_calli hI (va_runS (As := [.int (nI (RW ((a9 + s9) + i)).val), .int (nI (y9).val)]) (rest := [.int (nI ((17 * l9) + i)), .ref lt9]) ⟨hx, hb, hml, hown, hg⟩ (c_M_times l D g S _ (RW (a9 + s9 + i)).val (y9).val (by omega) (by omega)) ⟨(callB_of 2 hg (wd_goodG q_927) rfl rfl rfl (hg _ q_5) (hg _ q_925) (by decide +kernel) ⟨Nat.le_trans (Nat.le_of_ble_eq_true rfl) hRf, Nat.le_trans (Nat.le_of_ble_eq_true rfl) hRl⟩), hg _ q_926⟩ (mp_pre hI hK [.int (nI (RW ((a9 + s9) + i)).val), .int (nI (y9).val)]) rfl rfl hl.1 rfl (lv_room (Nat.le_of_ble_eq_true rfl)) d_M_findLeast_299 ⟨by omega, by omega⟩) (fun r9 S6 H7 locs p_8 hI => ?_)
    obtain ⟨er9, eS10⟩ := p_8
    rw [eS10] at hI
    have er9 : r9 = nI ((RW (a9 + s9 + i)).val * (y9).val % 32003) := er9
    subst er9
    refine lv_topi (fun v11 ev11 => ?_)
    obtain rfl : v11 = nI ((RW (a9 + s9 + i)) * y9).val := ev11.trans (congrArg nI (fv_mul _ _))
    refine mp_iast hx hb hK.va hI 0 h_lt9 rfl (vp_in_nI (show (17 * l9) + i < 51 by omega) (by omega)) d_M_findLeast_302 (fun S12 H13 locs e_14 hI => ?_)
    have h_lt9_o := h_lt9
    have e_14 : S12 = va_up S lt9 (some (2011, .inl ((g 0), 51, .inl (upd (fun j => nI ((layI (17 * l9) i (fun k => RW (a9 + s9 + k) * y9) LE9) j).val) (nI ((17 * l9) + i)).toNatClampNeg (nI ((RW (a9 + s9 + i)) * y9).val))))) := e_14
    have h_o : S12 o = some (2000, .inr (10, [mv0, mv1, mv2, mv3, mv4, mv5, mv6, mv7, mv8, mv9, mv10, mv11, mv12, mv13, .int (nI s9), .ref le, .ref ta, .ref dg, .ref lt9, mv19, mv20, mv21, mv22, mv23, mv24, .ref ve, .ref ot, .ref ro, .ref pv9, mv29, mv30])) := by rw [e_14]; exact mp_keep h_o h_lt9 (by decide)
    have h_le : S12 le = some (2008, .inl ((g 0), 17, .inl (fun j => nI (LF j)))) := by rw [e_14]; exact mp_keep h_le h_lt9 (by decide)
    have h_ta : S12 ta = some (2009, .inl ((g 0), 768, .inl (fun j => nI (TB j).val))) := by rw [e_14]; exact mp_keep h_ta h_lt9 (by decide)
    have h_ve : S12 ve = some (2017, .inl ((g 0), 16, .inl (fun j => nI (vv j).val))) := by rw [e_14]; exact mp_keep h_ve h_lt9 (by decide)
    have h_ot : S12 ot = some (2018, .inl ((g 0), 16, .inl (fun j => nI (ww j).val))) := by rw [e_14]; exact mp_keep h_ot h_lt9 (by decide)
    have h_ro : S12 ro = some (2019, .inl ((g 0), 1700, .inl (fun j => nI (RW j).val))) := by rw [e_14]; exact mp_keep h_ro h_lt9 (by decide)
    have h_pv9 : S12 pv9 = some (2020, .inl ((g 0), 64, .inl PV)) := by rw [e_14]; exact mp_keep h_pv9 h_lt9 (by decide)
    have h_dg : S12 dg = some (2010, .inl ((g 0), 3, .inl (fun j => nI (DG j)))) := by rw [e_14]; exact mp_keep h_dg h_lt9 (by decide)
    have h_lt9 : S12 lt9 = some (2011, .inl ((g 0), 51, .inl (upd (fun j => nI ((layI (17 * l9) i (fun k => RW (a9 + s9 + k) * y9) LE9) j).val) (nI ((17 * l9) + i)).toNatClampNeg (nI ((RW (a9 + s9 + i)) * y9).val)))) := by rw [e_14]; exact mp_us _ _ _
    have hfr : ∀ b t e9, B b = some (t, e9) → (t ≠ 2017) → (t ≠ 2018) → (t ≠ 2019) → (t ≠ 2020) → (t ≠ 2010) → (t ≠ 2011) → S12 b = some (t, e9) := fun b t e9 h9 k0 k1 k2 k3 k4 k5 => by rw [e_14]; exact mp_keep (hfr b t e9 h9 k0 k1 k2 k3 k4 k5) h_lt9_o (by omega)
    rw [nI_clamp (by omega), nIv_up] at h_lt9
    have e9h_lt9 : (fun j => nI (va_up (layI (17 * l9) i (fun k => RW (a9 + s9 + k) * y9) LE9) ((17 * l9) + i) ((RW (a9 + s9 + i)) * y9) j).val) = (fun j => nI ((layI (17 * l9) (i + 1) (fun k => RW (a9 + s9 + k) * y9) LE9) j).val) := by rw [← layI_up]
    rw [e9h_lt9] at h_lt9
    refine lv_iinc (v := nI (i + 1)) (lv' := [(7, .int (nI (i + 1))), (6, .int (nI (y9).val)), (5, .int (nI a9)), (4, .int (nI n9)), (3, .int (nI 0)), (2, .int (nI (s9 + 17))), (1, .int (nI l9)), (0, .ref o)]) hx hb d_M_findLeast_303 hl (k := 0) rfl (nI_1 _) (by decide) rfl (fun ls hl => ?_)
    refine lv_goto (tgt := 264) hx hb d_M_findLeast_306 (by decide) ?_
    exact ih (i + 1) S12 H13 locs ls (by omega) h_o h_le h_ta h_ve h_ot h_ro h_pv9 h_dg h_lt9 hfr hI (lv_sub hl [0, 1, 2, 3, 4, 5, 6, 7] rfl) kx
set_option maxHeartbeats 4000000 in
set_option maxRecDepth 100000 in
theorem lp_M_fl6 {p : Program} {l : Launch} {e : Env} {R : Room} {s : State} {m : MethodId} {args : Array Value} {below : List Frame} {meth : Method} {c : Code} {Q : State → Prop} {D : mp_G} {g : Nat → ClassId} {A : Nat → Prop} {cells slots : Nat} (hx : p.tables.exec = Jvm.exec) (hb : c.code = b_M_findLeast) (hml : c.maxLocals = 8) (hg : ∀ w ∈ gw, w.before args s = true) (hown : s.vm.findClass R_M = some m.cls) (hK : mp_K D classes (tys g) s) (hRf : 3 ≤ R.frames) (hRl : 71 ≤ R.locals) (hRc : cells ≤ R.cells) (hRs : slots ≤ R.slots) {B : mp_M} {o le ta ve ot ro pv9 dg lt9 s9 l9 : Nat} {mv0 mv1 mv2 mv3 mv4 mv5 mv6 mv7 mv8 mv9 mv10 mv11 mv12 mv13 mv19 mv20 mv21 mv22 mv23 mv24 mv29 mv30 : Value} {LF : Nat → Nat} {TB : Nat → fF} {LE9 : Nat → fF} {DG : Nat → Nat} {D9 : Nat} (hs : s9 ≤ 16) (hl9 : l9 < 3) (hD : dgP s9 (vqM TB l9 s9) D9) : ∀ (k : Nat) (i : Nat) (RW : Nat → fF) (PV : Nat → Int32) (vv : Nat → fF) (ww : Nat → fF) (S : mp_M) (H : Heap) (locs : List Loc) (ls : Array Slot), i + k = D9 → (i ≤ D9) → (∀ r, r < i → ∀ q, q < s9 + 17 → RW ((s9 + 17) * r + q) = rwN s9 (vqM TB l9 s9) r (pC s9 q)) → (∀ r, r < i → PV r = nI (lsp s9 (vqM TB l9 s9) r)) → (∀ k, k < s9 → vv k = (vqM TB l9 s9) i k) → S o = some (2000, .inr (10, [mv0, mv1, mv2, mv3, mv4, mv5, mv6, mv7, mv8, mv9, mv10, mv11, mv12, mv13, .int (nI s9), .ref le, .ref ta, .ref dg, .ref lt9, mv19, mv20, mv21, mv22, mv23, mv24, .ref ve, .ref ot, .ref ro, .ref pv9, mv29, mv30])) → S le = some (2008, .inl ((g 0), 17, .inl (fun j => nI (LF j)))) → S ta = some (2009, .inl ((g 0), 768, .inl (fun j => nI (TB j).val))) → S ve = some (2017, .inl ((g 0), 16, .inl (fun j => nI (vv j).val))) → S ot = some (2018, .inl ((g 0), 16, .inl (fun j => nI (ww j).val))) → S ro = some (2019, .inl ((g 0), 1700, .inl (fun j => nI (RW j).val))) → S pv9 = some (2020, .inl ((g 0), 64, .inl PV)) → S dg = some (2010, .inl ((g 0), 3, .inl (fun j => nI (DG j)))) → S lt9 = some (2011, .inl ((g 0), 51, .inl (fun j => nI (LE9 j).val))) → (∀ b t e9, B b = some (t, e9) → (t ≠ 2017) → (t ≠ 2018) → (t ≠ 2019) → (t ≠ 2020) → (t ≠ 2010) → (t ≠ 2011) → S b = some (t, e9)) → mp_I D classes A s.heap S H locs → lv_has ls 8 [(4, .int (nI i)), (3, .int (nI 1)), (2, .int (nI (s9 + 17))), (1, .int (nI l9)), (0, .ref o)] → (∀ (RW : Nat → fF) (PV : Nat → Int32) (vv : Nat → fF) (ww : Nat → fF) (S : mp_M) (H : Heap) (locs : List Loc) (ls : Array Slot), ((D9 + 1) ≤ D9) → (∀ r, r < (D9 + 1) → ∀ q, q < s9 + 17 → RW ((s9 + 17) * r + q) = rwN s9 (vqM TB l9 s9) r (pC s9 q)) → (∀ r, r < (D9 + 1) → PV r = nI (lsp s9 (vqM TB l9 s9) r)) → (∀ k, k < s9 → vv k = (vqM TB l9 s9) (D9 + 1) k) → S o = some (2000, .inr (10, [mv0, mv1, mv2, mv3, mv4, mv5, mv6, mv7, mv8, mv9, mv10, mv11, mv12, mv13, .int (nI s9), .ref le, .ref ta, .ref dg, .ref lt9, mv19, mv20, mv21, mv22, mv23, mv24, .ref ve, .ref ot, .ref ro, .ref pv9, mv29, mv30])) → S le = some (2008, .inl ((g 0), 17, .inl (fun j => nI (LF j)))) → S ta = some (2009, .inl ((g 0), 768, .inl (fun j => nI (TB j).val))) → S ve = some (2017, .inl ((g 0), 16, .inl (fun j => nI (vv j).val))) → S ot = some (2018, .inl ((g 0), 16, .inl (fun j => nI (ww j).val))) → S ro = some (2019, .inl ((g 0), 1700, .inl (fun j => nI (RW j).val))) → S pv9 = some (2020, .inl ((g 0), 64, .inl PV)) → S dg = some (2010, .inl ((g 0), 3, .inl (fun j => nI (DG j)))) → S lt9 = some (2011, .inl ((g 0), 51, .inl (fun j => nI (LE9 j).val))) → (∀ b t e9, B b = some (t, e9) → (t ≠ 2017) → (t ≠ 2018) → (t ≠ 2019) → (t ≠ 2020) → (t ≠ 2010) → (t ≠ 2011) → S b = some (t, e9)) → mp_I D classes A s.heap S H locs → lv_has ls 8 [(4, .int (nI (D9 + 1))), (3, .int (nI 1)), (2, .int (nI (s9 + 17))), (1, .int (nI l9)), (0, .ref o)] → W p l e R s m args below meth c H locs cells slots Q (F0 m 323 ls [])) → (∀ (RW : Nat → fF) (PV : Nat → Int32) (vv : Nat → fF) (ww : Nat → fF) (LE1 : Nat → fF) (S : mp_M) (H : Heap) (locs : List Loc) (ls : Array Slot), (∀ k9, k9 < D9 + 1 → LE1 (17 * l9 + k9) = rwN s9 (vqM TB l9 s9) D9 (16 + k9)) → (∀ j, (j < 17 * l9 ∨ 17 * l9 + 17 ≤ j) → LE1 j = LE9 j) → S o = some (2000, .inr (10, [mv0, mv1, mv2, mv3, mv4, mv5, mv6, mv7, mv8, mv9, mv10, mv11, mv12, mv13, .int (nI s9), .ref le, .ref ta, .ref dg, .ref lt9, mv19, mv20, mv21, mv22, mv23, mv24, .ref ve, .ref ot, .ref ro, .ref pv9, mv29, mv30])) → S le = some (2008, .inl ((g 0), 17, .inl (fun j => nI (LF j)))) → S ta = some (2009, .inl ((g 0), 768, .inl (fun j => nI (TB j).val))) → S ve = some (2017, .inl ((g 0), 16, .inl (fun j => nI (vv j).val))) → S ot = some (2018, .inl ((g 0), 16, .inl (fun j => nI (ww j).val))) → S ro = some (2019, .inl ((g 0), 1700, .inl (fun j => nI (RW j).val))) → S pv9 = some (2020, .inl ((g 0), 64, .inl PV)) → S dg = some (2010, .inl ((g 0), 3, .inl (fun j => nI ((va_up DG l9 D9) j)))) → S lt9 = some (2011, .inl ((g 0), 51, .inl (fun j => nI (LE1 j).val))) → (∀ b t e9, B b = some (t, e9) → (t ≠ 2017) → (t ≠ 2018) → (t ≠ 2019) → (t ≠ 2020) → (t ≠ 2010) → (t ≠ 2011) → S b = some (t, e9)) → mp_I D classes A s.heap S H locs → lv_has ls 8 [(0, .ref o)] → W p l e R s m args below meth c H locs cells slots Q (F0 m 323 ls [])) → W p l e R s m args below meth c H locs cells slots Q (F0 m 49 ls []) := by
  intro k
  induction k with
  | zero =>
    intro i RW PV vv ww S H locs ls hi hiD hrw hpv hvv h_o h_le h_ta h_ve h_ot h_ro h_pv9 h_dg h_lt9 hfr hI hl kx ky
    obtain rfl : i = D9 := by omega
    obtain ⟨hD1, hD2, hD3⟩ := hD
    have ha8 := mul_b hs (show i ≤ 16 by omega)
    obtain ⟨a9, ea9⟩ : ∃ a, a = (s9 + 17) * i := ⟨_, rfl⟩
    rw [← ea9] at ha8
    have hlo : ∀ r, r < i → lsp s9 (vqM TB l9 s9) r < s9 := fun r hr => hD3 r (by omega)
    refine lv_iload_n hx hb d_M_findLeast_49 rfl (lv_at hl 1 rfl) ?_
    refine lv_if_eq (tgt := 323) hx hb d_M_findLeast_50 (by decide) (fun h9 => absurd h9 (by decide)) (fun _ => ?_)
    refine lv_iload_n hx hb d_M_findLeast_53 rfl (lv_at hl 2 rfl) ?_
    refine lv_iload hx hb d_M_findLeast_54 (lv_at hl 0 rfl) ?_
    refine lv_imul hx hb d_M_findLeast_56 ?_
    refine lv_topi (fun v1 ev1 => ?_)
    obtain rfl : v1 = nI ((s9 + 17) * i) := ev1.trans (pk_mul _ _)
    refine lv_topi (fun v2 ev2 => ?_)
    obtain rfl : v2 = nI a9 := ev2.trans (by rw [ea9])
    refine lv_istore (lv' := [(5, .int (nI a9)), (4, .int (nI i)), (3, .int (nI 1)), (2, .int (nI (s9 + 17))), (1, .int (nI l9)), (0, .ref o)]) hx hb d_M_findLeast_57 hl (by decide) rfl (fun ls hl => ?_)
    refine lv_iconst (v := nI 0) hx hb d_M_findLeast_59 (by decide) ?_
    refine lv_istore (lv' := [(6, .int (nI 0)), (5, .int (nI a9)), (4, .int (nI i)), (3, .int (nI 1)), (2, .int (nI (s9 + 17))), (1, .int (nI l9)), (0, .ref o)]) hx hb d_M_findLeast_60 hl (by decide) rfl (fun ls hl => ?_)
    rw [← layI_0 a9 vv RW] at h_ro
    refine lp_M_fl1 (B := B) (o := o) (le := le) (ta := ta) (ve := ve) (ot := ot) (ro := ro) (pv9 := pv9) (dg := dg) (lt9 := lt9) (s9 := s9) (l9 := l9) (mv0 := mv0) (mv1 := mv1) (mv2 := mv2) (mv3 := mv3) (mv4 := mv4) (mv5 := mv5) (mv6 := mv6) (mv7 := mv7) (mv8 := mv8) (mv9 := mv9) (mv10 := mv10) (mv11 := mv11) (mv12 := mv12) (mv13 := mv13) (mv19 := mv19) (mv20 := mv20) (mv21 := mv21) (mv22 := mv22) (mv23 := mv23) (mv24 := mv24) (mv29 := mv29) (mv30 := mv30) (LF := LF) (TB := TB) (RW := RW) (vv := vv) (ww := ww) (LE9 := LE9) (PV := PV) (DG := DG) (a9 := a9) (n9 := i) hx hb hml hg hown hK (Nat.le_trans (Nat.le_of_ble_eq_true rfl) hRf) (Nat.le_trans (Nat.le_of_ble_eq_true rfl) hRl) (by omega) (by omega) hs hl9 ha8 (by omega) s9 0 S H _ ls (by omega) h_o h_le h_ta h_ve h_ot h_ro h_pv9 h_dg h_lt9 hfr hI (lv_sub hl [0, 1, 2, 3, 4, 5, 6] rfl) (fun S3 H4 locs ls h_o h_le h_ta h_ve h_ot h_ro h_pv9 h_dg h_lt9 hfr hI hl => ?_)
    refine lv_iconst (v := nI 0) hx hb d_M_findLeast_94 (by decide) ?_
    refine lv_istore (lv' := [(6, .int (nI 0)), (5, .int (nI a9)), (4, .int (nI i)), (3, .int (nI 1)), (2, .int (nI (s9 + 17))), (1, .int (nI l9)), (0, .ref o)]) hx hb d_M_findLeast_95 hl (by decide) rfl (fun ls hl => ?_)
    rw [← layI_0 (a9 + s9) (dl9 i) (layI a9 s9 vv RW)] at h_ro
    refine lp_M_fl2 (B := B) (o := o) (le := le) (ta := ta) (ve := ve) (ot := ot) (ro := ro) (pv9 := pv9) (dg := dg) (lt9 := lt9) (s9 := s9) (l9 := l9) (mv0 := mv0) (mv1 := mv1) (mv2 := mv2) (mv3 := mv3) (mv4 := mv4) (mv5 := mv5) (mv6 := mv6) (mv7 := mv7) (mv8 := mv8) (mv9 := mv9) (mv10 := mv10) (mv11 := mv11) (mv12 := mv12) (mv13 := mv13) (mv19 := mv19) (mv20 := mv20) (mv21 := mv21) (mv22 := mv22) (mv23 := mv23) (mv24 := mv24) (mv29 := mv29) (mv30 := mv30) (LF := LF) (TB := TB) (RW := (layI a9 s9 vv RW)) (vv := vv) (ww := ww) (LE9 := LE9) (PV := PV) (DG := DG) (a9 := a9) (n9 := i) hx hb hml hg hown hK (Nat.le_trans (Nat.le_of_ble_eq_true rfl) hRf) (Nat.le_trans (Nat.le_of_ble_eq_true rfl) hRl) (by omega) (by omega) hs hl9 ha8 (by omega) 17 0 S3 H4 _ ls (by omega) h_o h_le h_ta h_ve h_ot h_ro h_pv9 h_dg h_lt9 hfr hI (lv_sub hl [0, 1, 2, 3, 4, 5, 6] rfl) (fun S5 H6 locs ls h_o h_le h_ta h_ve h_ot h_ro h_pv9 h_dg h_lt9 hfr hI hl => ?_)
    refine lv_iconst (v := nI 0) hx hb d_M_findLeast_137 (by decide) ?_
    refine lv_istore (lv' := [(6, .int (nI 0)), (5, .int (nI a9)), (4, .int (nI i)), (3, .int (nI 1)), (2, .int (nI (s9 + 17))), (1, .int (nI l9)), (0, .ref o)]) hx hb d_M_findLeast_138 hl (by decide) rfl (fun ls hl => ?_)
    refine lp_M_fl3 (B := B) (o := o) (le := le) (ta := ta) (ve := ve) (ot := ot) (ro := ro) (pv9 := pv9) (dg := dg) (lt9 := lt9) (s9 := s9) (l9 := l9) (mv0 := mv0) (mv1 := mv1) (mv2 := mv2) (mv3 := mv3) (mv4 := mv4) (mv5 := mv5) (mv6 := mv6) (mv7 := mv7) (mv8 := mv8) (mv9 := mv9) (mv10 := mv10) (mv11 := mv11) (mv12 := mv12) (mv13 := mv13) (mv19 := mv19) (mv20 := mv20) (mv21 := mv21) (mv22 := mv22) (mv23 := mv23) (mv24 := mv24) (mv29 := mv29) (mv30 := mv30) (LF := LF) (TB := TB) (RW := RW) (vv := vv) (ww := ww) (LE9 := LE9) (PV := PV) (DG := DG) (a9 := a9) (n9 := i) hx hb hml hg hown hK (Nat.le_trans (Nat.le_of_ble_eq_true rfl) hRf) (Nat.le_trans (Nat.le_of_ble_eq_true rfl) hRl) (by omega) (by omega) hs hl9 ha8 (by omega) ea9 hrw hpv hlo i 0 (layI (a9 + s9) 17 (dl9 i) (layI a9 s9 vv RW)) S5 H6 _ ls (by omega) (rtI_0 hs hvv) h_o h_le h_ta h_ve h_ot h_ro h_pv9 h_dg h_lt9 hfr hI (lv_sub hl [0, 1, 2, 3, 4, 5, 6] rfl) (fun RV S7 H8 locs ls hrt h_o h_le h_ta h_ve h_ot h_ro h_pv9 h_dg h_lt9 hfr hI hl => ?_)
    have hrow : ∀ q, q < s9 + 17 → RV (a9 + q) = rwN s9 (vqM TB l9 s9) i (pC s9 q) := fun q hq => by rw [hrt.1 q hq, ← rw_eq]
    have hfz : fnz (fun q => RV (a9 + q)) s9 = fnz (rwN s9 (vqM TB l9 s9) i) s9 := fnz_cg s9 (fun q hq => by rw [hrow q (by omega), pC_lt hq])
    refine lv_aload_n hx hb d_M_findLeast_171 rfl (lv_at hl 6 rfl) ?_
    refine mp_get (C := R_M) (T := F_M) (N := 31) (v := .ref pv9) hx hb hg i_M hown hK.va hI h_o rfl 28 (by decide) (hg _ q_832) (fun _ h9 => h9) rfl d_M_findLeast_172 ?_
    refine lv_iload hx hb d_M_findLeast_175 (lv_at hl 2 rfl) ?_
    refine lv_iconst (v := (-1)) hx hb d_M_findLeast_177 (by decide) ?_
    refine mp_iast hx hb hK.va hI 0 h_pv9 rfl (vp_in_nI (show i < 64 by omega) (by omega)) d_M_findLeast_178 (fun S9 H10 locs e_11 hI => ?_)
    have h_pv9_o := h_pv9
    have e_11 : S9 = va_up S7 pv9 (some (2020, .inl ((g 0), 64, .inl (upd PV (nI i).toNatClampNeg (-1))))) := e_11
    have h_o : S9 o = some (2000, .inr (10, [mv0, mv1, mv2, mv3, mv4, mv5, mv6, mv7, mv8, mv9, mv10, mv11, mv12, mv13, .int (nI s9), .ref le, .ref ta, .ref dg, .ref lt9, mv19, mv20, mv21, mv22, mv23, mv24, .ref ve, .ref ot, .ref ro, .ref pv9, mv29, mv30])) := by rw [e_11]; exact mp_keep h_o h_pv9 (by decide)
    have h_le : S9 le = some (2008, .inl ((g 0), 17, .inl (fun j => nI (LF j)))) := by rw [e_11]; exact mp_keep h_le h_pv9 (by decide)
    have h_ta : S9 ta = some (2009, .inl ((g 0), 768, .inl (fun j => nI (TB j).val))) := by rw [e_11]; exact mp_keep h_ta h_pv9 (by decide)
    have h_ve : S9 ve = some (2017, .inl ((g 0), 16, .inl (fun j => nI (vv j).val))) := by rw [e_11]; exact mp_keep h_ve h_pv9 (by decide)
    have h_ot : S9 ot = some (2018, .inl ((g 0), 16, .inl (fun j => nI (ww j).val))) := by rw [e_11]; exact mp_keep h_ot h_pv9 (by decide)
    have h_ro : S9 ro = some (2019, .inl ((g 0), 1700, .inl (fun j => nI (RV j).val))) := by rw [e_11]; exact mp_keep h_ro h_pv9 (by decide)
    have h_dg : S9 dg = some (2010, .inl ((g 0), 3, .inl (fun j => nI (DG j)))) := by rw [e_11]; exact mp_keep h_dg h_pv9 (by decide)
    have h_lt9 : S9 lt9 = some (2011, .inl ((g 0), 51, .inl (fun j => nI (LE9 j).val))) := by rw [e_11]; exact mp_keep h_lt9 h_pv9 (by decide)
    have h_pv9 : S9 pv9 = some (2020, .inl ((g 0), 64, .inl (upd PV (nI i).toNatClampNeg (-1)))) := by rw [e_11]; exact mp_us _ _ _
    have hfr : ∀ b t e9, B b = some (t, e9) → (t ≠ 2017) → (t ≠ 2018) → (t ≠ 2019) → (t ≠ 2020) → (t ≠ 2010) → (t ≠ 2011) → S9 b = some (t, e9) := fun b t e9 h9 k0 k1 k2 k3 k4 k5 => by rw [e_11]; exact mp_keep (hfr b t e9 h9 k0 k1 k2 k3 k4 k5) h_pv9_o (by omega)
    rw [nI_clamp (by omega)] at h_pv9
    refine lv_aload_n hx hb d_M_findLeast_179 rfl (lv_at hl 6 rfl) ?_
    refine mp_get (C := R_M) (T := F_M) (N := 31) (v := .int (nI s9)) hx hb hg i_M hown hK.va hI h_o rfl 14 (by decide) (hg _ q_818) (fun _ h9 => h9) rfl d_M_findLeast_180 ?_
    refine lv_iconst (v := nI 1) hx hb d_M_findLeast_183 (by decide) ?_
    refine lv_isub hx hb d_M_findLeast_184 ?_
    refine lv_topi (fun v12 ev12 => ?_)
    obtain rfl : v12 = (nI s9 + -1) := ev12.trans (nI_sub1 s9)
    refine lv_istore (lv' := [(6, .int (nI s9 + -1)), (5, .int (nI a9)), (4, .int (nI i)), (3, .int (nI 1)), (2, .int (nI (s9 + 17))), (1, .int (nI l9)), (0, .ref o)]) hx hb d_M_findLeast_185 hl (by decide) rfl (fun ls hl => ?_)
    refine lp_M_fl4 (B := B) (o := o) (le := le) (ta := ta) (ve := ve) (ot := ot) (ro := ro) (pv9 := pv9) (dg := dg) (lt9 := lt9) (s9 := s9) (l9 := l9) (mv0 := mv0) (mv1 := mv1) (mv2 := mv2) (mv3 := mv3) (mv4 := mv4) (mv5 := mv5) (mv6 := mv6) (mv7 := mv7) (mv8 := mv8) (mv9 := mv9) (mv10 := mv10) (mv11 := mv11) (mv12 := mv12) (mv13 := mv13) (mv19 := mv19) (mv20 := mv20) (mv21 := mv21) (mv22 := mv22) (mv23 := mv23) (mv24 := mv24) (mv29 := mv29) (mv30 := mv30) (LF := LF) (TB := TB) (RW := RV) (vv := vv) (ww := ww) (LE9 := LE9) (Pq := PV) (DG := DG) (a9 := a9) (n9 := i) hx hb hml hg hown hK (Nat.le_trans (Nat.le_of_ble_eq_true rfl) hRf) (Nat.le_trans (Nat.le_of_ble_eq_true rfl) hRl) (by omega) (by omega) hs hl9 ha8 (by omega) s9 (upd PV i (-1)) S9 H10 _ ls (Nat.le_refl _) pv_0 h_o h_le h_ta h_ve h_ot h_ro h_pv9 h_dg h_lt9 hfr hI (lv_sub hl [0, 1, 2, 3, 4, 5, 6] rfl) (fun PV1 S13 H14 locs ls hpi h_o h_le h_ta h_ve h_ot h_ro h_pv9 h_dg h_lt9 hfr hI hl => ?_)
    refine lv_aload_n hx hb d_M_findLeast_220 rfl (lv_at hl 6 rfl) ?_
    refine mp_get (C := R_M) (T := F_M) (N := 31) (v := .ref pv9) hx hb hg i_M hown hK.va hI h_o rfl 28 (by decide) (hg _ q_832) (fun _ h9 => h9) rfl d_M_findLeast_221 ?_
    refine lv_iload hx hb d_M_findLeast_224 (lv_at hl 2 rfl) ?_
    refine mp_iald hx hb hK.va hI 0 h_pv9 rfl (vp_in_nI (show i < 64 by omega) (by omega)) d_M_findLeast_226 ?_
    refine lv_topi (fun v15 ev15 => ?_)
    obtain rfl : v15 = (-1) := ev15.trans (by rw [nI_clamp (by omega)]; exact pv_no hpi (hfz.trans hD2))
    refine lv_iconst (v := (-1)) hx hb d_M_findLeast_227 (by decide) ?_
    refine lv_icmp_ne (tgt := 312) hx hb d_M_findLeast_228 (by decide) (fun h9 => absurd h9 (fun h9 => h9 rfl)) (fun _ => ?_)
    refine lv_iconst (v := nI 0) hx hb d_M_findLeast_231 (by decide) ?_
    refine lv_istore_n (lv' := [(3, .int (nI 0)), (6, .int (nI 0 + -1)), (5, .int (nI a9)), (4, .int (nI i)), (2, .int (nI (s9 + 17))), (1, .int (nI l9)), (0, .ref o)]) hx hb d_M_findLeast_232 rfl hl (by decide) rfl (fun ls hl => ?_)
    refine lv_aload_n hx hb d_M_findLeast_233 rfl (lv_at hl 6 rfl) ?_
    refine mp_get (C := R_M) (T := F_M) (N := 31) (v := .ref dg) hx hb hg i_M hown hK.va hI h_o rfl 17 (by decide) (hg _ q_821) (fun _ h9 => h9) rfl d_M_findLeast_234 ?_
    refine lv_iload_n hx hb d_M_findLeast_237 rfl (lv_at hl 5 rfl) ?_
    refine lv_iload hx hb d_M_findLeast_238 (lv_at hl 3 rfl) ?_
    refine mp_iast hx hb hK.va hI 0 h_dg rfl (vp_in_nI (show l9 < 3 by omega) (by omega)) d_M_findLeast_240 (fun S16 H17 locs e_18 hI => ?_)
    have h_dg_o := h_dg
    have e_18 : S16 = va_up S13 dg (some (2010, .inl ((g 0), 3, .inl (upd (fun j => nI (DG j)) (nI l9).toNatClampNeg (nI i))))) := e_18
    have h_o : S16 o = some (2000, .inr (10, [mv0, mv1, mv2, mv3, mv4, mv5, mv6, mv7, mv8, mv9, mv10, mv11, mv12, mv13, .int (nI s9), .ref le, .ref ta, .ref dg, .ref lt9, mv19, mv20, mv21, mv22, mv23, mv24, .ref ve, .ref ot, .ref ro, .ref pv9, mv29, mv30])) := by rw [e_18]; exact mp_keep h_o h_dg (by decide)
    have h_le : S16 le = some (2008, .inl ((g 0), 17, .inl (fun j => nI (LF j)))) := by rw [e_18]; exact mp_keep h_le h_dg (by decide)
    have h_ta : S16 ta = some (2009, .inl ((g 0), 768, .inl (fun j => nI (TB j).val))) := by rw [e_18]; exact mp_keep h_ta h_dg (by decide)
    have h_ve : S16 ve = some (2017, .inl ((g 0), 16, .inl (fun j => nI (vv j).val))) := by rw [e_18]; exact mp_keep h_ve h_dg (by decide)
    have h_ot : S16 ot = some (2018, .inl ((g 0), 16, .inl (fun j => nI (ww j).val))) := by rw [e_18]; exact mp_keep h_ot h_dg (by decide)
    have h_ro : S16 ro = some (2019, .inl ((g 0), 1700, .inl (fun j => nI (RV j).val))) := by rw [e_18]; exact mp_keep h_ro h_dg (by decide)
    have h_pv9 : S16 pv9 = some (2020, .inl ((g 0), 64, .inl PV1)) := by rw [e_18]; exact mp_keep h_pv9 h_dg (by decide)
    have h_lt9 : S16 lt9 = some (2011, .inl ((g 0), 51, .inl (fun j => nI (LE9 j).val))) := by rw [e_18]; exact mp_keep h_lt9 h_dg (by decide)
    have h_dg : S16 dg = some (2010, .inl ((g 0), 3, .inl (upd (fun j => nI (DG j)) (nI l9).toNatClampNeg (nI i)))) := by rw [e_18]; exact mp_us _ _ _
    have hfr : ∀ b t e9, B b = some (t, e9) → (t ≠ 2017) → (t ≠ 2018) → (t ≠ 2019) → (t ≠ 2020) → (t ≠ 2010) → (t ≠ 2011) → S16 b = some (t, e9) := fun b t e9 h9 k0 k1 k2 k3 k4 k5 => by rw [e_18]; exact mp_keep (hfr b t e9 h9 k0 k1 k2 k3 k4 k5) h_dg_o (by omega)
    rw [nI_clamp (by omega), nIf_up] at h_dg
    refine lv_aload_n hx hb d_M_findLeast_241 rfl (lv_at hl 6 rfl) ?_
    refine mp_get (C := R_M) (T := F_M) (N := 31) (v := .ref ro) hx hb hg i_M hown hK.va hI h_o rfl 27 (by decide) (hg _ q_831) (fun _ h9 => h9) rfl d_M_findLeast_242 ?_
    refine lv_iload hx hb d_M_findLeast_245 (lv_at hl 2 rfl) ?_
    refine lv_aload_n hx hb d_M_findLeast_247 rfl (lv_at hl 6 rfl) ?_
    refine mp_get (C := R_M) (T := F_M) (N := 31) (v := .int (nI s9)) hx hb hg i_M hown hK.va hI h_o rfl 14 (by decide) (hg _ q_818) (fun _ h9 => h9) rfl d_M_findLeast_248 ?_
    refine lv_iadd hx hb d_M_findLeast_251 ?_
    refine lv_topi (fun v19 ev19 => ?_)
    obtain rfl : v19 = nI (a9 + s9) := ev19.trans (nI_add _ _)
    refine lv_iload hx hb d_M_findLeast_252 (lv_at hl 3 rfl) ?_
    refine lv_iadd hx hb d_M_findLeast_254 ?_
    refine lv_topi (fun v20 ev20 => ?_)
    obtain rfl : v20 = nI ((a9 + s9) + i) := ev20.trans (nI_add _ _)
    refine mp_iald hx hb hK.va hI 0 h_ro rfl (vp_in_nI (show (a9 + s9) + i < 1700 by omega) (by omega)) d_M_findLeast_255 ?_
    refine lv_topi (fun v21 ev21 => ?_)
    obtain rfl : v21 = nI (RV ((a9 + s9) + i)).val := ev21.trans (by rw [nI_clamp (by omega)])
    refine mp_calli hI (va_runS (As := [.int (nI (RV ((a9 + s9) + i)).val)]) (rest := []) ⟨hx, hb, hml, hown, hg⟩ (c_M_inverse l D g S16 _ (RV (a9 + s9 + i)).val (RV (a9 + s9 + i)).isLt) ⟨(callB_of 1 hg (wd_goodG q_924) rfl rfl rfl (hg _ q_5) (hg _ q_922) (by decide +kernel) ⟨Nat.le_trans (Nat.le_of_ble_eq_true rfl) hRf, Nat.le_trans (Nat.le_of_ble_eq_true rfl) hRl⟩), hg _ q_923⟩ (mp_pre hI hK [.int (nI (RV ((a9 + s9) + i)).val)]) rfl rfl hl.1 rfl (lv_room (Nat.le_of_ble_eq_true rfl)) d_M_findLeast_256 ⟨by omega, by omega⟩) (fun r25 S22 H23 locs p_24 hI => ?_)
    obtain ⟨er25, eS26⟩ := p_24
    rw [eS26] at hI
    have er25 : r25 = nI ((RV (a9 + s9 + i)).val ^ 32001 % 32003) := er25
    subst er25
    refine lv_topi (fun v27 ev27 => ?_)
    obtain rfl : v27 = nI (iv (RV (a9 + s9 + i))).val := ev27.trans (congrArg nI (iv_val _))
    refine lv_istore (lv' := [(6, .int (nI (iv (RV (a9 + s9 + i))).val)), (3, .int (nI 0)), (5, .int (nI a9)), (4, .int (nI i)), (2, .int (nI (s9 + 17))), (1, .int (nI l9)), (0, .ref o)]) hx hb d_M_findLeast_259 hl (by decide) rfl (fun ls hl => ?_)
    refine lv_iconst (v := nI 0) hx hb d_M_findLeast_261 (by decide) ?_
    refine lv_istore (lv' := [(7, .int (nI 0)), (6, .int (nI (iv (RV (a9 + s9 + i))).val)), (3, .int (nI 0)), (5, .int (nI a9)), (4, .int (nI i)), (2, .int (nI (s9 + 17))), (1, .int (nI l9)), (0, .ref o)]) hx hb d_M_findLeast_262 hl (by decide) rfl (fun ls hl => ?_)
    rw [← layI_0 (17 * l9) (fun k => RV (a9 + s9 + k) * (iv (RV (a9 + s9 + i)))) LE9] at h_lt9
    refine lp_M_fl5 (B := B) (o := o) (le := le) (ta := ta) (ve := ve) (ot := ot) (ro := ro) (pv9 := pv9) (dg := dg) (lt9 := lt9) (s9 := s9) (l9 := l9) (mv0 := mv0) (mv1 := mv1) (mv2 := mv2) (mv3 := mv3) (mv4 := mv4) (mv5 := mv5) (mv6 := mv6) (mv7 := mv7) (mv8 := mv8) (mv9 := mv9) (mv10 := mv10) (mv11 := mv11) (mv12 := mv12) (mv13 := mv13) (mv19 := mv19) (mv20 := mv20) (mv21 := mv21) (mv22 := mv22) (mv23 := mv23) (mv24 := mv24) (mv29 := mv29) (mv30 := mv30) (LF := LF) (TB := TB) (RW := RV) (vv := vv) (ww := ww) (LE9 := LE9) (PV := PV1) (DG := (va_up DG l9 i)) (a9 := a9) (n9 := i) (y9 := (iv (RV (a9 + s9 + i)))) hx hb hml hg hown hK (Nat.le_trans (Nat.le_of_ble_eq_true rfl) hRf) (Nat.le_trans (Nat.le_of_ble_eq_true rfl) hRl) (by omega) (by omega) hs hl9 ha8 (by omega) (i + 1) 0 S16 H23 _ ls (by omega) h_o h_le h_ta h_ve h_ot h_ro h_pv9 h_dg h_lt9 hfr hI (lv_sub hl [0, 1, 3, 4, 2, 5, 6, 7] rfl) (fun S28 H29 locs ls h_o h_le h_ta h_ve h_ot h_ro h_pv9 h_dg h_lt9 hfr hI hl => ?_)
    refine lv_goto (tgt := 317) hx hb d_M_findLeast_309 (by decide) ?_
    refine lv_iinc (v := nI (i + 1)) (lv' := [(4, .int (nI (i + 1))), (7, .int (nI (i + 1))), (6, .int (nI ((iv (RV (a9 + s9 + i)))).val)), (5, .int (nI a9)), (3, .int (nI 0)), (2, .int (nI (s9 + 17))), (1, .int (nI l9)), (0, .ref o)]) hx hb d_M_findLeast_317 hl (k := 3) rfl (nI_1 _) (by decide) rfl (fun ls hl => ?_)
    refine lv_goto (tgt := 49) hx hb d_M_findLeast_320 (by decide) ?_
    refine lv_iload_n hx hb d_M_findLeast_49 rfl (lv_at hl 4 rfl) ?_
    refine lv_if_eq (tgt := 323) hx hb d_M_findLeast_50 (by decide) (fun _ => ?_) (fun h9 => absurd (by decide) h9)
    have hy1 : (iv (RV (a9 + s9 + i))) = 1 := by rw [show a9 + s9 + i = a9 + (s9 + i) by omega, hrow _ (by omega), pC_hi, rw_top hs, iv_1]
    exact ky RV PV1 vv ww (layI (17 * l9) (i + 1) (fun k => RV (a9 + s9 + k) * (iv (RV (a9 + s9 + i)))) LE9) S28 H29 locs ls (fun k9 hk9 => by rw [layI_in hk9, hy1, show a9 + s9 + k9 = a9 + (s9 + k9) by omega, hrow _ (by omega), pC_hi]; grind) (fun j hj => layI_out (by omega)) h_o h_le h_ta h_ve h_ot h_ro h_pv9 h_dg h_lt9 hfr hI (lv_sub hl [7] rfl)
  | succ k ih =>
    intro i RW PV vv ww S H locs ls hi hiD hrw hpv hvv h_o h_le h_ta h_ve h_ot h_ro h_pv9 h_dg h_lt9 hfr hI hl kx ky
    have hi8 : i < D9 := by omega
    obtain ⟨hD1, hD2, hD3⟩ := hD
    have ha8 := mul_b hs (show i ≤ 16 by omega)
    obtain ⟨a9, ea9⟩ : ∃ a, a = (s9 + 17) * i := ⟨_, rfl⟩
    rw [← ea9] at ha8
    have hlo : ∀ r, r < i → lsp s9 (vqM TB l9 s9) r < s9 := fun r hr => hD3 r (by omega)
    refine lv_iload_n hx hb d_M_findLeast_49 rfl (lv_at hl 1 rfl) ?_
    refine lv_if_eq (tgt := 323) hx hb d_M_findLeast_50 (by decide) (fun h9 => absurd h9 (by decide)) (fun _ => ?_)
    refine lv_iload_n hx hb d_M_findLeast_53 rfl (lv_at hl 2 rfl) ?_
    refine lv_iload hx hb d_M_findLeast_54 (lv_at hl 0 rfl) ?_
    refine lv_imul hx hb d_M_findLeast_56 ?_
    refine lv_topi (fun v1 ev1 => ?_)
    obtain rfl : v1 = nI ((s9 + 17) * i) := ev1.trans (pk_mul _ _)
    refine lv_topi (fun v2 ev2 => ?_)
    obtain rfl : v2 = nI a9 := ev2.trans (by rw [ea9])
    refine lv_istore (lv' := [(5, .int (nI a9)), (4, .int (nI i)), (3, .int (nI 1)), (2, .int (nI (s9 + 17))), (1, .int (nI l9)), (0, .ref o)]) hx hb d_M_findLeast_57 hl (by decide) rfl (fun ls hl => ?_)
    refine lv_iconst (v := nI 0) hx hb d_M_findLeast_59 (by decide) ?_
    refine lv_istore (lv' := [(6, .int (nI 0)), (5, .int (nI a9)), (4, .int (nI i)), (3, .int (nI 1)), (2, .int (nI (s9 + 17))), (1, .int (nI l9)), (0, .ref o)]) hx hb d_M_findLeast_60 hl (by decide) rfl (fun ls hl => ?_)
    rw [← layI_0 a9 vv RW] at h_ro
    refine lp_M_fl1 (B := B) (o := o) (le := le) (ta := ta) (ve := ve) (ot := ot) (ro := ro) (pv9 := pv9) (dg := dg) (lt9 := lt9) (s9 := s9) (l9 := l9) (mv0 := mv0) (mv1 := mv1) (mv2 := mv2) (mv3 := mv3) (mv4 := mv4) (mv5 := mv5) (mv6 := mv6) (mv7 := mv7) (mv8 := mv8) (mv9 := mv9) (mv10 := mv10) (mv11 := mv11) (mv12 := mv12) (mv13 := mv13) (mv19 := mv19) (mv20 := mv20) (mv21 := mv21) (mv22 := mv22) (mv23 := mv23) (mv24 := mv24) (mv29 := mv29) (mv30 := mv30) (LF := LF) (TB := TB) (RW := RW) (vv := vv) (ww := ww) (LE9 := LE9) (PV := PV) (DG := DG) (a9 := a9) (n9 := i) hx hb hml hg hown hK (Nat.le_trans (Nat.le_of_ble_eq_true rfl) hRf) (Nat.le_trans (Nat.le_of_ble_eq_true rfl) hRl) (by omega) (by omega) hs hl9 ha8 (by omega) s9 0 S H _ ls (by omega) h_o h_le h_ta h_ve h_ot h_ro h_pv9 h_dg h_lt9 hfr hI (lv_sub hl [0, 1, 2, 3, 4, 5, 6] rfl) (fun S3 H4 locs ls h_o h_le h_ta h_ve h_ot h_ro h_pv9 h_dg h_lt9 hfr hI hl => ?_)
    refine lv_iconst (v := nI 0) hx hb d_M_findLeast_94 (by decide) ?_
    refine lv_istore (lv' := [(6, .int (nI 0)), (5, .int (nI a9)), (4, .int (nI i)), (3, .int (nI 1)), (2, .int (nI (s9 + 17))), (1, .int (nI l9)), (0, .ref o)]) hx hb d_M_findLeast_95 hl (by decide) rfl (fun ls hl => ?_)
    rw [← layI_0 (a9 + s9) (dl9 i) (layI a9 s9 vv RW)] at h_ro
    refine lp_M_fl2 (B := B) (o := o) (le := le) (ta := ta) (ve := ve) (ot := ot) (ro := ro) (pv9 := pv9) (dg := dg) (lt9 := lt9) (s9 := s9) (l9 := l9) (mv0 := mv0) (mv1 := mv1) (mv2 := mv2) (mv3 := mv3) (mv4 := mv4) (mv5 := mv5) (mv6 := mv6) (mv7 := mv7) (mv8 := mv8) (mv9 := mv9) (mv10 := mv10) (mv11 := mv11) (mv12 := mv12) (mv13 := mv13) (mv19 := mv19) (mv20 := mv20) (mv21 := mv21) (mv22 := mv22) (mv23 := mv23) (mv24 := mv24) (mv29 := mv29) (mv30 := mv30) (LF := LF) (TB := TB) (RW := (layI a9 s9 vv RW)) (vv := vv) (ww := ww) (LE9 := LE9) (PV := PV) (DG := DG) (a9 := a9) (n9 := i) hx hb hml hg hown hK (Nat.le_trans (Nat.le_of_ble_eq_true rfl) hRf) (Nat.le_trans (Nat.le_of_ble_eq_true rfl) hRl) (by omega) (by omega) hs hl9 ha8 (by omega) 17 0 S3 H4 _ ls (by omega) h_o h_le h_ta h_ve h_ot h_ro h_pv9 h_dg h_lt9 hfr hI (lv_sub hl [0, 1, 2, 3, 4, 5, 6] rfl) (fun S5 H6 locs ls h_o h_le h_ta h_ve h_ot h_ro h_pv9 h_dg h_lt9 hfr hI hl => ?_)
    refine lv_iconst (v := nI 0) hx hb d_M_findLeast_137 (by decide) ?_
    refine lv_istore (lv' := [(6, .int (nI 0)), (5, .int (nI a9)), (4, .int (nI i)), (3, .int (nI 1)), (2, .int (nI (s9 + 17))), (1, .int (nI l9)), (0, .ref o)]) hx hb d_M_findLeast_138 hl (by decide) rfl (fun ls hl => ?_)
    refine lp_M_fl3 (B := B) (o := o) (le := le) (ta := ta) (ve := ve) (ot := ot) (ro := ro) (pv9 := pv9) (dg := dg) (lt9 := lt9) (s9 := s9) (l9 := l9) (mv0 := mv0) (mv1 := mv1) (mv2 := mv2) (mv3 := mv3) (mv4 := mv4) (mv5 := mv5) (mv6 := mv6) (mv7 := mv7) (mv8 := mv8) (mv9 := mv9) (mv10 := mv10) (mv11 := mv11) (mv12 := mv12) (mv13 := mv13) (mv19 := mv19) (mv20 := mv20) (mv21 := mv21) (mv22 := mv22) (mv23 := mv23) (mv24 := mv24) (mv29 := mv29) (mv30 := mv30) (LF := LF) (TB := TB) (RW := RW) (vv := vv) (ww := ww) (LE9 := LE9) (PV := PV) (DG := DG) (a9 := a9) (n9 := i) hx hb hml hg hown hK (Nat.le_trans (Nat.le_of_ble_eq_true rfl) hRf) (Nat.le_trans (Nat.le_of_ble_eq_true rfl) hRl) (by omega) (by omega) hs hl9 ha8 (by omega) ea9 hrw hpv hlo i 0 (layI (a9 + s9) 17 (dl9 i) (layI a9 s9 vv RW)) S5 H6 _ ls (by omega) (rtI_0 hs hvv) h_o h_le h_ta h_ve h_ot h_ro h_pv9 h_dg h_lt9 hfr hI (lv_sub hl [0, 1, 2, 3, 4, 5, 6] rfl) (fun RV S7 H8 locs ls hrt h_o h_le h_ta h_ve h_ot h_ro h_pv9 h_dg h_lt9 hfr hI hl => ?_)
    have hrow : ∀ q, q < s9 + 17 → RV (a9 + q) = rwN s9 (vqM TB l9 s9) i (pC s9 q) := fun q hq => by rw [hrt.1 q hq, ← rw_eq]
    have hfz : fnz (fun q => RV (a9 + q)) s9 = fnz (rwN s9 (vqM TB l9 s9) i) s9 := fnz_cg s9 (fun q hq => by rw [hrow q (by omega), pC_lt hq])
    refine lv_aload_n hx hb d_M_findLeast_171 rfl (lv_at hl 6 rfl) ?_
    refine mp_get (C := R_M) (T := F_M) (N := 31) (v := .ref pv9) hx hb hg i_M hown hK.va hI h_o rfl 28 (by decide) (hg _ q_832) (fun _ h9 => h9) rfl d_M_findLeast_172 ?_
    refine lv_iload hx hb d_M_findLeast_175 (lv_at hl 2 rfl) ?_
    refine lv_iconst (v := (-1)) hx hb d_M_findLeast_177 (by decide) ?_
    refine mp_iast hx hb hK.va hI 0 h_pv9 rfl (vp_in_nI (show i < 64 by omega) (by omega)) d_M_findLeast_178 (fun S9 H10 locs e_11 hI => ?_)
    have h_pv9_o := h_pv9
    have e_11 : S9 = va_up S7 pv9 (some (2020, .inl ((g 0), 64, .inl (upd PV (nI i).toNatClampNeg (-1))))) := e_11
    have h_o : S9 o = some (2000, .inr (10, [mv0, mv1, mv2, mv3, mv4, mv5, mv6, mv7, mv8, mv9, mv10, mv11, mv12, mv13, .int (nI s9), .ref le, .ref ta, .ref dg, .ref lt9, mv19, mv20, mv21, mv22, mv23, mv24, .ref ve, .ref ot, .ref ro, .ref pv9, mv29, mv30])) := by rw [e_11]; exact mp_keep h_o h_pv9 (by decide)
    have h_le : S9 le = some (2008, .inl ((g 0), 17, .inl (fun j => nI (LF j)))) := by rw [e_11]; exact mp_keep h_le h_pv9 (by decide)
    have h_ta : S9 ta = some (2009, .inl ((g 0), 768, .inl (fun j => nI (TB j).val))) := by rw [e_11]; exact mp_keep h_ta h_pv9 (by decide)
    have h_ve : S9 ve = some (2017, .inl ((g 0), 16, .inl (fun j => nI (vv j).val))) := by rw [e_11]; exact mp_keep h_ve h_pv9 (by decide)
    have h_ot : S9 ot = some (2018, .inl ((g 0), 16, .inl (fun j => nI (ww j).val))) := by rw [e_11]; exact mp_keep h_ot h_pv9 (by decide)
    have h_ro : S9 ro = some (2019, .inl ((g 0), 1700, .inl (fun j => nI (RV j).val))) := by rw [e_11]; exact mp_keep h_ro h_pv9 (by decide)
    have h_dg : S9 dg = some (2010, .inl ((g 0), 3, .inl (fun j => nI (DG j)))) := by rw [e_11]; exact mp_keep h_dg h_pv9 (by decide)
    have h_lt9 : S9 lt9 = some (2011, .inl ((g 0), 51, .inl (fun j => nI (LE9 j).val))) := by rw [e_11]; exact mp_keep h_lt9 h_pv9 (by decide)
    have h_pv9 : S9 pv9 = some (2020, .inl ((g 0), 64, .inl (upd PV (nI i).toNatClampNeg (-1)))) := by rw [e_11]; exact mp_us _ _ _
    have hfr : ∀ b t e9, B b = some (t, e9) → (t ≠ 2017) → (t ≠ 2018) → (t ≠ 2019) → (t ≠ 2020) → (t ≠ 2010) → (t ≠ 2011) → S9 b = some (t, e9) := fun b t e9 h9 k0 k1 k2 k3 k4 k5 => by rw [e_11]; exact mp_keep (hfr b t e9 h9 k0 k1 k2 k3 k4 k5) h_pv9_o (by omega)
    rw [nI_clamp (by omega)] at h_pv9
    refine lv_aload_n hx hb d_M_findLeast_179 rfl (lv_at hl 6 rfl) ?_
    refine mp_get (C := R_M) (T := F_M) (N := 31) (v := .int (nI s9)) hx hb hg i_M hown hK.va hI h_o rfl 14 (by decide) (hg _ q_818) (fun _ h9 => h9) rfl d_M_findLeast_180 ?_
    refine lv_iconst (v := nI 1) hx hb d_M_findLeast_183 (by decide) ?_
    refine lv_isub hx hb d_M_findLeast_184 ?_
    refine lv_topi (fun v12 ev12 => ?_)
    obtain rfl : v12 = (nI s9 + -1) := ev12.trans (nI_sub1 s9)
    refine lv_istore (lv' := [(6, .int (nI s9 + -1)), (5, .int (nI a9)), (4, .int (nI i)), (3, .int (nI 1)), (2, .int (nI (s9 + 17))), (1, .int (nI l9)), (0, .ref o)]) hx hb d_M_findLeast_185 hl (by decide) rfl (fun ls hl => ?_)
    refine lp_M_fl4 (B := B) (o := o) (le := le) (ta := ta) (ve := ve) (ot := ot) (ro := ro) (pv9 := pv9) (dg := dg) (lt9 := lt9) (s9 := s9) (l9 := l9) (mv0 := mv0) (mv1 := mv1) (mv2 := mv2) (mv3 := mv3) (mv4 := mv4) (mv5 := mv5) (mv6 := mv6) (mv7 := mv7) (mv8 := mv8) (mv9 := mv9) (mv10 := mv10) (mv11 := mv11) (mv12 := mv12) (mv13 := mv13) (mv19 := mv19) (mv20 := mv20) (mv21 := mv21) (mv22 := mv22) (mv23 := mv23) (mv24 := mv24) (mv29 := mv29) (mv30 := mv30) (LF := LF) (TB := TB) (RW := RV) (vv := vv) (ww := ww) (LE9 := LE9) (Pq := PV) (DG := DG) (a9 := a9) (n9 := i) hx hb hml hg hown hK (Nat.le_trans (Nat.le_of_ble_eq_true rfl) hRf) (Nat.le_trans (Nat.le_of_ble_eq_true rfl) hRl) (by omega) (by omega) hs hl9 ha8 (by omega) s9 (upd PV i (-1)) S9 H10 _ ls (Nat.le_refl _) pv_0 h_o h_le h_ta h_ve h_ot h_ro h_pv9 h_dg h_lt9 hfr hI (lv_sub hl [0, 1, 2, 3, 4, 5, 6] rfl) (fun PV1 S13 H14 locs ls hpi h_o h_le h_ta h_ve h_ot h_ro h_pv9 h_dg h_lt9 hfr hI hl => ?_)
    refine lv_aload_n hx hb d_M_findLeast_220 rfl (lv_at hl 6 rfl) ?_
    refine mp_get (C := R_M) (T := F_M) (N := 31) (v := .ref pv9) hx hb hg i_M hown hK.va hI h_o rfl 28 (by decide) (hg _ q_832) (fun _ h9 => h9) rfl d_M_findLeast_221 ?_
    refine lv_iload hx hb d_M_findLeast_224 (lv_at hl 2 rfl) ?_
    refine mp_iald hx hb hK.va hI 0 h_pv9 rfl (vp_in_nI (show i < 64 by omega) (by omega)) d_M_findLeast_226 ?_
    refine lv_topi (fun v15 ev15 => ?_)
    obtain rfl : v15 = nI (lsp s9 (vqM TB l9 s9) i) := ev15.trans (by rw [nI_clamp (by omega)]; have := pv_yes hpi (by rw [hfz]; exact hD3 i hi8); rw [hfz] at this; exact this)
    refine lv_iconst (v := (-1)) hx hb d_M_findLeast_227 (by decide) ?_
    have hl16 : lsp s9 (vqM TB l9 s9) i < 16 := Nat.lt_of_lt_of_le (hD3 i hi8) hs
    refine lv_icmp_ne (tgt := 312) hx hb d_M_findLeast_228 (by decide) (fun _ => ?_) (fun h9 => absurd h9 (nI_nm2 hl16))
    refine lv_aload_n hx hb d_M_findLeast_312 rfl (lv_at hl 6 rfl) ?_
    refine lv_iload_n hx hb d_M_findLeast_313 rfl (lv_at hl 5 rfl) ?_
    refine mp_callv hI (va_runV (As := [.int (nI l9)]) (rest := []) ⟨hx, hb, hml, hown, hg⟩ (c_M_multiply l D g S13 _ o ta ve ot s9 l9 mv0 mv1 mv2 mv3 mv4 mv5 mv6 mv7 mv8 mv9 mv10 mv11 mv12 mv13 (.ref le) (.ref dg) (.ref lt9) mv19 mv20 mv21 mv22 mv23 mv24 (.ref ro) (.ref pv9) mv29 mv30 TB vv ww h_o h_ta h_ve h_ot hs hl9) ⟨(callB_of 1 hg (wd_goodG q_1022) rfl rfl rfl (hg _ q_5) (hg _ q_1019) (by decide +kernel) ⟨Nat.le_trans (Nat.le_of_ble_eq_true rfl) hRf, Nat.le_trans (Nat.le_of_ble_eq_true rfl) hRl⟩), hg _ q_1021, hg _ qs_39⟩ (mp_preV (C := R_M) (T := F_M) hI hK h_o rfl [.int (nI l9)]) rfl rfl hl.1 rfl (lv_room (Nat.le_of_ble_eq_true rfl)) d_M_findLeast_314 ⟨by omega, by omega⟩) (fun S16 H17 locs p_18 hI => ?_)
    obtain ⟨q_ve, q_ot, fq⟩ := p_18
    have h_o : S16 o = some (2000, .inr (10, [mv0, mv1, mv2, mv3, mv4, mv5, mv6, mv7, mv8, mv9, mv10, mv11, mv12, mv13, .int (nI s9), .ref le, .ref ta, .ref dg, .ref lt9, mv19, mv20, mv21, mv22, mv23, mv24, .ref ve, .ref ot, .ref ro, .ref pv9, mv29, mv30])) := fq o _ _ h_o (by omega) (by omega)
    have h_le : S16 le = some (2008, .inl ((g 0), 17, .inl (fun j => nI (LF j)))) := fq le _ _ h_le (by omega) (by omega)
    have h_ta : S16 ta = some (2009, .inl ((g 0), 768, .inl (fun j => nI (TB j).val))) := fq ta _ _ h_ta (by omega) (by omega)
    have h_ro : S16 ro = some (2019, .inl ((g 0), 1700, .inl (fun j => nI (RV j).val))) := fq ro _ _ h_ro (by omega) (by omega)
    have h_pv9 : S16 pv9 = some (2020, .inl ((g 0), 64, .inl PV1)) := fq pv9 _ _ h_pv9 (by omega) (by omega)
    have h_dg : S16 dg = some (2010, .inl ((g 0), 3, .inl (fun j => nI (DG j)))) := fq dg _ _ h_dg (by omega) (by omega)
    have h_lt9 : S16 lt9 = some (2011, .inl ((g 0), 51, .inl (fun j => nI (LE9 j).val))) := fq lt9 _ _ h_lt9 (by omega) (by omega)
    have hfr : ∀ b t e9, B b = some (t, e9) → (t ≠ 2017) → (t ≠ 2018) → (t ≠ 2019) → (t ≠ 2020) → (t ≠ 2010) → (t ≠ 2011) → S16 b = some (t, e9) := fun b t e9 h9 k0 k1 k2 k3 k4 k5 => by have h8 := hfr b t e9 h9 k0 k1 k2 k3 k4 k5; exact fq b _ _ h8 (by omega) (by omega)
    have h_ve := q_ve
    have h_ot := q_ot
    refine lv_iinc (v := nI (i + 1)) (lv' := [(4, .int (nI (i + 1))), (6, .int (nI 0 + -1)), (5, .int (nI a9)), (3, .int (nI 1)), (2, .int (nI (s9 + 17))), (1, .int (nI l9)), (0, .ref o)]) hx hb d_M_findLeast_317 hl (k := 2) rfl (nI_1 _) (by decide) rfl (fun ls hl => ?_)
    refine lv_goto (tgt := 49) hx hb d_M_findLeast_320 (by decide) ?_
    exact ih (i + 1) RV PV1 (mgF s9 (mgF s9 (fun j => sm s9 (fun k => TB (256 * l9 + 16 * j + k) * vv k)) ww) vv) (mgF s9 (fun j => sm s9 (fun k => TB (256 * l9 + 16 * j + k) * vv k)) ww) S16 H17 locs ls (by omega) (by omega) (fun r hr q hq => by by_cases e9 : r = i; exact (by rw [e9, ← ea9]; exact hrow q hq); exact (by have h8 := mul_w (w := s9 + 17) (show r < i by omega); rw [hrt.2 _ (by omega)]; exact hrw r (by omega) q hq)) (fun r hr => by by_cases e9 : r = i; exact (by rw [e9]; have h8 := pv_yes hpi (by rw [hfz]; exact hD3 i hi8); rw [hfz] at h8; exact h8); exact (by rw [hpi.1 r e9]; exact hpv r (by omega))) (fun k9 hk9 => by rw [mgF_lt hk9, mgF_lt hk9]; exact sm_cg (fun k8 hk8 => by rw [hvv k8 hk8])) h_o h_le h_ta h_ve h_ot h_ro h_pv9 h_dg h_lt9 hfr hI (lv_sub hl [0, 3, 4, 5, 6] rfl) kx ky
set_option maxHeartbeats 4000000 in
set_option maxRecDepth 100000 in
/-- the least polynomial, in the reference -/
theorem c_M_findLeast (l : Launch) (D : mp_G) (g : Nat → ClassId) (S : mp_M) (sz : Nat) (o le ta ve ot ro pv9 dg lt9 s9 l9 : Nat) (mv0 mv1 mv2 mv3 mv4 mv5 mv6 mv7 mv8 mv9 mv10 mv11 mv12 mv13 mv19 mv20 mv21 mv22 mv23 mv24 mv29 mv30 : Value) (LF : Nat → Nat) (TB : Nat → fF) (RW vv ww LE9 : Nat → fF) (PV : Nat → Int32) (DG : Nat → Nat) (h_o : S o = some (2000, .inr (10, [mv0, mv1, mv2, mv3, mv4, mv5, mv6, mv7, mv8, mv9, mv10, mv11, mv12, mv13, .int (nI s9), .ref le, .ref ta, .ref dg, .ref lt9, mv19, mv20, mv21, mv22, mv23, mv24, .ref ve, .ref ot, .ref ro, .ref pv9, mv29, mv30]))) (h_le : S le = some (2008, .inl ((g 0), 17, .inl (fun j => nI (LF j))))) (h_ta : S ta = some (2009, .inl ((g 0), 768, .inl (fun j => nI (TB j).val)))) (h_ve : S ve = some (2017, .inl ((g 0), 16, .inl (fun j => nI (vv j).val)))) (h_ot : S ot = some (2018, .inl ((g 0), 16, .inl (fun j => nI (ww j).val)))) (h_ro : S ro = some (2019, .inl ((g 0), 1700, .inl (fun j => nI (RW j).val)))) (h_pv9 : S pv9 = some (2020, .inl ((g 0), 64, .inl PV))) (h_dg : S dg = some (2010, .inl ((g 0), 3, .inl (fun j => nI (DG j))))) (h_lt9 : S lt9 = some (2011, .inl ((g 0), 51, .inl (fun j => nI (LE9 j).val)))) (hs : s9 ≤ 16) (hl9 : l9 < 3) (hL0 : ∀ k, k < s9 → (LF k = 0 ↔ k = 0)) (hLb : ∀ k, k < s9 → LF k < 1000) : Met l y_M_findLeast w_M_findLeast ({ frames := 3, cells := 0, slots := 0, locals := 71 }) (va_Pc [.ref o, .int (nI l9)] (mp_B0 D classes (tys g) S sz)) (va_Qv (fun (S1 : mp_M) => ∃ (D9 : Nat) (RW1 vv1 ww1 LE1 : Nat → fF) (PV1 : Nat → Int32), dgP s9 (vqM TB l9 s9) D9 ∧ S1 ve = some (2017, .inl ((g 0), 16, .inl (fun j => nI (vv1 j).val))) ∧ S1 ot = some (2018, .inl ((g 0), 16, .inl (fun j => nI (ww1 j).val))) ∧ S1 ro = some (2019, .inl ((g 0), 1700, .inl (fun j => nI (RW1 j).val))) ∧ S1 pv9 = some (2020, .inl ((g 0), 64, .inl PV1)) ∧ S1 dg = some (2010, .inl ((g 0), 3, .inl (fun j => nI ((va_up DG l9 D9) j)))) ∧ S1 lt9 = some (2011, .inl ((g 0), 51, .inl (fun j => nI (LE1 j).val))) ∧ (∀ k9, k9 < D9 + 1 → LE1 (17 * l9 + k9) = rwN s9 (vqM TB l9 s9) D9 (16 + k9)) ∧ (∀ j, (j < 17 * l9 ∨ 17 * l9 + 17 ≤ j) → LE1 j = LE9 j) ∧ (∀ b t e9, S b = some (t, e9) → (t ≠ 2017) → (t ≠ 2018) → (t ≠ 2019) → (t ≠ 2020) → (t ≠ 2010) → (t ≠ 2011) → S1 b = some (t, e9))) (mp_B1 D classes S sz) (mp_A S sz)) 0 0 (mp_A S sz) := by
  refine Met.ofW (cc := b_M_findLeast) (maxL := 8) (ret := none) (by decide) rfl ?_
  intro p e s m args below meth c s₁ B hml hv
  obtain ⟨rfl, hsz, hH, hK⟩ := hv
  have hx := B.exec
  have hb := B.bytes
  have hr := B.returns
  have hts := atoms_spec (ws := w_M_findLeast) B.pre
  have hg : ∀ w ∈ gw, w.before _ s = true := fun w h => hts w (List.mem_cons_of_mem _ h)
  have hown : s.vm.findClass R_M = some m.cls := findClass_of_methodNamed B.named
  have hlocks := B.notSynchronized
  subst hsz
  have hI := mp_I.start hH
  have hl := lv_entry ([.ref o, .int (nI l9)]) (n := 8) (Nat.le_of_ble_eq_true rfl)
  rw [lg_entry_eq]
  generalize (lg_sl ([.ref o, .int (nI l9)]) ++ List.replicate (8 - (lg_sl ([.ref o, .int (nI l9)])).length) Slot.unset).toArray = ls at hl ⊢
  have hl : lv_has ls 8 [(0, .ref o), (1, .int (nI l9))] := hl
  have hfr : ∀ b t e9, S b = some (t, e9) → (t ≠ 2017) → (t ≠ 2018) → (t ≠ 2019) → (t ≠ 2020) → (t ≠ 2010) → (t ≠ 2011) → S b = some (t, e9) := fun _ _ _ h9 _ _ _ _ _ _ => h9
  obtain ⟨D9, hD⟩ := ls_deg (fun m9 n9 f9 h8 h9 => pig m9 n9 f9 h8 h9) s9 (vqM TB l9 s9)
  refine lv_aload_n hx hb d_M_findLeast_0 rfl (lv_at hl 0 rfl) ?_
  refine mp_get (C := R_M) (T := F_M) (N := 31) (v := .int (nI s9)) hx hb hg i_M hown hK.va hI h_o rfl 14 (by decide) (hg _ q_818) (fun _ h9 => h9) rfl d_M_findLeast_1 ?_
  refine lv_bipush (v := nI 17) hx hb d_M_findLeast_4 (by decide) ?_
  refine lv_iadd hx hb d_M_findLeast_6 ?_
  refine lv_topi (fun v1 ev1 => ?_)
  obtain rfl : v1 = nI (s9 + 17) := ev1.trans (nI_add _ _)
  refine lv_istore_n (lv' := [(2, .int (nI (s9 + 17))), (0, .ref o), (1, .int (nI l9))]) hx hb d_M_findLeast_7 rfl hl (by decide) rfl (fun ls hl => ?_)
  refine lv_iconst (v := nI 0) hx hb d_M_findLeast_8 (by decide) ?_
  refine lv_istore_n (lv' := [(3, .int (nI 0)), (2, .int (nI (s9 + 17))), (0, .ref o), (1, .int (nI l9))]) hx hb d_M_findLeast_9 rfl hl (by decide) rfl (fun ls hl => ?_)
  rw [← mgF_0 (sO s9) vv] at h_ve
  refine lp_M_fl0 (B := S) (o := o) (le := le) (ta := ta) (ve := ve) (ot := ot) (ro := ro) (pv9 := pv9) (dg := dg) (lt9 := lt9) (s9 := s9) (l9 := l9) (mv0 := mv0) (mv1 := mv1) (mv2 := mv2) (mv3 := mv3) (mv4 := mv4) (mv5 := mv5) (mv6 := mv6) (mv7 := mv7) (mv8 := mv8) (mv9 := mv9) (mv10 := mv10) (mv11 := mv11) (mv12 := mv12) (mv13 := mv13) (mv19 := mv19) (mv20 := mv20) (mv21 := mv21) (mv22 := mv22) (mv23 := mv23) (mv24 := mv24) (mv29 := mv29) (mv30 := mv30) (LF := LF) (TB := TB) (RW := RW) (vv := vv) (ww := ww) (LE9 := LE9) (PV := PV) (DG := DG) hx hb hml hg hown hK (Nat.le_of_ble_eq_true rfl) (Nat.le_of_ble_eq_true rfl) (Nat.le_of_ble_eq_true rfl) (Nat.le_of_ble_eq_true rfl) hs hl9 hL0 hLb s9 0 S s.heap _ ls (by omega) h_o h_le h_ta h_ve h_ot h_ro h_pv9 h_dg h_lt9 hfr hI (lv_sub hl [0, 1, 3, 2] rfl) (fun S2 H3 locs ls h_o h_le h_ta h_ve h_ot h_ro h_pv9 h_dg h_lt9 hfr hI hl => ?_)
  refine lv_iconst (v := nI 1) hx hb d_M_findLeast_44 (by decide) ?_
  refine lv_istore_n (lv' := [(3, .int (nI 1)), (2, .int (nI (s9 + 17))), (1, .int (nI l9)), (0, .ref o)]) hx hb d_M_findLeast_45 rfl hl (by decide) rfl (fun ls hl => ?_)
  refine lv_iconst (v := nI 0) hx hb d_M_findLeast_46 (by decide) ?_
  refine lv_istore (lv' := [(4, .int (nI 0)), (3, .int (nI 1)), (2, .int (nI (s9 + 17))), (1, .int (nI l9)), (0, .ref o)]) hx hb d_M_findLeast_47 hl (by decide) rfl (fun ls hl => ?_)
  refine lp_M_fl6 (B := S) (o := o) (le := le) (ta := ta) (ve := ve) (ot := ot) (ro := ro) (pv9 := pv9) (dg := dg) (lt9 := lt9) (s9 := s9) (l9 := l9) (mv0 := mv0) (mv1 := mv1) (mv2 := mv2) (mv3 := mv3) (mv4 := mv4) (mv5 := mv5) (mv6 := mv6) (mv7 := mv7) (mv8 := mv8) (mv9 := mv9) (mv10 := mv10) (mv11 := mv11) (mv12 := mv12) (mv13 := mv13) (mv19 := mv19) (mv20 := mv20) (mv21 := mv21) (mv22 := mv22) (mv23 := mv23) (mv24 := mv24) (mv29 := mv29) (mv30 := mv30) (LF := LF) (TB := TB) (LE9 := LE9) (DG := DG) (D9 := D9) hx hb hml hg hown hK (Nat.le_of_ble_eq_true rfl) (Nat.le_of_ble_eq_true rfl) (Nat.le_of_ble_eq_true rfl) (Nat.le_of_ble_eq_true rfl) hs hl9 hD D9 0 RW PV (mgF s9 (sO s9) vv) ww S2 H3 _ ls (by omega) (Nat.zero_le _) (fun r hr => absurd hr (Nat.not_lt_zero r)) (fun r hr => absurd hr (Nat.not_lt_zero r)) (fun k9 hk9 => mgF_lt hk9) h_o h_le h_ta h_ve h_ot h_ro h_pv9 h_dg h_lt9 hfr hI (lv_sub hl [0, 1, 2, 3, 4] rfl) (fun RW1 PV1 vv1 ww1 S4 H5 locs ls hiD hrw hpv hvv h_o h_le h_ta h_ve h_ot h_ro h_pv9 h_dg h_lt9 hfr hI hl => ?_) (fun RW1 PV1 vv1 ww1 LE1 S9 H9 locs ls hle hlo j_o j_le j_ta j_ve j_ot j_ro j_pv9 j_dg j_lt9 hfr hI hl => ?_)
  · exact absurd hiD (by omega)
  · refine mp_vret hx hb hr hlocks hI (Nat.le_of_ble_eq_true rfl) (Nat.le_of_ble_eq_true rfl) ?_ d_M_findLeast_323
    exact ⟨D9, RW1, vv1, ww1, LE1, PV1, hD, j_ve, j_ot, j_ro, j_pv9, j_dg, j_lt9, hle, hlo, hfr⟩
