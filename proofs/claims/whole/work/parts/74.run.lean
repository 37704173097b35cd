/-- a solver: what stands where, and the values that stand there -/
abbrev vA : Type := Nat × Nat × Nat × Nat × Nat × Nat × Nat × Nat × Nat × Nat × Nat × Nat × Nat × Nat × Nat × Nat × Nat × Nat × Nat × Nat × Nat × Nat × Nat × Nat × Nat × Nat × Nat × Nat × Nat × Nat × Nat × Nat × Nat × (Nat → Nat) × (Nat → Nat) × (Nat → Nat) × (Nat → Nat) × (Nat → Int32)
def vA.vo (x : vA) : Nat := x.1
def vA.d9 (x : vA) : Nat := x.2.1
def vA.ra (x : vA) : Nat := x.2.2.1
def vA.ka (x : vA) : Nat := x.2.2.2.1
def vA.qo (x : vA) : Nat := x.2.2.2.2.1
def vA.ky (x : vA) : Nat := x.2.2.2.2.2.1
def vA.pr (x : vA) : Nat := x.2.2.2.2.2.2.1
def vA.lw (x : vA) : Nat := x.2.2.2.2.2.2.2.1
def vA.ll (x : vA) : Nat := x.2.2.2.2.2.2.2.2.1
def vA.mu (x : vA) : Nat := x.2.2.2.2.2.2.2.2.2.1
def vA.fa (x : vA) : Nat := x.2.2.2.2.2.2.2.2.2.2.1
def vA.nx (x : vA) : Nat := x.2.2.2.2.2.2.2.2.2.2.2.1
def vA.re (x : vA) : Nat := x.2.2.2.2.2.2.2.2.2.2.2.2.1
def vA.so1 (x : vA) : Nat := x.2.2.2.2.2.2.2.2.2.2.2.2.2.1
def vA.rq1 (x : vA) : Nat := x.2.2.2.2.2.2.2.2.2.2.2.2.2.2.1
def vA.rp1 (x : vA) : Nat := x.2.2.2.2.2.2.2.2.2.2.2.2.2.2.2.1
def vA.so2 (x : vA) : Nat := x.2.2.2.2.2.2.2.2.2.2.2.2.2.2.2.2.1
def vA.rq2 (x : vA) : Nat := x.2.2.2.2.2.2.2.2.2.2.2.2.2.2.2.2.2.1
def vA.rp2 (x : vA) : Nat := x.2.2.2.2.2.2.2.2.2.2.2.2.2.2.2.2.2.2.1
def vA.zo (x : vA) : Nat := x.2.2.2.2.2.2.2.2.2.2.2.2.2.2.2.2.2.2.2.1
def vA.fs (x : vA) : Nat := x.2.2.2.2.2.2.2.2.2.2.2.2.2.2.2.2.2.2.2.2.1
def vA.lz (x : vA) : Nat := x.2.2.2.2.2.2.2.2.2.2.2.2.2.2.2.2.2.2.2.2.2.1
def vA.rr (x : vA) : Nat := x.2.2.2.2.2.2.2.2.2.2.2.2.2.2.2.2.2.2.2.2.2.2.1
def vA.rc (x : vA) : Nat := x.2.2.2.2.2.2.2.2.2.2.2.2.2.2.2.2.2.2.2.2.2.2.2.1
def vA.za (x : vA) : Nat := x.2.2.2.2.2.2.2.2.2.2.2.2.2.2.2.2.2.2.2.2.2.2.2.2.1
def vA.mu9 (x : vA) : Nat := x.2.2.2.2.2.2.2.2.2.2.2.2.2.2.2.2.2.2.2.2.2.2.2.2.2.1
def vA.po (x : vA) : Nat := x.2.2.2.2.2.2.2.2.2.2.2.2.2.2.2.2.2.2.2.2.2.2.2.2.2.2.1
def vA.pn (x : vA) : Nat := x.2.2.2.2.2.2.2.2.2.2.2.2.2.2.2.2.2.2.2.2.2.2.2.2.2.2.2.1
def vA.pp (x : vA) : Nat := x.2.2.2.2.2.2.2.2.2.2.2.2.2.2.2.2.2.2.2.2.2.2.2.2.2.2.2.2.1
def vA.on (x : vA) : Nat := x.2.2.2.2.2.2.2.2.2.2.2.2.2.2.2.2.2.2.2.2.2.2.2.2.2.2.2.2.2.1
def vA.na (x : vA) : Nat := x.2.2.2.2.2.2.2.2.2.2.2.2.2.2.2.2.2.2.2.2.2.2.2.2.2.2.2.2.2.2.1
def vA.ot (x : vA) : Nat := x.2.2.2.2.2.2.2.2.2.2.2.2.2.2.2.2.2.2.2.2.2.2.2.2.2.2.2.2.2.2.2.1
def vA.ta (x : vA) : Nat := x.2.2.2.2.2.2.2.2.2.2.2.2.2.2.2.2.2.2.2.2.2.2.2.2.2.2.2.2.2.2.2.2.1
def vA.fe (x : vA) : Nat → Nat := x.2.2.2.2.2.2.2.2.2.2.2.2.2.2.2.2.2.2.2.2.2.2.2.2.2.2.2.2.2.2.2.2.2.1
def vA.fz (x : vA) : Nat → Nat := x.2.2.2.2.2.2.2.2.2.2.2.2.2.2.2.2.2.2.2.2.2.2.2.2.2.2.2.2.2.2.2.2.2.2.1
def vA.le (x : vA) : Nat → Nat := x.2.2.2.2.2.2.2.2.2.2.2.2.2.2.2.2.2.2.2.2.2.2.2.2.2.2.2.2.2.2.2.2.2.2.2.1
def vA.la (x : vA) : Nat → Nat := x.2.2.2.2.2.2.2.2.2.2.2.2.2.2.2.2.2.2.2.2.2.2.2.2.2.2.2.2.2.2.2.2.2.2.2.2.1
def vA.kp (x : vA) : Nat → Int32 := x.2.2.2.2.2.2.2.2.2.2.2.2.2.2.2.2.2.2.2.2.2.2.2.2.2.2.2.2.2.2.2.2.2.2.2.2.2
def vAm (vo : Nat) (d9 : Nat) (ra : Nat) (ka : Nat) (qo : Nat) (ky : Nat) (pr : Nat) (lw : Nat) (ll : Nat) (mu : Nat) (fa : Nat) (nx : Nat) (re : Nat) (so1 : Nat) (rq1 : Nat) (rp1 : Nat) (so2 : Nat) (rq2 : Nat) (rp2 : Nat) (zo : Nat) (fs : Nat) (lz : Nat) (rr : Nat) (rc : Nat) (za : Nat) (mu9 : Nat) (po : Nat) (pn : Nat) (pp : Nat) (on : Nat) (na : Nat) (ot : Nat) (ta : Nat) (fe : Nat → Nat) (fz : Nat → Nat) (le : Nat → Nat) (la : Nat → Nat) (kp : Nat → Int32) : vA := (vo, d9, ra, ka, qo, ky, pr, lw, ll, mu, fa, nx, re, so1, rq1, rp1, so2, rq2, rp2, zo, fs, lz, rr, rc, za, mu9, po, pn, pp, on, na, ot, ta, fe, fz, le, la, kp)
abbrev vT : Type := Int32 × (Nat → Nat) × (Nat → Nat → fF) × (Nat → Nat) × (Nat → Nat) × (Nat → Nat → fF) × (Nat → fF) × (Nat → fF) × (Nat → fF) × Int32 × (Nat → Nat → fF) × (Nat → Nat) × Int32 × (Nat → Nat → fF) × (Nat → Nat) × Int32 × Int32 × (Nat → fF) × Int32 × (Nat → fF) × (Nat → Int32) × (Nat → Nat → fF) × (Nat → Int32) × (Nat → Nat → fF) × (Nat → Nat → Nat) × (Nat → Nat) × (Nat → Nat → fF) × (Nat → Nat) × (Nat → fF) × (Nat → Nat → fF) × Int32
def vT.s1 (x : vT) : Int32 := x.1
def vT.kQ (x : vT) : Nat → Nat := x.2.1
def vT.PT (x : vT) : Nat → Nat → fF := x.2.2.1
def vT.lwf (x : vT) : Nat → Nat := x.2.2.2.1
def vT.llf (x : vT) : Nat → Nat := x.2.2.2.2.1
def vT.MU (x : vT) : Nat → Nat → fF := x.2.2.2.2.2.1
def vT.Fa (x : vT) : Nat → fF := x.2.2.2.2.2.2.1
def vT.Nx (x : vT) : Nat → fF := x.2.2.2.2.2.2.2.1
def vT.Re (x : vT) : Nat → fF := x.2.2.2.2.2.2.2.2.1
def vT.z1 (x : vT) : Int32 := x.2.2.2.2.2.2.2.2.2.1
def vT.ρ1 (x : vT) : Nat → Nat → fF := x.2.2.2.2.2.2.2.2.2.2.1
def vT.p1 (x : vT) : Nat → Nat := x.2.2.2.2.2.2.2.2.2.2.2.1
def vT.z2 (x : vT) : Int32 := x.2.2.2.2.2.2.2.2.2.2.2.2.1
def vT.ρ2 (x : vT) : Nat → Nat → fF := x.2.2.2.2.2.2.2.2.2.2.2.2.2.1
def vT.p2 (x : vT) : Nat → Nat := x.2.2.2.2.2.2.2.2.2.2.2.2.2.2.1
def vT.z3 (x : vT) : Int32 := x.2.2.2.2.2.2.2.2.2.2.2.2.2.2.2.1
def vT.dn (x : vT) : Int32 := x.2.2.2.2.2.2.2.2.2.2.2.2.2.2.2.2.1
def vT.cn (x : vT) : Nat → fF := x.2.2.2.2.2.2.2.2.2.2.2.2.2.2.2.2.2.1
def vT.dt (x : vT) : Int32 := x.2.2.2.2.2.2.2.2.2.2.2.2.2.2.2.2.2.2.1
def vT.ct (x : vT) : Nat → fF := x.2.2.2.2.2.2.2.2.2.2.2.2.2.2.2.2.2.2.2.1
def vT.dgE (x : vT) : Nat → Int32 := x.2.2.2.2.2.2.2.2.2.2.2.2.2.2.2.2.2.2.2.2.1
def vT.CF (x : vT) : Nat → Nat → fF := x.2.2.2.2.2.2.2.2.2.2.2.2.2.2.2.2.2.2.2.2.2.1
def vT.dl (x : vT) : Nat → Int32 := x.2.2.2.2.2.2.2.2.2.2.2.2.2.2.2.2.2.2.2.2.2.2.1
def vT.CL (x : vT) : Nat → Nat → fF := x.2.2.2.2.2.2.2.2.2.2.2.2.2.2.2.2.2.2.2.2.2.2.2.1
def vT.RT (x : vT) : Nat → Nat → Nat := x.2.2.2.2.2.2.2.2.2.2.2.2.2.2.2.2.2.2.2.2.2.2.2.2.1
def vT.RC (x : vT) : Nat → Nat := x.2.2.2.2.2.2.2.2.2.2.2.2.2.2.2.2.2.2.2.2.2.2.2.2.2.1
def vT.ZZ (x : vT) : Nat → Nat → fF := x.2.2.2.2.2.2.2.2.2.2.2.2.2.2.2.2.2.2.2.2.2.2.2.2.2.2.1
def vT.MQ (x : vT) : Nat → Nat := x.2.2.2.2.2.2.2.2.2.2.2.2.2.2.2.2.2.2.2.2.2.2.2.2.2.2.2.1
def vT.X (x : vT) : Nat → fF := x.2.2.2.2.2.2.2.2.2.2.2.2.2.2.2.2.2.2.2.2.2.2.2.2.2.2.2.2.1
def vT.W9 (x : vT) : Nat → Nat → fF := x.2.2.2.2.2.2.2.2.2.2.2.2.2.2.2.2.2.2.2.2.2.2.2.2.2.2.2.2.2.1
def vT.zc1 (x : vT) : Int32 := x.2.2.2.2.2.2.2.2.2.2.2.2.2.2.2.2.2.2.2.2.2.2.2.2.2.2.2.2.2.2
def vTm (s1 : Int32) (kQ : Nat → Nat) (PT : Nat → Nat → fF) (lwf : Nat → Nat) (llf : Nat → Nat) (MU : Nat → Nat → fF) (Fa : Nat → fF) (Nx : Nat → fF) (Re : Nat → fF) (z1 : Int32) (ρ1 : Nat → Nat → fF) (p1 : Nat → Nat) (z2 : Int32) (ρ2 : Nat → Nat → fF) (p2 : Nat → Nat) (z3 : Int32) (dn : Int32) (cn : Nat → fF) (dt : Int32) (ct : Nat → fF) (dgE : Nat → Int32) (CF : Nat → Nat → fF) (dl : Nat → Int32) (CL : Nat → Nat → fF) (RT : Nat → Nat → Nat) (RC : Nat → Nat) (ZZ : Nat → Nat → fF) (MQ : Nat → Nat) (X : Nat → fF) (W9 : Nat → Nat → fF) (zc1 : Int32) : vT := (s1, kQ, PT, lwf, llf, MU, Fa, Nx, Re, z1, ρ1, p1, z2, ρ2, p2, z3, dn, cn, dt, ct, dgE, CF, dl, CL, RT, RC, ZZ, MQ, X, W9, zc1)
def vG (g : Nat → ClassId) (nl : Nat) (Av : vA) (Tv : vT) (S : mp_M) : Prop := S Av.vo = some (10, .inr (7, [.int (nI nl), .ref Av.d9, .ref Av.qo, .ref Av.zo, .ref Av.lz, .ref Av.rr, .ref Av.rc, .ref Av.za, .ref Av.mu9, .int Tv.zc1, .ref Av.po])) ∧ S Av.d9 = some (11, .inr (5, [.ref Av.ra, .ref Av.ka])) ∧ S Av.ra = some (12, .inl ((g 0), (tr3 (9 * nl + 1)), .inl (fun j => nI (zR j).val))) ∧ S Av.ka = some (13, .inl ((g 0), (tr3 (9 * nl + 1)), .inl Av.kp)) ∧ S Av.qo = some (14, .inr (4, [.int (nI nl), .ref Av.ky, .int Tv.s1, .ref Av.pr, .ref Av.lw, .ref Av.ll, .ref Av.mu, .ref Av.fa, .ref Av.nx, .ref Av.re, .ref Av.so1, .ref Av.so2])) ∧ S Av.ky = some (15, .inl ((g 0), 16, .inl (fun j => nI (Tv.kQ j)))) ∧ S Av.pr = some (16, .inl ((g 1), 48, .inr (.inr (.inr (.inr (rfs (fun ii => Av.pr + 1 + ii) 48)))))) ∧ S Av.lw = some (17, .inl ((g 0), 16, .inl (fun j => nI (Tv.lwf j)))) ∧ S Av.ll = some (18, .inl ((g 0), 16, .inl (fun j => nI (Tv.llf j)))) ∧ S Av.mu = some (19, .inl ((g 1), 16, .inr (.inr (.inr (.inr (rfs (fun ii => Av.mu + 1 + ii) 16)))))) ∧ S Av.fa = some (20, .inl ((g 0), 16, .inl (fun j => nI (Tv.Fa j).val))) ∧ S Av.nx = some (21, .inl ((g 0), 16, .inl (fun j => nI (Tv.Nx j).val))) ∧ S Av.re = some (22, .inl ((g 0), 33, .inl (fun j => nI (Tv.Re j).val))) ∧ S Av.so1 = some (23, .inr (8, [.ref Av.rq1, .ref Av.rp1, .int Tv.z1])) ∧ S Av.rq1 = some (24, .inl ((g 1), 16, .inr (.inr (.inr (.inr (rfs (fun ii => Av.rq1 + 1 + ii) 16)))))) ∧ S Av.rp1 = some (25, .inl ((g 0), 16, .inl (fun j => nI (Tv.p1 j)))) ∧ S Av.so2 = some (26, .inr (8, [.ref Av.rq2, .ref Av.rp2, .int Tv.z2])) ∧ S Av.rq2 = some (27, .inl ((g 1), 16, .inr (.inr (.inr (.inr (rfs (fun ii => Av.rq2 + 1 + ii) 16)))))) ∧ S Av.rp2 = some (28, .inl ((g 0), 16, .inl (fun j => nI (Tv.p2 j)))) ∧ S Av.zo = some (30, .inr (6, [.ref Av.fs, .int Tv.z3, .ref Av.on, .ref Av.ot])) ∧ S Av.fs = some (31, .inl ((g 3), 16, .inr (.inr (.inr (.inr (rfs Av.fe 16)))))) ∧ S Av.lz = some (32, .inl ((g 3), 3, .inr (.inr (.inr (.inr (rfs Av.le 3)))))) ∧ S Av.rr = some (33, .inl ((g 1), 3, .inr (.inr (.inr (.inr (rfs (fun ii => Av.rr + 1 + ii) 3)))))) ∧ S Av.rc = some (34, .inl ((g 0), 3, .inl (fun j => nI (Tv.RC j)))) ∧ S Av.za = some (35, .inl ((g 1), 16, .inr (.inr (.inr (.inr (rfs (fun ii => Av.za + 1 + ii) 16)))))) ∧ S Av.mu9 = some (36, .inl ((g 0), 16, .inl (fun j => nI (Tv.MQ j)))) ∧ S Av.po = some (37, .inr (2, [.ref Av.pn, .ref Av.pp])) ∧ S Av.pn = some (38, .inl ((g 0), 3, .inl (fun j => nI (Tv.X j).val))) ∧ S Av.pp = some (39, .inl ((g 1), 3, .inr (.inr (.inr (.inr (rfs (fun ii => Av.pp + 1 + ii) 3)))))) ∧ S Av.on = some (560, .inr (1, [.ref Av.na, .int Tv.dn])) ∧ S Av.na = some ((560 + 1), .inl ((g 0), 33, .inl (fun j => nI (Tv.cn j).val))) ∧ S Av.ot = some (562, .inr (1, [.ref Av.ta, .int Tv.dt])) ∧ S Av.ta = some ((562 + 1), .inl ((g 0), 33, .inl (fun j => nI (Tv.ct j).val))) ∧ (rS g 400 48 16 (fun ii => Av.pr + 1 + ii) (fun ii j => nI (Tv.PT ii j).val) S) ∧ (rS g 450 16 16 (fun ii => Av.mu + 1 + ii) (fun ii j => nI (Tv.MU ii j).val) S) ∧ (rS g 470 16 33 (fun ii => Av.rq1 + 1 + ii) (fun ii j => nI (Tv.ρ1 ii j).val) S) ∧ (rS g 490 16 16 (fun ii => Av.rq2 + 1 + ii) (fun ii j => nI (Tv.ρ2 ii j).val) S) ∧ (oS g 520 16 Av.fe Av.fz Tv.dgE (fun ii j => nI (Tv.CF ii j).val) S) ∧ (oS g 570 3 Av.le Av.la Tv.dl (fun ii j => nI (Tv.CL ii j).val) S) ∧ (rS g 580 3 16 (fun ii => Av.rr + 1 + ii) (fun ii j => nI (Tv.RT ii j)) S) ∧ (rS g 590 16 3 (fun ii => Av.za + 1 + ii) (fun ii j => nI (Tv.ZZ ii j).val) S) ∧ (rS g 610 3 10 (fun ii => Av.pp + 1 + ii) (fun ii j => nI (Tv.W9 ii j).val) S) ∧ (∀ l, nl ≤ l → l < 3 → Tv.RC l = 1 ∧ Tv.RT l 0 = 0) ∧ (∀ r, trn 16 (Tv.PT r)) ∧ (∀ r, trn 16 (Tv.MU r)) ∧ (trn 16 Tv.Fa) ∧ (trn 16 Tv.Nx) ∧ (trn 33 Tv.Re) ∧ (∀ r, trn 33 (Tv.ρ1 r)) ∧ (∀ r, trn 16 (Tv.ρ2 r)) ∧ (trn 33 Tv.cn) ∧ (trn 33 Tv.ct) ∧ (∀ i, trn 33 (Tv.CF i)) ∧ (∀ i, trn 33 (Tv.CL i)) ∧ FL Av.kp (tr3 (9 * nl + 1))
theorem vG_kept {g : Nat → ClassId} {nl : Nat} {Av : vA} {Tv : vT} {S S1 : mp_M} (h : vG g nl Av Tv S) (hk : ∀ b t e, S b = some (t, e) → 10 ≤ t → (t < 40 ∨ (400 ≤ t ∧ t < 700)) → S1 b = S b) : vG g nl Av Tv S1 := by
  obtain ⟨h_vo, h_d9, h_ra, h_ka, h_qo, h_ky, h_pr, h_lw, h_ll, h_mu, h_fa, h_nx, h_re, h_so1, h_rq1, h_rp1, h_so2, h_rq2, h_rp2, h_zo, h_fs, h_lz, h_rr, h_rc, h_za, h_mu9, h_po, h_pn, h_pp, h_on, h_na, h_ot, h_ta, hP, hMU, hR1, hR2, hE, hLo, hRR, hZ, hW, hone, tPT, tMU, tFa, tNx, tRe, tρ1, tρ2, tcn, tct, tCF, tCL, hFL⟩ := h
  exact ⟨(hk _ _ _ h_vo (by decide) (by decide)).trans h_vo, (hk _ _ _ h_d9 (by decide) (by decide)).trans h_d9, (hk _ _ _ h_ra (by decide) (by decide)).trans h_ra, (hk _ _ _ h_ka (by decide) (by decide)).trans h_ka, (hk _ _ _ h_qo (by decide) (by decide)).trans h_qo, (hk _ _ _ h_ky (by decide) (by decide)).trans h_ky, (hk _ _ _ h_pr (by decide) (by decide)).trans h_pr, (hk _ _ _ h_lw (by decide) (by decide)).trans h_lw, (hk _ _ _ h_ll (by decide) (by decide)).trans h_ll, (hk _ _ _ h_mu (by decide) (by decide)).trans h_mu, (hk _ _ _ h_fa (by decide) (by decide)).trans h_fa, (hk _ _ _ h_nx (by decide) (by decide)).trans h_nx, (hk _ _ _ h_re (by decide) (by decide)).trans h_re, (hk _ _ _ h_so1 (by decide) (by decide)).trans h_so1, (hk _ _ _ h_rq1 (by decide) (by decide)).trans h_rq1, (hk _ _ _ h_rp1 (by decide) (by decide)).trans h_rp1, (hk _ _ _ h_so2 (by decide) (by decide)).trans h_so2, (hk _ _ _ h_rq2 (by decide) (by decide)).trans h_rq2, (hk _ _ _ h_rp2 (by decide) (by decide)).trans h_rp2, (hk _ _ _ h_zo (by decide) (by decide)).trans h_zo, (hk _ _ _ h_fs (by decide) (by decide)).trans h_fs, (hk _ _ _ h_lz (by decide) (by decide)).trans h_lz, (hk _ _ _ h_rr (by decide) (by decide)).trans h_rr, (hk _ _ _ h_rc (by decide) (by decide)).trans h_rc, (hk _ _ _ h_za (by decide) (by decide)).trans h_za, (hk _ _ _ h_mu9 (by decide) (by decide)).trans h_mu9, (hk _ _ _ h_po (by decide) (by decide)).trans h_po, (hk _ _ _ h_pn (by decide) (by decide)).trans h_pn, (hk _ _ _ h_pp (by decide) (by decide)).trans h_pp, (hk _ _ _ h_on (by decide) (by decide)).trans h_on, (hk _ _ _ h_na (by decide) (by decide)).trans h_na, (hk _ _ _ h_ot (by decide) (by decide)).trans h_ot, (hk _ _ _ h_ta (by decide) (by decide)).trans h_ta, rS_kept hP (fun b t e h9 k1 k2 => hk b t e h9 (by omega) (by omega)), rS_kept hMU (fun b t e h9 k1 k2 => hk b t e h9 (by omega) (by omega)), rS_kept hR1 (fun b t e h9 k1 k2 => hk b t e h9 (by omega) (by omega)), rS_kept hR2 (fun b t e h9 k1 k2 => hk b t e h9 (by omega) (by omega)), oS_kept hE (fun b t e h9 k1 k2 => hk b t e h9 (by omega) (by omega)), oS_kept hLo (fun b t e h9 k1 k2 => hk b t e h9 (by omega) (by omega)), rS_kept hRR (fun b t e h9 k1 k2 => hk b t e h9 (by omega) (by omega)), rS_kept hZ (fun b t e h9 k1 k2 => hk b t e h9 (by omega) (by omega)), rS_kept hW (fun b t e h9 k1 k2 => hk b t e h9 (by omega) (by omega)), hone, tPT, tMU, tFa, tNx, tRe, tρ1, tρ2, tcn, tct, tCF, tCL, hFL⟩
theorem vG_new {g : Nat → ClassId} {o n : Nat} {ad eo ea lo la : Nat → Nat} {kp : Nat → Int32} {S : mp_M} (hnl : 1 ≤ n) (h : vF g o n ad eo ea lo la kp S) : vG g n (vAm o (ad 11) (ad 12) (ad 13) (ad 14) (ad 15) (ad 16) (ad 17) (ad 18) (ad 19) (ad 20) (ad 21) (ad 22) (ad 23) (ad 24) (ad 25) (ad 26) (ad 27) (ad 28) (ad 30) (ad 31) (ad 32) (ad 33) (ad 34) (ad 35) (ad 36) (ad 37) (ad 38) (ad 39) (ad 560) (ad 561) (ad 562) (ad 563) eo ea lo la kp) (vTm (0) (fun _ => 0) (fun _ _ => 0) (fun _ => 0) (fun _ => 0) (fun _ _ => 0) (fun _ => 0) (fun _ => 0) (fun _ => 0) (0) (fun _ _ => 0) (fun _ => 0) (0) (fun _ _ => 0) (fun _ => 0) (0) (-1) (fun _ => 0) (-1) (fun _ => 0) (fun _ => -1) (fun _ _ => 0) (fun _ => -1) (fun _ _ => 0) (fun _ _ => 0) (fun j => if j < 3 then 1 else 0) (fun _ _ => 0) (fun _ => 0) (fun _ => 0) (fun _ _ => 0) (0)) S := by
  obtain ⟨f_vo, f_d9, f_ra, f_ka, f_qo, f_ky, f_pr, f_lw, f_ll, f_mu, f_fa, f_nx, f_re, f_so1, f_rq1, f_rp1, f_so2, f_rq2, f_rp2, f_zo, f_fs, f_lz, f_rr, f_rc, f_za, f_mu9, f_po, f_pn, f_pp, f_on, f_na, f_ot, f_ta, g_E, g_Lo, g_RR, g_Z, g_W, g_P, g_MU, g_R1, g_R2, hFL⟩ := h
  have f_rc : S (ad 34) = some (34, .inl ((g 0), 3, .inl (fun j => nI ((fun j => if j < 3 then 1 else 0) j)))) := by
    rw [f_rc]; congr 6; funext j; by_cases e : j < 3
    · simp only [e, if_true]
    · simp only [e, if_false]; rfl
  exact ⟨f_vo, f_d9, f_ra, f_ka, f_qo, f_ky, f_pr, f_lw, f_ll, f_mu, f_fa, f_nx, f_re, f_so1, f_rq1, f_rp1, f_so2, f_rq2, f_rp2, f_zo, f_fs, f_lz, f_rr, f_rc, f_za, f_mu9, f_po, f_pn, f_pp, f_on, f_na, f_ot, f_ta, g_P, g_MU, g_R1, g_R2, g_E, g_Lo, g_RR, g_Z, g_W, fun l h1 h2 => ⟨if_pos h2, rfl⟩, fun _ _ _ => rfl, fun _ _ _ => rfl, fun _ _ => rfl, fun _ _ => rfl, fun _ _ => rfl, fun _ _ _ => rfl, fun _ _ _ => rfl, fun _ _ => rfl, fun _ _ => rfl, fun _ _ _ => rfl, fun _ _ _ => rfl, hFL⟩
def svS (g : Nat → ClassId) (nl : Nat) (v : Value) (S : mp_M) : Prop := v = .null ∨ ∃ Av Tv, v = .ref Av.vo ∧ vG g nl Av Tv S
set_option maxHeartbeats 4000000 in
set_option maxRecDepth 100000 in
/-- solve, in few words -/
theorem c_V_solveS (l : Launch) (D : mp_G) (g : Nat → ClassId) (S : mp_M) (sz : Nat) (lo ma hd n nl : Nat) (Av : vA) (Tv : vT) (me mk mn mcap mz : Nat → Nat) (mkf mnf : Nat → Nat → Int32) (hf : Nat → Int32) (h : Nat → m3) (z : Nat → Nat) (mo : Nat → Nat → m3) (co : Nat → Nat → fF) (h_lo : S lo = some (2, .inr (9, [.ref ma, .ref hd, .int (nI n)]))) (h_ma : S ma = some (4, .inl ((g 2), 12, .inr (.inr (.inr (.inr (rfs me 12))))))) (h_hd : S hd = some (5, .inl ((g 0), 12, .inl hf))) (hY : yS g 300 12 me mk mn mcap mz mkf mnf S) (hV : vG g nl Av Tv S) (hB : lsB n h z mo co mcap mz mkf mnf hf) (hnl : nl ≤ 3) (hn1 : 1 ≤ nl) (hIn : ∀ i, i < n → ∀ k, k < z i → InL nl (mo i k)) : Met l y_V_solve w_V_solve ({ frames := 6, cells := 0, slots := 0, locals := 139 }) (va_Pc [.ref Av.vo, .ref lo] (mp_B0 D classes (tys g) S sz)) (va_Qi (fun (r : Int32) (S1 : mp_M) => ∃ T1 : vT, roB n h z mo co nl r T1.s1 T1.zc1 T1.kQ T1.dl T1.CL T1.ZZ T1.MQ ∧ vG g nl Av T1 S1 ∧ (∀ b t e9, S b = some (t, e9) → ((t < 10 ∨ 40 ≤ t)) → ((t < 400 ∨ 700 ≤ t)) → S1 b = some (t, e9))) (mp_B1 D classes S sz) (mp_A S sz)) 0 0 (mp_A S sz) := by
  obtain ⟨h_vo, h_d9, h_ra, h_ka, h_qo, h_ky, h_pr, h_lw, h_ll, h_mu, h_fa, h_nx, h_re, h_so1, h_rq1, h_rp1, h_so2, h_rq2, h_rp2, h_zo, h_fs, h_lz, h_rr, h_rc, h_za, h_mu9, h_po, h_pn, h_pp, h_on, h_na, h_ot, h_ta, hP, hMU, hR1, hR2, hE, hLo, hRR, hZ, hW, hone, tPT, tMU, tFa, tNx, tRe, tρ1, tρ2, tcn, tct, tCF, tCL, hFL⟩ := hV
  refine met_i (c_V_solve l D g S sz Av.vo Av.d9 Av.ra Av.ka Av.qo Av.ky Av.pr Av.lw Av.ll Av.mu Av.fa Av.nx Av.re Av.so1 Av.rq1 Av.rp1 Av.so2 Av.rq2 Av.rp2 Av.zo Av.fs Av.lz Av.rr Av.rc Av.za Av.mu9 Av.po Av.pn Av.pp Av.on Av.na Av.ot Av.ta lo ma hd n nl (tr3 (9 * nl + 1)) Av.fe Av.fz Av.le Av.la Av.kp me mk mn mcap mz mkf mnf hf h z mo co Tv.s1 Tv.kQ Tv.PT Tv.lwf Tv.llf Tv.MU Tv.Fa Tv.Nx Tv.Re Tv.z1 Tv.ρ1 Tv.p1 Tv.z2 Tv.ρ2 Tv.p2 Tv.z3 Tv.dn Tv.cn Tv.dt Tv.ct Tv.dgE Tv.CF Tv.dl Tv.CL Tv.RT Tv.RC Tv.ZZ Tv.MQ Tv.X Tv.W9 Tv.zc1 h_vo h_d9 h_ra h_ka h_qo h_ky h_pr h_lw h_ll h_mu h_fa h_nx h_re h_so1 h_rq1 h_rp1 h_so2 h_rq2 h_rp2 h_zo h_fs h_lz h_rr h_rc h_za h_mu9 h_po h_pn h_pp h_on h_na h_ot h_ta h_lo h_ma h_hd hP hMU hR1 hR2 hE hLo hRR hZ hW hY hB hnl hn1 hFL rfl hIn hone tPT tMU tFa tNx tRe tρ1 tρ2 tcn tct tCF tCL) (fun r S1 hp => ?_)
  obtain ⟨s1_, kQ_, PT_, lwf_, llf_, MU_, Fa_, Nx_, Re_, z1_, ρ1_, p1_, z2_, ρ2_, p2_, z3_, dn_, cn_, dt_, ct_, dgE_, CF_, dl_, CL_, RT_, RC_, ZZ_, MQ_, X_, W9_, zc1_, hro, hone1, tPT_, tMU_, tFa_, tNx_, tRe_, tρ1_, tρ2_, tcn_, tct_, tCF_, tCL_, h_vo_, h_d9_, h_ra_, h_ka_, h_qo_, h_ky_, h_pr_, h_lw_, h_ll_, h_mu_, h_fa_, h_nx_, h_re_, h_so1_, h_rq1_, h_rp1_, h_so2_, h_rq2_, h_rp2_, h_zo_, h_fs_, h_lz_, h_rr_, h_rc_, h_za_, h_mu9_, h_po_, h_pn_, h_pp_, h_on_, h_na_, h_ot_, h_ta_, hP_, hMU_, hR1_, hR2_, hE_, hLo_, hRR_, hZ_, hW_, hfr⟩ := hp
  exact ⟨vTm s1_ kQ_ PT_ lwf_ llf_ MU_ Fa_ Nx_ Re_ z1_ ρ1_ p1_ z2_ ρ2_ p2_ z3_ dn_ cn_ dt_ ct_ dgE_ CF_ dl_ CL_ RT_ RC_ ZZ_ MQ_ X_ W9_ zc1_, hro, ⟨h_vo_, h_d9_, h_ra_, h_ka_, h_qo_, h_ky_, h_pr_, h_lw_, h_ll_, h_mu_, h_fa_, h_nx_, h_re_, h_so1_, h_rq1_, h_rp1_, h_so2_, h_rq2_, h_rp2_, h_zo_, h_fs_, h_lz_, h_rr_, h_rc_, h_za_, h_mu9_, h_po_, h_pn_, h_pp_, h_on_, h_na_, h_ot_, h_ta_, hP_, hMU_, hR1_, hR2_, hE_, hLo_, hRR_, hZ_, hW_, hone1, tPT_, tMU_, tFa_, tNx_, tRe_, tρ1_, tρ2_, tcn_, tct_, tCF_, tCL_, hFL⟩, hfr⟩
set_option maxHeartbeats 4000000 in
set_option maxRecDepth 100000 in
/-- the class: run -/
theorem c_B_run (l : Launch) (D : mp_G) (g : Nat → ClassId) (S : mp_M) (sz : Nat) (o lo ma hd fa0 n nl : Nat) (v1 v4 v5 sv : Value) (fc0 av0 : Int32) (ff : Nat → Int32) (me mk mn mcap mz : Nat → Nat) (mkf mnf : Nat → Nat → Int32) (hf : Nat → Int32) (h : Nat → m3) (z : Nat → Nat) (mo : Nat → Nat → m3) (co : Nat → Nat → fF) (h_o : S o = some (0, .inr (0, [.int (nI nl), v1, .ref lo, .ref fa0, v4, v5, .int fc0, .int 0, .int av0, sv]))) (h_fa0 : S fa0 = some (3, .inl ((g 0), 3, .inl ff))) (h_lo : S lo = some (2, .inr (9, [.ref ma, .ref hd, .int (nI n)]))) (h_ma : S ma = some (4, .inl ((g 2), 12, .inr (.inr (.inr (.inr (rfs me 12))))))) (h_hd : S hd = some (5, .inl ((g 0), 12, .inl hf))) (hY : yS g 300 12 me mk mn mcap mz mkf mnf S) (hsv : svS g nl sv S) (hB : lsB n h z mo co mcap mz mkf mnf hf) (hnl : nl ≤ 3) (hn1 : 1 ≤ nl) (hIn : ∀ i, i < n → ∀ k, k < z i → InL nl (mo i k)) : Met l y_B_run w_B_run ({ frames := 7, cells := 189, slots := 11130, locals := 161 }) (va_Pc [.ref o] (mp_B0 D classes (tys g) S sz)) (va_Qi (fun (r : Int32) (S1 : mp_M) => ∃ (Av1 : vA) (T1 : vT) (ff1 : Nat → Int32), roB n h z mo co nl r T1.s1 T1.zc1 T1.kQ T1.dl T1.CL T1.ZZ T1.MQ ∧ frS (bndL n (fun i => (h i).1) (fun i => (h i).2.1) (fun i => (h i).2.2)) nl ff1 ∧ S1 o = some (0, .inr (0, [.int (nI nl), v1, .ref lo, .ref fa0, v4, v5, .int (nI (cntF (bndL n (fun i => (h i).1) (fun i => (h i).2.1) (fun i => (h i).2.2)) nl)), .int 1, .int r, .ref Av1.vo])) ∧ S1 fa0 = some (3, .inl ((g 0), 3, .inl ff1)) ∧ vG g nl Av1 T1 S1 ∧ (∀ b t e9, S b = some (t, e9) → (t ≠ 0) → (t ≠ 3) → ((t < 10 ∨ 40 ≤ t)) → ((t < 400 ∨ 700 ≤ t)) → S1 b = some (t, e9))) (mp_B1 D classes S sz) (mp_A S sz)) 189 11130 (mp_A S sz) := by
  refine Met.ofW (cc := b_B_run) (maxL := 1) (ret := (some .int)) (by decide) rfl ?_
  intro p e s m args below meth c s₁ B hml hv
  obtain ⟨rfl, hsz, hH, hK⟩ := hv
  have hx := B.exec
  have hb := B.bytes
  have hr := B.returns
  have hts := atoms_spec (ws := w_B_run) B.pre
  have hg : ∀ w ∈ gw, w.before _ s = true := fun w h => hts w (List.mem_cons_of_mem _ h)
  have hown : s.vm.findClass R_B = some m.cls := findClass_of_methodNamed B.named
  have hlocks := B.notSynchronized
  subst hsz
  have hI := mp_I.start hH
  have hl := lv_entry ([.ref o]) (n := 1) (Nat.le_of_ble_eq_true rfl)
  rw [lg_entry_eq]
  generalize (lg_sl ([.ref o]) ++ List.replicate (1 - (lg_sl ([.ref o])).length) Slot.unset).toArray = ls at hl ⊢
  have hl : lv_has ls 1 [(0, .ref o)] := hl
  have hfr : ∀ b t e9, S b = some (t, e9) → (t ≠ 0) → (t ≠ 3) → ((t < 10 ∨ 40 ≤ t)) → ((t < 400 ∨ 700 ≤ t)) → S b = some (t, e9) := fun _ _ _ h9 _ _ _ _ => h9
  refine lv_aload_n hx hb d_B_run_0 rfl (lv_at hl 0 rfl) ?_
  refine mp_get (C := R_B) (T := F_B) (N := 10) (v := .int 0) hx hb hg i_B hown hK.va hI h_o rfl 7 (by decide) (hg _ q_89) (fun _ h9 => h9) rfl d_B_run_1 ?_
  refine lv_if_ne (tgt := 53) hx hb d_B_run_4 (by decide) (fun h9 => absurd h9 (by decide)) (fun _ => ?_)
  rcases hsv with rfl | ⟨Av, Tv, rfl, hV⟩
  · refine lv_aload_n hx hb d_B_run_7 rfl (lv_at hl 0 rfl) ?_
    refine mp_get (C := R_B) (T := F_B) (N := 10) (v := .null) hx hb hg i_B hown hK.va hI h_o rfl 9 (by decide) (hg _ q_91) (fun _ h9 => h9) rfl d_B_run_8 ?_
    refine lv_ifnonnullN hx hb d_B_run_11 ?_
    refine lv_aload_n hx hb d_B_run_14 rfl (lv_at hl 0 rfl) ?_
    have hI0 := hI
    refine mp_new (C := R_V) (T := F_V) (N := 11) (ci := 7) (fs := [.int 0, .null, .null, .null, .null, .null, .null, .null, .null, .int 0, .null]) hx hb hg i_V t_V t_V_ok hown (hg _ q_117) (hg _ q_118) (hg _ q_16) hK.va hI 10 rfl (fun j hj => by rcases (show j = 0 ∨ j = 1 ∨ j = 2 ∨ j = 3 ∨ j = 4 ∨ j = 5 ∨ j = 6 ∨ j = 7 ∨ j = 8 ∨ j = 9 ∨ j = 10 by omega) with rfl | rfl | rfl | rfl | rfl | rfl | rfl | rfl | rfl | rfl | rfl <;> rfl) (Nat.le_of_ble_eq_true rfl) (Nat.le_of_ble_eq_true rfl) d_B_run_15 (fun S1 H2 z_4 e_3 hI => ?_)
    obtain ⟨a5, ea5⟩ : ∃ z, z = s.heap.size := ⟨_, rfl⟩
    have g_a5 : s.heap.size ≤ a5 := by rw [ea5]; exact hI0.2.2.1.1
    rw [← ea5] at z_4 e_3
    refine W.eq (g2 := F0 m 18 ls [.ref a5, .ref o]) (by rw [ea5]) ?_
    have h_o : S1 o = some (0, .inr (0, [.int (nI nl), v1, .ref lo, .ref fa0, v4, v5, .int fc0, .int 0, .int av0, .null])) := by rw [e_3]; exact mp_keepN h_o z_4
    have h_fa0 : S1 fa0 = some (3, .inl ((g 0), 3, .inl ff)) := by rw [e_3]; exact mp_keepN h_fa0 z_4
    have h_lo : S1 lo = some (2, .inr (9, [.ref ma, .ref hd, .int (nI n)])) := by rw [e_3]; exact mp_keepN h_lo z_4
    have h_ma : S1 ma = some (4, .inl ((g 2), 12, .inr (.inr (.inr (.inr (rfs me 12)))))) := by rw [e_3]; exact mp_keepN h_ma z_4
    have h_hd : S1 hd = some (5, .inl ((g 0), 12, .inl hf)) := by rw [e_3]; exact mp_keepN h_hd z_4
    have h_6 : S1 a5 = some (10, .inr (7, [.int 0, .null, .null, .null, .null, .null, .null, .null, .null, .int 0, .null])) := by rw [e_3]; exact mp_us _ _ _
    have hY := yS_kept hY (S1 := S1) (fun b t9 e9 hb9 h1 h2 => by rw [e_3]; exact mp_un (fun z9 => by rw [z9, z_4] at hb9; cases hb9))
    have hfr : ∀ b t e9, S b = some (t, e9) → (t ≠ 0) → (t ≠ 3) → ((t < 10 ∨ 40 ≤ t)) → ((t < 400 ∨ 700 ≤ t)) → S1 b = some (t, e9) := fun b t e9 h9 k0 k1 k2 k3 => by rw [e_3]; exact mp_keepN (hfr b t e9 h9 k0 k1 k2 k3) z_4
    refine lv_dup hx hb d_B_run_18 rfl ?_
    refine lv_aload_n hx hb d_B_run_19 rfl (lv_at hl 0 rfl) ?_
    refine mp_get (C := R_B) (T := F_B) (N := 10) (v := .int (nI nl)) hx hb hg i_B hown hK.va hI h_o rfl 0 (by decide) (hg _ q_82) (fun _ h9 => h9) rfl d_B_run_20 ?_
    refine mp_callv hI (va_runI (As := [.int (nI nl)]) (rest := [.ref a5, .ref o]) ⟨hx, hb, hml, hown, hg⟩ (c_V_init l D g S1 _ a5 nl h_6 hnl) ⟨(callB_of 1 hg (wd_goodG q_121) rfl rfl rfl (hg _ q_16) (hg _ q_119) (by decide +kernel) ⟨Nat.le_of_ble_eq_true rfl, Nat.le_of_ble_eq_true rfl⟩), rfl, hg _ q_120⟩ (mp_pre hI hK ([.ref a5, .int (nI nl)])) rfl rfl hl.1 rfl (lv_room (Nat.le_of_ble_eq_true rfl)) d_B_run_23 ⟨Nat.le_of_ble_eq_true rfl, Nat.le_of_ble_eq_true rfl⟩) (fun S7 H8 locs p_9 hI => ?_)
    obtain ⟨ad, eo, ea, lo9, la9, kp, hvF, fv⟩ := p_9
    obtain ⟨Av, Tv, hAv, hV⟩ : ∃ Av Tv, Av.vo = a5 ∧ vG g nl Av Tv S7 := ⟨_, _, rfl, vG_new hn1 hvF⟩
    have hv_o := hvF.1
    have h_o : S7 o = some (0, .inr (0, [.int (nI nl), v1, .ref lo, .ref fa0, v4, v5, .int fc0, .int 0, .int av0, .null])) := (fv o (mp_in h_o) (mp_ne h_o h_6 (by omega))).trans h_o
    have h_fa0 : S7 fa0 = some (3, .inl ((g 0), 3, .inl ff)) := (fv fa0 (mp_in h_fa0) (mp_ne h_fa0 h_6 (by omega))).trans h_fa0
    have h_lo : S7 lo = some (2, .inr (9, [.ref ma, .ref hd, .int (nI n)])) := (fv lo (mp_in h_lo) (mp_ne h_lo h_6 (by omega))).trans h_lo
    have h_ma : S7 ma = some (4, .inl ((g 2), 12, .inr (.inr (.inr (.inr (rfs me 12)))))) := (fv ma (mp_in h_ma) (mp_ne h_ma h_6 (by omega))).trans h_ma
    have h_hd : S7 hd = some (5, .inl ((g 0), 12, .inl hf)) := (fv hd (mp_in h_hd) (mp_ne h_hd h_6 (by omega))).trans h_hd
    have hfr : ∀ b t e9, S b = some (t, e9) → (t ≠ 0) → (t ≠ 3) → ((t < 10 ∨ 40 ≤ t)) → ((t < 400 ∨ 700 ≤ t)) → S7 b = some (t, e9) := fun b t e9 h9 k0 k1 k2 k3 => by have h8 := hfr b t e9 h9 k0 k1 k2 k3; exact (fv b (mp_in h8) (mp_ne h8 h_6 (by omega))).trans h8
    have hY := yS_kept hY (S1 := S7) (fun b t9 e9 hb9 h1 h2 => by have h8 : S7 b = some (t9, e9) := (fv b (mp_in hb9) (mp_ne hb9 h_6 (by omega))).trans hb9; rw [h8, hb9])
    refine mp_put (C := R_B) (T := F_B) (N := 10) (v := .ref a5) (ty := .object "SolutionBoxes$Solver") hx hb hg i_B t_B t_B_ok n_B hown hK.va hI h_o rfl 9 (by decide) (hg _ q_91) (fun _ h9 => h9) rfl (by decide +kernel) (rfl) rfl (Nat.le_of_ble_eq_true rfl) d_B_run_26 (fun S11 H12 locs e_13 hI => ?_)
    have h_o_o := h_o
    have e_13 : S11 = va_up S7 o (some (0, .inr (0, [.int (nI nl), v1, .ref lo, .ref fa0, v4, v5, .int fc0, .int 0, .int av0, .ref a5]))) := e_13
    have h_o_o := h_o
    have h_fa0 : S11 fa0 = some (3, .inl ((g 0), 3, .inl ff)) := by rw [e_13]; exact mp_keep h_fa0 h_o (by decide)
    have h_lo : S11 lo = some (2, .inr (9, [.ref ma, .ref hd, .int (nI n)])) := by rw [e_13]; exact mp_keep h_lo h_o (by decide)
    have h_ma : S11 ma = some (4, .inl ((g 2), 12, .inr (.inr (.inr (.inr (rfs me 12)))))) := by rw [e_13]; exact mp_keep h_ma h_o (by decide)
    have h_hd : S11 hd = some (5, .inl ((g 0), 12, .inl hf)) := by rw [e_13]; exact mp_keep h_hd h_o (by decide)
    have hv_o : S11 a5 = some (10, .inr (7, [.int (nI nl), .ref (ad 11), .ref (ad 14), .ref (ad 30), .ref (ad 32), .ref (ad 33), .ref (ad 34), .ref (ad 35), .ref (ad 36), .int 0, .ref (ad 37)])) := by rw [e_13]; exact mp_keep hv_o h_o (by decide)
    have h_o : S11 o = some (0, .inr (0, [.int (nI nl), v1, .ref lo, .ref fa0, v4, v5, .int fc0, .int 0, .int av0, .ref a5])) := by rw [e_13]; exact mp_us _ _ _
    have hY := yS_kept hY (S1 := S11) (fun b t9 e9 hb9 h1 h2 => by rw [e_13]; exact mp_un (mp_ne hb9 h_o_o (by omega)))
    have hV := vG_kept hV (S1 := S11) (fun b t9 e9 hb9 h1 h2 => by rw [e_13]; exact mp_un (mp_ne hb9 h_o_o (by omega)))
    have hfr : ∀ b t e9, S b = some (t, e9) → (t ≠ 0) → (t ≠ 3) → ((t < 10 ∨ 40 ≤ t)) → ((t < 400 ∨ 700 ≤ t)) → S11 b = some (t, e9) := fun b t e9 h9 k0 k1 k2 k3 => by rw [e_13]; exact mp_keep (hfr b t e9 h9 k0 k1 k2 k3) h_o_o (by omega)
    rw [← hAv] at h_o
    refine lv_aload_n hx hb d_B_run_29 rfl (lv_at hl 0 rfl) ?_
    refine mp_callv hI (va_runV (As := []) (rest := []) ⟨hx, hb, hml, hown, hg⟩ (c_B_note l D g S11 _ o lo hd fa0 n nl v1 v4 v5 (.int 0) (.int av0) (.ref Av.vo) (.ref ma) fc0 ff hf (fun i => (h i).1) (fun i => (h i).2.1) (fun i => (h i).2.2) h_o h_lo h_hd h_fa0 (lsB_hd hB) hB.2.1 hnl) ⟨(callB_of 0 hg (wd_goodG q_302) rfl rfl rfl (hg _ q_1) (hg _ q_299) (by decide +kernel) ⟨Nat.le_of_ble_eq_true rfl, Nat.le_of_ble_eq_true rfl⟩), hg _ q_301, hg _ qs_0⟩ (mp_preV (C := R_B) (T := F_B) hI hK h_o rfl []) rfl rfl hl.1 rfl (lv_room (Nat.le_of_ble_eq_true rfl)) d_B_run_30 ⟨Nat.le_of_ble_eq_true rfl, Nat.le_of_ble_eq_true rfl⟩) (fun S14 H15 locs p_16 hI => ?_)
    obtain ⟨ff1, hfrS, q_o, q_fa0, fq⟩ := p_16
    have h_lo : S14 lo = some (2, .inr (9, [.ref ma, .ref hd, .int (nI n)])) := (fq lo (mp_in h_lo) (mp_ne h_lo h_o (by omega)) (mp_ne h_lo h_fa0 (by omega))).trans h_lo
    have h_ma : S14 ma = some (4, .inl ((g 2), 12, .inr (.inr (.inr (.inr (rfs me 12)))))) := (fq ma (mp_in h_ma) (mp_ne h_ma h_o (by omega)) (mp_ne h_ma h_fa0 (by omega))).trans h_ma
    have h_hd : S14 hd = some (5, .inl ((g 0), 12, .inl hf)) := (fq hd (mp_in h_hd) (mp_ne h_hd h_o (by omega)) (mp_ne h_hd h_fa0 (by omega))).trans h_hd
    have hfr : ∀ b t e9, S b = some (t, e9) → (t ≠ 0) → (t ≠ 3) → ((t < 10 ∨ 40 ≤ t)) → ((t < 400 ∨ 700 ≤ t)) → S14 b = some (t, e9) := fun b t e9 h9 k0 k1 k2 k3 => by have h8 := hfr b t e9 h9 k0 k1 k2 k3; exact (fq b (mp_in h8) (mp_ne h8 h_o (by omega)) (mp_ne h8 h_fa0 (by omega))).trans h8
    have hY := yS_kept hY (S1 := S14) (fun b t9 e9 hb9 h1 h2 => by have h8 : S14 b = some (t9, e9) := (fq b (mp_in hb9) (mp_ne hb9 h_o (by omega)) (mp_ne hb9 h_fa0 (by omega))).trans hb9; rw [h8, hb9])
    have hV := vG_kept hV (S1 := S14) (fun b t9 e9 hb9 h1 h2 => by have h8 : S14 b = some (t9, e9) := (fq b (mp_in hb9) (mp_ne hb9 h_o (by omega)) (mp_ne hb9 h_fa0 (by omega))).trans hb9; rw [h8, hb9])
    have h_o := q_o
    have h_fa0 := q_fa0
    refine lv_aload_n hx hb d_B_run_33 rfl (lv_at hl 0 rfl) ?_
    refine lv_aload_n hx hb d_B_run_34 rfl (lv_at hl 0 rfl) ?_
    refine mp_get (C := R_B) (T := F_B) (N := 10) (v := .ref Av.vo) hx hb hg i_B hown hK.va hI h_o rfl 9 (by decide) (hg _ q_91) (fun _ h9 => h9) rfl d_B_run_35 ?_
    refine lv_aload_n hx hb d_B_run_38 rfl (lv_at hl 0 rfl) ?_
    refine mp_get (C := R_B) (T := F_B) (N := 10) (v := .ref lo) hx hb hg i_B hown hK.va hI h_o rfl 2 (by decide) (hg _ q_84) (fun _ h9 => h9) rfl d_B_run_39 ?_
    have h_vo := hV.1
    refine mp_calli hI (va_runV (As := [.ref lo]) (rest := [.ref o]) ⟨hx, hb, hml, hown, hg⟩ (c_V_solveS l D g S14 _ lo ma hd n nl Av _ me mk mn mcap mz mkf mnf hf h z mo co h_lo h_ma h_hd hY hV hB hnl hn1 hIn) ⟨(callB_of 1 hg (wd_goodG q_316) rfl rfl rfl (hg _ q_16) (hg _ q_313) (by decide +kernel) ⟨Nat.le_of_ble_eq_true rfl, Nat.le_of_ble_eq_true rfl⟩), hg _ q_314, hg _ q_315⟩ (mp_preV (C := R_V) (T := F_V) hI hK h_vo rfl [.ref lo]) rfl rfl hl.1 rfl (lv_room (Nat.le_of_ble_eq_true rfl)) d_B_run_42 ⟨Nat.le_of_ble_eq_true rfl, Nat.le_of_ble_eq_true rfl⟩) (fun r21 S18 H19 locs p_20 hI => ?_)
    obtain ⟨T1, hro, q_V, fq⟩ := p_20
    have h_o : S18 o = some (0, .inr (0, [.int (nI nl), v1, .ref lo, .ref fa0, v4, v5, .int (nI (cntF (bndL n (fun i => (h i).1) (fun i => (h i).2.1) (fun i => (h i).2.2)) nl)), .int 0, .int av0, .ref Av.vo])) := fq o _ _ h_o (by omega) (by omega)
    have h_fa0 : S18 fa0 = some (3, .inl ((g 0), 3, .inl ff1)) := fq fa0 _ _ h_fa0 (by omega) (by omega)
    have h_lo : S18 lo = some (2, .inr (9, [.ref ma, .ref hd, .int (nI n)])) := fq lo _ _ h_lo (by omega) (by omega)
    have h_ma : S18 ma = some (4, .inl ((g 2), 12, .inr (.inr (.inr (.inr (rfs me 12)))))) := fq ma _ _ h_ma (by omega) (by omega)
    have h_hd : S18 hd = some (5, .inl ((g 0), 12, .inl hf)) := fq hd _ _ h_hd (by omega) (by omega)
    have hfr : ∀ b t e9, S b = some (t, e9) → (t ≠ 0) → (t ≠ 3) → ((t < 10 ∨ 40 ≤ t)) → ((t < 400 ∨ 700 ≤ t)) → S18 b = some (t, e9) := fun b t e9 h9 k0 k1 k2 k3 => by have h8 := hfr b t e9 h9 k0 k1 k2 k3; exact fq b _ _ h8 (by omega) (by omega)
    have hY := yS_kept hY (S1 := S18) (fun b t9 e9 hb9 h1 h2 => by have h8 : S18 b = some (t9, e9) := fq b _ _ hb9 (by omega) (by omega); rw [h8, hb9])
    have hV := q_V
    refine mp_put (C := R_B) (T := F_B) (N := 10) (v := .int r21) (ty := .int) hx hb hg i_B t_B t_B_ok n_B hown hK.va hI h_o rfl 8 (by decide) (hg _ q_90) (fun _ h9 => h9) rfl (by decide +kernel) (rfl) rfl (Nat.le_of_ble_eq_true rfl) d_B_run_45 (fun S22 H23 locs e_24 hI => ?_)
    have h_o_o := h_o
    have e_24 : S22 = va_up S18 o (some (0, .inr (0, [.int (nI nl), v1, .ref lo, .ref fa0, v4, v5, .int (nI (cntF (bndL n (fun i => (h i).1) (fun i => (h i).2.1) (fun i => (h i).2.2)) nl)), .int 0, .int r21, .ref Av.vo]))) := e_24
    have h_o_o := h_o
    have h_fa0 : S22 fa0 = some (3, .inl ((g 0), 3, .inl ff1)) := by rw [e_24]; exact mp_keep h_fa0 h_o (by decide)
    have h_lo : S22 lo = some (2, .inr (9, [.ref ma, .ref hd, .int (nI n)])) := by rw [e_24]; exact mp_keep h_lo h_o (by decide)
    have h_ma : S22 ma = some (4, .inl ((g 2), 12, .inr (.inr (.inr (.inr (rfs me 12)))))) := by rw [e_24]; exact mp_keep h_ma h_o (by decide)
    have h_hd : S22 hd = some (5, .inl ((g 0), 12, .inl hf)) := by rw [e_24]; exact mp_keep h_hd h_o (by decide)
    have h_o : S22 o = some (0, .inr (0, [.int (nI nl), v1, .ref lo, .ref fa0, v4, v5, .int (nI (cntF (bndL n (fun i => (h i).1) (fun i => (h i).2.1) (fun i => (h i).2.2)) nl)), .int 0, .int r21, .ref Av.vo])) := by rw [e_24]; exact mp_us _ _ _
    have hY := yS_kept hY (S1 := S22) (fun b t9 e9 hb9 h1 h2 => by rw [e_24]; exact mp_un (mp_ne hb9 h_o_o (by omega)))
    have hV := vG_kept hV (S1 := S22) (fun b t9 e9 hb9 h1 h2 => by rw [e_24]; exact mp_un (mp_ne hb9 h_o_o (by omega)))
    have hfr : ∀ b t e9, S b = some (t, e9) → (t ≠ 0) → (t ≠ 3) → ((t < 10 ∨ 40 ≤ t)) → ((t < 400 ∨ 700 ≤ t)) → S22 b = some (t, e9) := fun b t e9 h9 k0 k1 k2 k3 => by rw [e_24]; exact mp_keep (hfr b t e9 h9 k0 k1 k2 k3) h_o_o (by omega)
    refine lv_aload_n hx hb d_B_run_48 rfl (lv_at hl 0 rfl) ?_
    refine lv_iconst (v := nI 1) hx hb d_B_run_49 (by decide) ?_
    refine mp_put (C := R_B) (T := F_B) (N := 10) (v := .int (nI 1)) (ty := .boolean) hx hb hg i_B t_B t_B_ok n_B hown hK.va hI h_o rfl 7 (by decide) (hg _ q_89) (fun _ h9 => h9) rfl (by decide +kernel) (rfl) rfl (Nat.le_of_ble_eq_true rfl) d_B_run_50 (fun S25 H26 locs e_27 hI => ?_)
    have h_o_o := h_o
    have e_27 : S25 = va_up S22 o (some (0, .inr (0, [.int (nI nl), v1, .ref lo, .ref fa0, v4, v5, .int (nI (cntF (bndL n (fun i => (h i).1) (fun i => (h i).2.1) (fun i => (h i).2.2)) nl)), .int (nI 1), .int r21, .ref Av.vo]))) := e_27
    have h_o_o := h_o
    have h_fa0 : S25 fa0 = some (3, .inl ((g 0), 3, .inl ff1)) := by rw [e_27]; exact mp_keep h_fa0 h_o (by decide)
    have h_lo : S25 lo = some (2, .inr (9, [.ref ma, .ref hd, .int (nI n)])) := by rw [e_27]; exact mp_keep h_lo h_o (by decide)
    have h_ma : S25 ma = some (4, .inl ((g 2), 12, .inr (.inr (.inr (.inr (rfs me 12)))))) := by rw [e_27]; exact mp_keep h_ma h_o (by decide)
    have h_hd : S25 hd = some (5, .inl ((g 0), 12, .inl hf)) := by rw [e_27]; exact mp_keep h_hd h_o (by decide)
    have h_o : S25 o = some (0, .inr (0, [.int (nI nl), v1, .ref lo, .ref fa0, v4, v5, .int (nI (cntF (bndL n (fun i => (h i).1) (fun i => (h i).2.1) (fun i => (h i).2.2)) nl)), .int (nI 1), .int r21, .ref Av.vo])) := by rw [e_27]; exact mp_us _ _ _
    have hY := yS_kept hY (S1 := S25) (fun b t9 e9 hb9 h1 h2 => by rw [e_27]; exact mp_un (mp_ne hb9 h_o_o (by omega)))
    have hV := vG_kept hV (S1 := S25) (fun b t9 e9 hb9 h1 h2 => by rw [e_27]; exact mp_un (mp_ne hb9 h_o_o (by omega)))
    have hfr : ∀ b t e9, S b = some (t, e9) → (t ≠ 0) → (t ≠ 3) → ((t < 10 ∨ 40 ≤ t)) → ((t < 400 ∨ 700 ≤ t)) → S25 b = some (t, e9) := fun b t e9 h9 k0 k1 k2 k3 => by rw [e_27]; exact mp_keep (hfr b t e9 h9 k0 k1 k2 k3) h_o_o (by omega)
    refine lv_aload_n hx hb d_B_run_53 rfl (lv_at hl 0 rfl) ?_
    refine mp_get (C := R_B) (T := F_B) (N := 10) (v := .int r21) hx hb hg i_B hown hK.va hI h_o rfl 8 (by decide) (hg _ q_90) (fun _ h9 => h9) rfl d_B_run_54 ?_
    refine mp_iret hx hb hr hlocks hI (Nat.le_of_ble_eq_true rfl) (Nat.le_of_ble_eq_true rfl) ?_ d_B_run_57
    exact ⟨Av, T1, ff1, hro, hfrS, h_o, h_fa0, hV, hfr⟩
  · refine lv_aload_n hx hb d_B_run_7 rfl (lv_at hl 0 rfl) ?_
    refine mp_get (C := R_B) (T := F_B) (N := 10) (v := .ref Av.vo) hx hb hg i_B hown hK.va hI h_o rfl 9 (by decide) (hg _ q_91) (fun _ h9 => h9) rfl d_B_run_8 ?_
    refine lv_ifnonnull (tgt := 29) hx hb d_B_run_11 (by decide) ?_
    refine lv_aload_n hx hb d_B_run_29 rfl (lv_at hl 0 rfl) ?_
    refine mp_callv hI (va_runV (As := []) (rest := []) ⟨hx, hb, hml, hown, hg⟩ (c_B_note l D g S _ o lo hd fa0 n nl v1 v4 v5 (.int 0) (.int av0) (.ref Av.vo) (.ref ma) fc0 ff hf (fun i => (h i).1) (fun i => (h i).2.1) (fun i => (h i).2.2) h_o h_lo h_hd h_fa0 (lsB_hd hB) hB.2.1 hnl) ⟨(callB_of 0 hg (wd_goodG q_302) rfl rfl rfl (hg _ q_1) (hg _ q_299) (by decide +kernel) ⟨Nat.le_of_ble_eq_true rfl, Nat.le_of_ble_eq_true rfl⟩), hg _ q_301, hg _ qs_0⟩ (mp_preV (C := R_B) (T := F_B) hI hK h_o rfl []) rfl rfl hl.1 rfl (lv_room (Nat.le_of_ble_eq_true rfl)) d_B_run_30 ⟨Nat.le_of_ble_eq_true rfl, Nat.le_of_ble_eq_true rfl⟩) (fun S28 H29 locs p_30 hI => ?_)
    obtain ⟨ff1, hfrS, q_o, q_fa0, fq⟩ := p_30
    have h_lo : S28 lo = some (2, .inr (9, [.ref ma, .ref hd, .int (nI n)])) := (fq lo (mp_in h_lo) (mp_ne h_lo h_o (by omega)) (mp_ne h_lo h_fa0 (by omega))).trans h_lo
    have h_ma : S28 ma = some (4, .inl ((g 2), 12, .inr (.inr (.inr (.inr (rfs me 12)))))) := (fq ma (mp_in h_ma) (mp_ne h_ma h_o (by omega)) (mp_ne h_ma h_fa0 (by omega))).trans h_ma
    have h_hd : S28 hd = some (5, .inl ((g 0), 12, .inl hf)) := (fq hd (mp_in h_hd) (mp_ne h_hd h_o (by omega)) (mp_ne h_hd h_fa0 (by omega))).trans h_hd
    have hfr : ∀ b t e9, S b = some (t, e9) → (t ≠ 0) → (t ≠ 3) → ((t < 10 ∨ 40 ≤ t)) → ((t < 400 ∨ 700 ≤ t)) → S28 b = some (t, e9) := fun b t e9 h9 k0 k1 k2 k3 => by have h8 := hfr b t e9 h9 k0 k1 k2 k3; exact (fq b (mp_in h8) (mp_ne h8 h_o (by omega)) (mp_ne h8 h_fa0 (by omega))).trans h8
    have hY := yS_kept hY (S1 := S28) (fun b t9 e9 hb9 h1 h2 => by have h8 : S28 b = some (t9, e9) := (fq b (mp_in hb9) (mp_ne hb9 h_o (by omega)) (mp_ne hb9 h_fa0 (by omega))).trans hb9; rw [h8, hb9])
    have hV := vG_kept hV (S1 := S28) (fun b t9 e9 hb9 h1 h2 => by have h8 : S28 b = some (t9, e9) := (fq b (mp_in hb9) (mp_ne hb9 h_o (by omega)) (mp_ne hb9 h_fa0 (by omega))).trans hb9; rw [h8, hb9])
    have h_o := q_o
    have h_fa0 := q_fa0
    refine lv_aload_n hx hb d_B_run_33 rfl (lv_at hl 0 rfl) ?_
    refine lv_aload_n hx hb d_B_run_34 rfl (lv_at hl 0 rfl) ?_
    refine mp_get (C := R_B) (T := F_B) (N := 10) (v := .ref Av.vo) hx hb hg i_B hown hK.va hI h_o rfl 9 (by decide) (hg _ q_91) (fun _ h9 => h9) rfl d_B_run_35 ?_
    refine lv_aload_n hx hb d_B_run_38 rfl (lv_at hl 0 rfl) ?_
    refine mp_get (C := R_B) (T := F_B) (N := 10) (v := .ref lo) hx hb hg i_B hown hK.va hI h_o rfl 2 (by decide) (hg _ q_84) (fun _ h9 => h9) rfl d_B_run_39 ?_
    have h_vo := hV.1
    refine mp_calli hI (va_runV (As := [.ref lo]) (rest := [.ref o]) ⟨hx, hb, hml, hown, hg⟩ (c_V_solveS l D g S28 _ lo ma hd n nl Av _ me mk mn mcap mz mkf mnf hf h z mo co h_lo h_ma h_hd hY hV hB hnl hn1 hIn) ⟨(callB_of 1 hg (wd_goodG q_316) rfl rfl rfl (hg _ q_16) (hg _ q_313) (by decide +kernel) ⟨Nat.le_of_ble_eq_true rfl, Nat.le_of_ble_eq_true rfl⟩), hg _ q_314, hg _ q_315⟩ (mp_preV (C := R_V) (T := F_V) hI hK h_vo rfl [.ref lo]) rfl rfl hl.1 rfl (lv_room (Nat.le_of_ble_eq_true rfl)) d_B_run_42 ⟨Nat.le_of_ble_eq_true rfl, Nat.le_of_ble_eq_true rfl⟩) (fun r35 S32 H33 locs p_34 hI => ?_)
    obtain ⟨T1, hro, q_V, fq⟩ := p_34
    have h_o : S32 o = some (0, .inr (0, [.int (nI nl), v1, .ref lo, .ref fa0, v4, v5, .int (nI (cntF (bndL n (fun i => (h i).1) (fun i => (h i).2.1) (fun i => (h i).2.2)) nl)), .int 0, .int av0, .ref Av.vo])) := fq o _ _ h_o (by omega) (by omega)
    have h_fa0 : S32 fa0 = some (3, .inl ((g 0), 3, .inl ff1)) := fq fa0 _ _ h_fa0 (by omega) (by omega)
    have h_lo : S32 lo = some (2, .inr (9, [.ref ma, .ref hd, .int (nI n)])) := fq lo _ _ h_lo (by omega) (by omega)
    have h_ma : S32 ma = some (4, .inl ((g 2), 12, .inr (.inr (.inr (.inr (rfs me 12)))))) := fq ma _ _ h_ma (by omega) (by omega)
    have h_hd : S32 hd = some (5, .inl ((g 0), 12, .inl hf)) := fq hd _ _ h_hd (by omega) (by omega)
    have hfr : ∀ b t e9, S b = some (t, e9) → (t ≠ 0) → (t ≠ 3) → ((t < 10 ∨ 40 ≤ t)) → ((t < 400 ∨ 700 ≤ t)) → S32 b = some (t, e9) := fun b t e9 h9 k0 k1 k2 k3 => by have h8 := hfr b t e9 h9 k0 k1 k2 k3; exact fq b _ _ h8 (by omega) (by omega)
    have hY := yS_kept hY (S1 := S32) (fun b t9 e9 hb9 h1 h2 => by have h8 : S32 b = some (t9, e9) := fq b _ _ hb9 (by omega) (by omega); rw [h8, hb9])
    have hV := q_V
    refine mp_put (C := R_B) (T := F_B) (N := 10) (v := .int r35) (ty := .int) hx hb hg i_B t_B t_B_ok n_B hown hK.va hI h_o rfl 8 (by decide) (hg _ q_90) (fun _ h9 => h9) rfl (by decide +kernel) (rfl) rfl (Nat.le_of_ble_eq_true rfl) d_B_run_45 (fun S36 H37 locs e_38 hI => ?_)
    have h_o_o := h_o
    have e_38 : S36 = va_up S32 o (some (0, .inr (0, [.int (nI nl), v1, .ref lo, .ref fa0, v4, v5, .int (nI (cntF (bndL n (fun i => (h i).1) (fun i => (h i).2.1) (fun i => (h i).2.2)) nl)), .int 0, .int r35, .ref Av.vo]))) := e_38
    have h_o_o := h_o
    have h_fa0 : S36 fa0 = some (3, .inl ((g 0), 3, .inl ff1)) := by rw [e_38]; exact mp_keep h_fa0 h_o (by decide)
    have h_lo : S36 lo = some (2, .inr (9, [.ref ma, .ref hd, .int (nI n)])) := by rw [e_38]; exact mp_keep h_lo h_o (by decide)
    have h_ma : S36 ma = some (4, .inl ((g 2), 12, .inr (.inr (.inr (.inr (rfs me 12)))))) := by rw [e_38]; exact mp_keep h_ma h_o (by decide)
    have h_hd : S36 hd = some (5, .inl ((g 0), 12, .inl hf)) := by rw [e_38]; exact mp_keep h_hd h_o (by decide)
    have h_o : S36 o = some (0, .inr (0, [.int (nI nl), v1, .ref lo, .ref fa0, v4, v5, .int (nI (cntF (bndL n (fun i => (h i).1) (fun i => (h i).2.1) (fun i => (h i).2.2)) nl)), .int 0, .int r35, .ref Av.vo])) := by rw [e_38]; exact mp_us _ _ _
    have hY := yS_kept hY (S1 := S36) (fun b t9 e9 hb9 h1 h2 => by rw [e_38]; exact mp_un (mp_ne hb9 h_o_o (by omega)))
    have hV := vG_kept hV (S1 := S36) (fun b t9 e9 hb9 h1 h2 => by rw [e_38]; exact mp_un (mp_ne hb9 h_o_o (by omega)))
    have hfr : ∀ b t e9, S b = some (t, e9) → (t ≠ 0) → (t ≠ 3) → ((t < 10 ∨ 40 ≤ t)) → ((t < 400 ∨ 700 ≤ t)) → S36 b = some (t, e9) := fun b t e9 h9 k0 k1 k2 k3 => by rw [e_38]; exact mp_keep (hfr b t e9 h9 k0 k1 k2 k3) h_o_o (by omega)
    refine lv_aload_n hx hb d_B_run_48 rfl (lv_at hl 0 rfl) ?_
    refine lv_iconst (v := nI 1) hx hb d_B_run_49 (by decide) ?_
    refine mp_put (C := R_B) (T := F_B) (N := 10) (v := .int (nI 1)) (ty := .boolean) hx hb hg i_B t_B t_B_ok n_B hown hK.va hI h_o rfl 7 (by decide) (hg _ q_89) (fun _ h9 => h9) rfl (by decide +kernel) (rfl) rfl (Nat.le_of_ble_eq_true rfl) d_B_run_50 (fun S39 H40 locs e_41 hI => ?_)
    have h_o_o := h_o
    have e_41 : S39 = va_up S36 o (some (0, .inr (0, [.int (nI nl), v1, .ref lo, .ref fa0, v4, v5, .int (nI (cntF (bndL n (fun i => (h i).1) (fun i => (h i).2.1) (fun i => (h i).2.2)) nl)), .int (nI 1), .int r35, .ref Av.vo]))) := e_41
    have h_o_o := h_o
    have h_fa0 : S39 fa0 = some (3, .inl ((g 0), 3, .inl ff1)) := by rw [e_41]; exact mp_keep h_fa0 h_o (by decide)
    have h_lo : S39 lo = some (2, .inr (9, [.ref ma, .ref hd, .int (nI n)])) := by rw [e_41]; exact mp_keep h_lo h_o (by decide)
    have h_ma : S39 ma = some (4, .inl ((g 2), 12, .inr (.inr (.inr (.inr (rfs me 12)))))) := by rw [e_41]; exact mp_keep h_ma h_o (by decide)
    have h_hd : S39 hd = some (5, .inl ((g 0), 12, .inl hf)) := by rw [e_41]; exact mp_keep h_hd h_o (by decide)
    have h_o : S39 o = some (0, .inr (0, [.int (nI nl), v1, .ref lo, .ref fa0, v4, v5, .int (nI (cntF (bndL n (fun i => (h i).1) (fun i => (h i).2.1) (fun i => (h i).2.2)) nl)), .int (nI 1), .int r35, .ref Av.vo])) := by rw [e_41]; exact mp_us _ _ _
    have hY := yS_kept hY (S1 := S39) (fun b t9 e9 hb9 h1 h2 => by rw [e_41]; exact mp_un (mp_ne hb9 h_o_o (by omega)))
    have hV := vG_kept hV (S1 := S39) (fun b t9 e9 hb9 h1 h2 => by rw [e_41]; exact mp_un (mp_ne hb9 h_o_o (by omega)))
    have hfr : ∀ b t e9, S b = some (t, e9) → (t ≠ 0) → (t ≠ 3) → ((t < 10 ∨ 40 ≤ t)) → ((t < 400 ∨ 700 ≤ t)) → S39 b = some (t, e9) := fun b t e9 h9 k0 k1 k2 k3 => by rw [e_41]; exact mp_keep (hfr b t e9 h9 k0 k1 k2 k3) h_o_o (by omega)
    refine lv_aload_n hx hb d_B_run_53 rfl (lv_at hl 0 rfl) ?_
    refine mp_get (C := R_B) (T := F_B) (N := 10) (v := .int r35) hx hb hg i_B hown hK.va hI h_o rfl 8 (by decide) (hg _ q_90) (fun _ h9 => h9) rfl d_B_run_54 ?_
    refine mp_iret hx hb hr hlocks hI (Nat.le_of_ble_eq_true rfl) (Nat.le_of_ble_eq_true rfl) ?_ d_B_run_57
    exact ⟨Av, T1, ff1, hro, hfrS, h_o, h_fa0, hV, hfr⟩
set_option maxHeartbeats 4000000 in
set_option maxRecDepth 100000 in
/-- the class: run, when it has answered -/
theorem c_B_runA (l : Launch) (D : mp_G) (g : Nat → ClassId) (S : mp_M) (sz : Nat) (o : Nat) (v0 v1 v2 v3 v4 v5 v6 v9 : Value) (av0 : Int32) (h_o : S o = some (0, .inr (0, [v0, v1, v2, v3, v4, v5, v6, .int 1, .int av0, v9])))  : Met l y_B_run w_B_run ({ frames := 0, cells := 0, slots := 0, locals := 0 }) (va_Pc [.ref o] (mp_B0 D classes (tys g) S sz)) (va_Qi (fun (r : Int32) (S1 : mp_M) => r = av0 ∧ S1 = S) (mp_B1 D classes S sz) (mp_A S sz)) 0 0 (mp_A S sz) := by
  refine Met.ofW (cc := b_B_run) (maxL := 1) (ret := (some .int)) (by decide) rfl ?_
  intro p e s m args below meth c s₁ B hml hv
  obtain ⟨rfl, hsz, hH, hK⟩ := hv
  have hx := B.exec
  have hb := B.bytes
  have hr := B.returns
  have hts := atoms_spec (ws := w_B_run) B.pre
  have hg : ∀ w ∈ gw, w.before _ s = true := fun w h => hts w (List.mem_cons_of_mem _ h)
  have hown : s.vm.findClass R_B = some m.cls := findClass_of_methodNamed B.named
  have hlocks := B.notSynchronized
  subst hsz
  have hI := mp_I.start hH
  have hl := lv_entry ([.ref o]) (n := 1) (Nat.le_of_ble_eq_true rfl)
  rw [lg_entry_eq]
  generalize (lg_sl ([.ref o]) ++ List.replicate (1 - (lg_sl ([.ref o])).length) Slot.unset).toArray = ls at hl ⊢
  have hl : lv_has ls 1 [(0, .ref o)] := hl
  refine lv_aload_n hx hb d_B_run_0 rfl (lv_at hl 0 rfl) ?_
  refine mp_get (C := R_B) (T := F_B) (N := 10) (v := .int 1) hx hb hg i_B hown hK.va hI h_o rfl 7 (by decide) (hg _ q_89) (fun _ h9 => h9) rfl d_B_run_1 ?_
  refine lv_if_ne (tgt := 53) hx hb d_B_run_4 (by decide) (fun _ => ?_) (fun h9 => absurd h9 (by decide))
  refine lv_aload_n hx hb d_B_run_53 rfl (lv_at hl 0 rfl) ?_
  refine mp_get (C := R_B) (T := F_B) (N := 10) (v := .int av0) hx hb hg i_B hown hK.va hI h_o rfl 8 (by decide) (hg _ q_90) (fun _ h9 => h9) rfl d_B_run_54 ?_
  refine mp_iret hx hb hr hlocks hI (Nat.le_of_ble_eq_true rfl) (Nat.le_of_ble_eq_true rfl) ?_ d_B_run_57
  exact ⟨rfl, rfl⟩
