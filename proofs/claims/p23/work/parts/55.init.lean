/-! THE EMPTY HALL -/
abbrev rw0 : Rw := (0, fun _ => 0)
def s0 : Hl := mkHl pg0 rw0 0 (fun _ => mkPb 0 0 0 pg0 0 tr0 (fun _ => 0)) 0 (fun _ => mkEn 0 0 0 pg0 0 0 0 0) 0 (-1) (fun _ => 0) (fun _ => 0) (fun _ => 0)
theorem s0_ok : s0.ok := ⟨⟨Nat.zero_le _, fun j hj => absurd hj (Nat.not_lt_zero _)⟩, ⟨Nat.zero_le _, fun j hj => absurd hj (Nat.not_lt_zero _)⟩, Nat.zero_le _, fun i hi => absurd hi (Nat.not_lt_zero _), Nat.zero_le _, fun i hi => absurd hi (Nat.not_lt_zero _), ⟨by decide, by decide⟩, ⟨by decide, by decide⟩, fun _ _ => Or.inl rfl⟩
section IN1
variable {Q : Nat × Nat × Nat → Prop} {L L1 L2 : List Nat} {tg tg1 : Tg} {K K1 : KT} {P P1 : PT} {I I1 : IT} {a x m t i j c l n q : Nat} {u : Nat × Nat × Nat} {s : Hl}
theorem mk_obj0 {co : Nat} {f : Nat → PO} (hc : co % 4 = 2 → co < 102) (hT : TL tg L) (hK : KL K L) (H : ∀ q L1 tg1 K1 P1 I1, q ∉ L → q ∈ L1 → Gw (fun _ => False) L tg K P I L1 tg1 K1 P1 I1 → K1 q = co → tg1 q = u → (∀ j, I1 q j = 0) → f q L1 K1 P1 I1) : nwP L K P I co f := fun q hq _ =>
  H q (L ++ [q]) (va_up tg q u) _ _ _ hq (List.mem_append_right _ List.mem_cons_self) (Gw.nw hT hK hq (Or.inl hc)) (va_up_self _ _ _) (va_up_self _ _ _) (fun j => by simp [clr])
/-- a part of the object x is put into it -/
abbrev Qx (u : Nat × Nat × Nat) : Prop := u = (0, 0, 0)
theorem Gw.px {k v : Nat} (h : Gw (fun _ => False) L tg K P I L1 tg1 K1 P1 I1) (hT : TL tg L) (hK : KL K L) (tx : tg x = (0, 0, 0)) : Gw Qx L tg K P I L1 tg1 K1 (up P1 x k v) I1 := by
  have hx : x ∈ L := hT x (by rw [tx]; decide)
  exact (h.wk (Q := Qx)).sP (Or.inr (by rw [(h.1 x hx).2.1, tx]))
/-- the machine is made -/
theorem mk_mach {f : Nat → PO} (hT : TL tg L) (hK : KL K L) (H : ∀ q L1 tg1 K1 P1 I1, q ∉ L → q ∈ L1 → Gw (fun _ => False) L tg K P I L1 tg1 K1 P1 I1 → (tg1 q = (3, 0, 0) ∧ tg1 (P1 q 0) = (3, 0, 1) ∧ tg1 (P1 (P1 q 0) 0) = (3, 0, 2) ∧ tg1 (P1 q 1) = (3, 0, 3) ∧ tg1 (P1 (P1 q 1) 0) = (3, 0, 4)) → f q L1 K1 P1 I1) : nwP L K P I 22 fun q L1 K1 P1 I1 => w_X1_init L1 K1 P1 I1 q (f q) := by
  refine mk_obj (u := (3, 0, 0)) (co := 22) (by decide) hT hK (fun q L1 tg1 K1 P1 I1 a1 a2 g1 a4 a5 => ?_)
  unfold w_X1_init
  refine mk_row (t := 3) (i := 0) (c := 1) g1.2.1 g1.2.2 (fun b1 L2 tg2 K2 P2 I2 b2 b3 g2 b4 b5 b6 => ?_)
  have tq2 : tg2 q = (3, 0, 0) := ((g2.1 q a2).2.1).trans a5
  have gg2 := (g1.tr g2).sP (a := q) (k := 0) (v := b1) (Or.inl a1)
  have d1 : b1 ≠ q := tg_ne b5.1.1 tq2 (by simp)
  have m2 : q ∈ L2 := (g2.1 q a2).1
  refine mk_row (t := 3) (i := 0) (c := 3) gg2.2.1 gg2.2.2 (fun c1 L3 tg3 K3 P3 I3 c2 c3 g3 c4 c5 c6 => ?_)
  have tq3 : tg3 q = (3, 0, 0) := ((g3.1 q m2).2.1).trans tq2
  have gg3 := (((gg2.tr g3).sP (a := q) (k := 1) (v := c1) (Or.inl a1)).sI (a := q) (k := 2) (v := 0) (Or.inl a1)).sI (a := q) (k := 3) (v := 0) (Or.inl a1)
  have gg4 := (gg3.sI (a := q) (k := 4) (v := 0) (Or.inl a1)).sK (a := q) (co := 2) a1 (g3.1 q m2).1 (by decide)
  have d2 : c1 ≠ q := tg_ne c5.1.1 tq3 (by simp)
  have pq : P3 q = up P2 q 0 b1 q := ((g3.1 q m2).2.2.2 id).1
  have pb : P3 b1 = P2 b1 := by rw [((g3.1 b1 b3).2.2.2 id).1, up_bg d1]
  have q0 : up P3 q 1 c1 q 0 = b1 := by rw [up_k _ _ _ _ (by decide), pq, up_s]
  have q1 : up P3 q 1 c1 q 1 = c1 := up_s _ _ _ _
  refine H _ _ _ _ _ _ a1 (g3.1 q m2).1 gg4 ⟨tq3, ?_, ?_, ?_, ?_⟩
  · rw [q0]; exact ((g3.1 b1 b3).2.1).trans b5.1.1
  · rw [q0, up_bg d1, pb]
    have : P2 b1 0 ∈ L2 := g2.2.1 _ (by rw [b5.1.2]; decide)
    exact ((g3.1 _ this).2.1).trans b5.1.2
  · rw [q1]; exact c5.1.1
  · rw [q1, up_bg d2]; exact c5.1.2
/-- the standings are made -/
theorem mk_stand {f : Nat → PO} (hT : TL tg L) (hK : KL K L) (H : ∀ q L1 tg1 K1 P1 I1, q ∉ L → q ∈ L1 → Gw (fun _ => False) L tg K P I L1 tg1 K1 P1 I1 → (tg1 q = (7, 0, 0) ∧ ∀ k, k < 5 → tg1 (P1 q k) = (7, 0, k + 1)) → f q L1 K1 P1 I1) : nwP L K P I 26 fun q L1 K1 P1 I1 => w_X5_init L1 K1 P1 I1 q (f q) := by
  refine mk_obj (u := (7, 0, 0)) (co := 26) (by decide) hT hK (fun q L1 tg1 K1 P1 I1 a1 a2 g1 a4 a5 => ?_)
  unfold w_X5_init bndP
  refine mk_obj (u := (7, 0, 1)) (co := 132) (by decide) g1.2.1 g1.2.2 (fun b1 L2 tg2 K2 P2 I2 b2 b3 g2 b4 b5 => ?_)
  have h2 := (g1.tr g2).sP (a := q) (k := 0) (v := b1) (Or.inl a1)
  have m2 := g2.1 q a2
  refine mk_obj (u := (7, 0, 2)) (co := 132) (by decide) h2.2.1 h2.2.2 (fun c1 L3 tg3 K3 P3 I3 c2 c3 g3 c4 c5 => ?_)
  have h3 := (h2.tr g3).sP (a := q) (k := 1) (v := c1) (Or.inl a1)
  have m3 := g3.1 q m2.1
  refine mk_obj (u := (7, 0, 3)) (co := 132) (by decide) h3.2.1 h3.2.2 (fun d1 L4 tg4 K4 P4 I4 d2 d3 g4 d4 d5 => ?_)
  have h4 := (h3.tr g4).sP (a := q) (k := 2) (v := d1) (Or.inl a1)
  have m4 := g4.1 q m3.1
  refine mk_obj (u := (7, 0, 4)) (co := 292) (by decide) h4.2.1 h4.2.2 (fun e1 L5 tg5 K5 P5 I5 e2 e3 g5 e4 e5 => ?_)
  have h5 := (h4.tr g5).sP (a := q) (k := 3) (v := e1) (Or.inl a1)
  have m5 := g5.1 q m4.1
  refine mk_obj (u := (7, 0, 5)) (co := 293) (by decide) h5.2.1 h5.2.2 (fun f1 L6 tg6 K6 P6 I6 f2 f3 g6 f4 f5 => ?_)
  have h6 := ((h5.tr g6).sP (a := q) (k := 4) (v := f1) (Or.inl a1))
  have m6 := g6.1 q m5.1
  have h7 := h6.sK (a := q) (co := 6) a1 m6.1 (by decide)
  have tq : tg6 q = (7, 0, 0) := m6.2.1.trans (m5.2.1.trans (m4.2.1.trans (m3.2.1.trans (m2.2.1.trans a5))))
  refine H _ _ _ _ _ _ a1 m6.1 h7 ⟨tq, fun k hk => ?_⟩
  have p6 := (m6.2.2.2 id).1
  have p5 := (m5.2.2.2 id).1
  have p4 := (m4.2.2.2 id).1
  have p3 := (m3.2.2.2 id).1
  have e0 : k = 0 ∨ k = 1 ∨ k = 2 ∨ k = 3 ∨ k = 4 := by omega
  rcases e0 with rfl | rfl | rfl | rfl | rfl
  · rw [up_k _ _ _ _ (by decide), p6, up_k _ _ _ _ (by decide), p5, up_k _ _ _ _ (by decide), p4, up_k _ _ _ _ (by decide), p3, up_s]
    have r3 := g3.1 b1 b3
    have r4 := g4.1 b1 r3.1
    have r5 := g5.1 b1 r4.1
    have r6 := g6.1 b1 r5.1
    exact r6.2.1.trans (r5.2.1.trans (r4.2.1.trans (r3.2.1.trans b5)))
  · rw [up_k _ _ _ _ (by decide), p6, up_k _ _ _ _ (by decide), p5, up_k _ _ _ _ (by decide), p4, up_s]
    have r4 := g4.1 c1 c3
    have r5 := g5.1 c1 r4.1
    have r6 := g6.1 c1 r5.1
    exact r6.2.1.trans (r5.2.1.trans (r4.2.1.trans c5))
  · rw [up_k _ _ _ _ (by decide), p6, up_k _ _ _ _ (by decide), p5, up_s]
    have r5 := g5.1 d1 d3
    have r6 := g6.1 d1 r5.1
    exact r6.2.1.trans (r5.2.1.trans d5)
  · rw [up_k _ _ _ _ (by decide), p6, up_s]
    have r6 := g6.1 e1 e3
    exact r6.2.1.trans e5
  · rw [up_s]; exact f5
/-- the class's constructor -/
theorem h_init {post : PO} (g : Gw Q L tg K P I L1 tg1 K1 P1 I1) (hx : x ∉ L) (hx1 : x ∈ L1) (tx : tg1 x = (0, 0, 0))
    (H : ∀ L2 tg2 K2 P2 I2, Gw Q L tg K P I L2 tg2 K2 P2 I2 → x ∈ L2 → HR tg2 K2 P2 I2 x s0 → post L2 K2 P2 I2) : w_X7_init L1 K1 P1 I1 x post := by
  unfold w_X7_init bndP
  refine mk_prog (t := 1) (i := 0) (c := 0) g.2.1 g.2.2 (fun a0 La ta Ka Pa Ia _ _ ga _ fa _ _ => ?_)
  have Ga := (g.tr (ga.wk (Q := Q))).sP (a := x) (k := 0) (v := a0) (Or.inl hx)
  have na := ga.1 x hx1
  have xa : ta x = (0, 0, 0) := na.2.1.trans tx
  refine mk_row (t := 2) (i := 0) (c := 0) Ga.2.1 Ga.2.2 (fun b0 Lb tb Kb Pb Ib _ _ gb _ fb _ => ?_)
  have Gb := (Ga.tr (gb.wk (Q := Q))).sP (a := x) (k := 1) (v := b0) (Or.inl hx)
  have nb := gb.1 x na.1
  have xb : tb x = (0, 0, 0) := nb.2.1.trans xa
  refine mk_mach Gb.2.1 Gb.2.2 (fun c0 Lc tc Kc Pc Ic _ _ gc fc => ?_)
  have Gc := (Gb.tr (gc.wk (Q := Q))).sP (a := x) (k := 2) (v := c0) (Or.inl hx)
  have nc := gc.1 x nb.1
  have xc : tc x = (0, 0, 0) := nc.2.1.trans xb
  refine mk_list (u := (9, 0, 3)) 10 (by decide) Gc.2.1 Gc.2.2 (fun d0 Ld td Kd Pd Id _ _ gd _ fd fd1 fd2 => ?_)
  have Gd := (Gc.tr (gd.wk (Q := Q))).sP (a := x) (k := 3) (v := d0) (Or.inl hx)
  have nd := gd.1 x nc.1
  have xd : td x = (0, 0, 0) := nd.2.1.trans xc
  refine mk_list (u := (9, 0, 4)) 11 (by decide) Gd.2.1 Gd.2.2 (fun e0 Le te Ke Pe Ie _ _ ge _ fe fe1 fe2 => ?_)
  have Ge := (Gd.tr (ge.wk (Q := Q))).sP (a := x) (k := 4) (v := e0) (Or.inl hx)
  have ne := ge.1 x nd.1
  have xe : te x = (0, 0, 0) := ne.2.1.trans xd
  refine mk_stand Ge.2.1 Ge.2.2 (fun f0 Lf tf Kf Pf If _ _ gf ff => ?_)
  have Gf := (Ge.tr (gf.wk (Q := Q))).sP (a := x) (k := 5) (v := f0) (Or.inl hx)
  have nf := gf.1 x ne.1
  have xf : tf x = (0, 0, 0) := nf.2.1.trans xe
  refine mk_obj0 (u := (8, 0, 6)) (co := 132) (by decide) Gf.2.1 Gf.2.2 (fun g0 Lg tgg Kg Pg Ig _ mg gg _ fg fg0 => ?_)
  have Gg := (Gf.tr (gg.wk (Q := Q))).sP (a := x) (k := 6) (v := g0) (Or.inl hx)
  have ng := gg.1 x nf.1
  have xg : tgg x = (0, 0, 0) := ng.2.1.trans xf
  refine mk_obj0 (u := (8, 0, 7)) (co := 132) (by decide) Gg.2.1 Gg.2.2 (fun h0 Lh th Kh Ph Ih _ mh gh _ fh fh0 => ?_)
  have Gh := (Gg.tr (gh.wk (Q := Q))).sP (a := x) (k := 7) (v := h0) (Or.inl hx)
  have nh := gh.1 x ng.1
  have xh : th x = (0, 0, 0) := nh.2.1.trans xg
  refine mk_obj0 (u := (8, 0, 8)) (co := 293) (by decide) Gh.2.1 Gh.2.2 (fun i0 Li ti Ki Pi Ii _ mi gi _ fi fi0 => ?_)
  have Gi := (Gh.tr (gi.wk (Q := Q))).sP (a := x) (k := 8) (v := i0) (Or.inl hx)
  have ni := gi.1 x nh.1
  have xi : ti x = (0, 0, 0) := ni.2.1.trans xh
  refine mk_obj0 (u := (8, 0, 9)) (co := 168) (by decide) Gi.2.1 Gi.2.2 (fun j0 Lj tj Kj Pj Ij _ mj gj _ fj fj0 => ?_)
  have Gj := ((((Gi.tr (gj.wk (Q := Q))).sP (a := x) (k := 9) (v := j0) (Or.inl hx)).sI (a := x) (k := 10) (v := 0) (Or.inl hx)).sI (a := x) (k := 11) (v := -1) (Or.inl hx))
  have nj := gj.1 x ni.1
  have xj : tj x = (0, 0, 0) := nj.2.1.trans xi
  have Gk := Gj.sK (a := x) (co := 8) hx nj.1 (by decide)
  -- from each state to the last
  have Dj : Gw Qx Li ti Ki (up Pi x 8 i0) Ii Lj tj Kj (up Pj x 9 j0) (up (up Ij x 10 0) x 11 (-1)) := (((gj.px Gi.2.1 Gi.2.2 xi).sI (a := x) (k := 10) (v := 0) (Or.inr xj)).sI (a := x) (k := 11) (v := -1) (Or.inr xj))
  have Di := (gi.px (k := 8) (v := i0) Gh.2.1 Gh.2.2 xh).tr Dj
  have Dh := (gh.px (k := 7) (v := h0) Gg.2.1 Gg.2.2 xg).tr Di
  have Dg := (gg.px (k := 6) (v := g0) Gf.2.1 Gf.2.2 xf).tr Dh
  have Df := (gf.px (k := 5) (v := f0) Ge.2.1 Ge.2.2 xe).tr Dg
  have De := (ge.px (k := 4) (v := e0) Gd.2.1 Gd.2.2 xd).tr Df
  have Dd := (gd.px (k := 3) (v := d0) Gc.2.1 Gc.2.2 xc).tr De
  have Dc := (gc.px (k := 2) (v := c0) Gb.2.1 Gb.2.2 xb).tr Dd
  have Db := (gb.px (k := 1) (v := b0) Ga.2.1 Ga.2.2 xa).tr Dc
  -- each fact, just behind its making, with its pointer put
  have pxj : Pj x = up Pi x 8 i0 x := (nj.2.2.2 id).1
  have pxi : Pi x = up Ph x 7 h0 x := (ni.2.2.2 id).1
  have pxh : Ph x = up Pg x 6 g0 x := (nh.2.2.2 id).1
  have pxg : Pg x = up Pf x 5 f0 x := (ng.2.2.2 id).1
  have pxf : Pf x = up Pe x 4 e0 x := (nf.2.2.2 id).1
  have pxe : Pe x = up Pd x 3 d0 x := (ne.2.2.2 id).1
  have pxd : Pd x = up Pc x 2 c0 x := (nd.2.2.2 id).1
  have pxc : Pc x = up Pb x 1 b0 x := (nc.2.2.2 id).1
  have pxb : Pb x = up Pa x 0 a0 x := (nb.2.2.2 id).1
  have p0 : up Pj x 9 j0 x 0 = a0 := by rw [up_k _ _ _ _ (by decide), pxj, up_k _ _ _ _ (by decide), pxi, up_k _ _ _ _ (by decide), pxh, up_k _ _ _ _ (by decide), pxg, up_k _ _ _ _ (by decide), pxf, up_k _ _ _ _ (by decide), pxe, up_k _ _ _ _ (by decide), pxd, up_k _ _ _ _ (by decide), pxc, up_k _ _ _ _ (by decide), pxb, up_s]
  have p1 : up Pj x 9 j0 x 1 = b0 := by rw [up_k _ _ _ _ (by decide), pxj, up_k _ _ _ _ (by decide), pxi, up_k _ _ _ _ (by decide), pxh, up_k _ _ _ _ (by decide), pxg, up_k _ _ _ _ (by decide), pxf, up_k _ _ _ _ (by decide), pxe, up_k _ _ _ _ (by decide), pxd, up_k _ _ _ _ (by decide), pxc, up_s]
  have p2 : up Pj x 9 j0 x 2 = c0 := by rw [up_k _ _ _ _ (by decide), pxj, up_k _ _ _ _ (by decide), pxi, up_k _ _ _ _ (by decide), pxh, up_k _ _ _ _ (by decide), pxg, up_k _ _ _ _ (by decide), pxf, up_k _ _ _ _ (by decide), pxe, up_k _ _ _ _ (by decide), pxd, up_s]
  have p3 : up Pj x 9 j0 x 3 = d0 := by rw [up_k _ _ _ _ (by decide), pxj, up_k _ _ _ _ (by decide), pxi, up_k _ _ _ _ (by decide), pxh, up_k _ _ _ _ (by decide), pxg, up_k _ _ _ _ (by decide), pxf, up_k _ _ _ _ (by decide), pxe, up_s]
  have p4 : up Pj x 9 j0 x 4 = e0 := by rw [up_k _ _ _ _ (by decide), pxj, up_k _ _ _ _ (by decide), pxi, up_k _ _ _ _ (by decide), pxh, up_k _ _ _ _ (by decide), pxg, up_k _ _ _ _ (by decide), pxf, up_s]
  have p5 : up Pj x 9 j0 x 5 = f0 := by rw [up_k _ _ _ _ (by decide), pxj, up_k _ _ _ _ (by decide), pxi, up_k _ _ _ _ (by decide), pxh, up_k _ _ _ _ (by decide), pxg, up_s]
  have p6 : up Pj x 9 j0 x 6 = g0 := by rw [up_k _ _ _ _ (by decide), pxj, up_k _ _ _ _ (by decide), pxi, up_k _ _ _ _ (by decide), pxh, up_s]
  have p7 : up Pj x 9 j0 x 7 = h0 := by rw [up_k _ _ _ _ (by decide), pxj, up_k _ _ _ _ (by decide), pxi, up_s]
  have p8 : up Pj x 9 j0 x 8 = i0 := by rw [up_k _ _ _ _ (by decide), pxj, up_s]
  have p9 : up Pj x 9 j0 x 9 = j0 := by rw [up_s]
  have Ea := ((Gw.rf (Q := Qx) (P := Pa) (I := Ia) ga.2.1 ga.2.2).sP (a := x) (k := 0) (v := a0) (Or.inr xa)).tr Db
  have Eb := ((Gw.rf (Q := Qx) (P := Pb) (I := Ib) gb.2.1 gb.2.2).sP (a := x) (k := 1) (v := b0) (Or.inr xb)).tr Dc
  have Ec := ((Gw.rf (Q := Qx) (P := Pc) (I := Ic) gc.2.1 gc.2.2).sP (a := x) (k := 2) (v := c0) (Or.inr xc)).tr Dd
  have Ed := ((Gw.rf (Q := Qx) (P := Pd) (I := Id) gd.2.1 gd.2.2).sP (a := x) (k := 3) (v := d0) (Or.inr xd)).tr De
  have Ee := ((Gw.rf (Q := Qx) (P := Pe) (I := Ie) ge.2.1 ge.2.2).sP (a := x) (k := 4) (v := e0) (Or.inr xe)).tr Df
  have Ef := ((Gw.rf (Q := Qx) (P := Pf) (I := If) gf.2.1 gf.2.2).sP (a := x) (k := 5) (v := f0) (Or.inr xf)).tr Dg
  have Eg := ((Gw.rf (Q := Qx) (P := Pg) (I := Ig) gg.2.1 gg.2.2).sP (a := x) (k := 6) (v := g0) (Or.inr xg)).tr Dh
  have Eh := ((Gw.rf (Q := Qx) (P := Ph) (I := Ih) gh.2.1 gh.2.2).sP (a := x) (k := 7) (v := h0) (Or.inr xh)).tr Di
  have Ei := ((Gw.rf (Q := Qx) (P := Pi) (I := Ii) gi.2.1 gi.2.2).sP (a := x) (k := 8) (v := i0) (Or.inr xi)).tr Dj
  have Ej : Gw Qx Lj tj Kj Pj Ij Lj tj Kj (up Pj x 9 j0) (up (up Ij x 10 0) x 11 (-1)) := (((Gw.rf gj.2.1 gj.2.2).sP (a := x) (k := 9) (v := j0) (Or.inr xj)).sI (a := x) (k := 10) (v := 0) (Or.inr xj)).sI (a := x) (k := 11) (v := -1) (Or.inr xj)
  have qa := fa.gw Ea ga.2.1 (by decide) (fun k => by simp)
  have qb := fb.gw Eb gb.2.1 (by decide) (fun k => by simp)
  obtain ⟨c1, c2, c3, c4, c5⟩ := fc
  have wc := (Ec.at gc.2.1 c1 (show 3 < 20 by decide) (by simp)).1
  have wc0 := (Ec.at gc.2.1 c2 (show 3 < 20 by decide) (by simp)).1
  have wc1 := (Ec.at gc.2.1 c4 (show 3 < 20 by decide) (by simp)).1
  obtain ⟨wd, vd⟩ := Ed.at gd.2.1 fd (show 9 < 20 by decide) (by simp)
  obtain ⟨we, ve⟩ := Ee.at ge.2.1 fe (show 9 < 20 by decide) (by simp)
  obtain ⟨f1, f2⟩ := ff
  have wf := (Ef.at gf.2.1 f1 (show 7 < 20 by decide) (by simp)).1
  have vg := (Eg.at gg.2.1 fg (show 8 < 20 by decide) (by simp)).2
  have vh := (Eh.at gh.2.1 fh (show 8 < 20 by decide) (by simp)).2
  have vi := (Ei.at gi.2.1 fi (show 8 < 20 by decide) (by simp)).2
  have tf : ∀ {L : List Nat} {tg : Tg} {K : KT} {P : PT} {I : IT} {a : Nat} {u : Nat × Nat × Nat}, Gw Qx L tg K P I Lj tj Kj (up Pj x 9 j0) (up (up Ij x 10 0) x 11 (-1)) → TL tg L → tg a = u → u.1 < 20 → tj a = u := fun h hT ha hu => h.ta hT ha hu
  refine H _ _ _ _ _ Gk nj.1 ⟨⟨xj, va_up_self _ _ _, ?_, ?_⟩, ⟨⟨?_, ?_, ?_, ?_, ?_⟩, ⟨?_, fun k hk => ?_⟩, ?_⟩, ⟨?_, ?_⟩, ⟨⟨?_, ?_⟩, ⟨?_, fun i hi => absurd hi (Nat.not_lt_zero _), Or.inl ⟨?_, rfl⟩⟩, fun i hi => absurd hi (Nat.not_lt_zero _)⟩, ⟨⟨?_, ?_⟩, ⟨?_, fun i hi => absurd hi (Nat.not_lt_zero _), Or.inl ⟨?_, rfl⟩⟩, fun i hi => absurd hi (Nat.not_lt_zero _)⟩, ⟨⟨?_, ?_, ?_⟩, fun k hk => ?_, fun k hk => ?_, fun k hk => ?_⟩⟩
  · rw [up_k _ _ _ _ (by decide), up_s]; rfl
  · rw [up_s]; rfl
  · rw [p2]; exact tf Ec gc.2.1 c1 (show 3 < 20 by decide)
  · rw [p2, wc]; exact tf Ec gc.2.1 c2 (show 3 < 20 by decide)
  · rw [p2, wc, wc0]; exact tf Ec gc.2.1 c3 (show 3 < 20 by decide)
  · rw [p2, wc]; exact tf Ec gc.2.1 c4 (show 3 < 20 by decide)
  · rw [p2, wc, wc1]; exact tf Ec gc.2.1 c5 (show 3 < 20 by decide)
  · rw [p5]; exact tf Ef gf.2.1 f1 (show 7 < 20 by decide)
  · rw [p5, wf]; exact tf Ef gf.2.1 (f2 k hk) (show 7 < 20 by decide)
  · rw [p9]; exact fj
  · rw [p0]; exact qa
  · rw [p1]; exact qb
  · rw [p3]; exact tf Ed gd.2.1 fd (show 9 < 20 by decide)
  · rw [p3, wd, fd1]; exact fun z => absurd rfl z
  · rw [p3, vd, fd2]; rfl
  · rw [p3, wd, fd1]
  · rw [p4]; exact tf Ee ge.2.1 fe (show 9 < 20 by decide)
  · rw [p4, we, fe1]; exact fun z => absurd rfl z
  · rw [p4, ve, fe2]; rfl
  · rw [p4, we, fe1]
  · rw [p6]; exact tf Eg gg.2.1 fg (show 8 < 20 by decide)
  · rw [p7]; exact tf Eh gh.2.1 fh (show 8 < 20 by decide)
  · rw [p8]; exact tf Ei gi.2.1 fi (show 8 < 20 by decide)
  · rw [p6, vg, fg0]; rfl
  · rw [p7, vh, fh0]; rfl
  · rw [p8, vi, fi0]; rfl
/-- arrays of the model that are there already -/
def XS (L0 : List Nat) (S : List Nat) (v23 : Int) (tg : Tg) (P : PT) (I : IT) (m : Nat) : Prop := tg m = (11, 0, 0) ∧ (∀ j, I m j = if j = 23 then v23 else 0) ∧ ∀ k, k ∈ S → P m k ∉ L0 ∧ tg (P m k) = (12, 0, k) ∧ ∀ j, I (P m k) j = 0
theorem xi_step {S : List Nat} {v23 : Int} {co k : Nat} {body : PO} (hc : co % 4 = 2 → co < 102) (g : Gw Q L tg K P I L1 tg1 K1 P1 I1) (hm : m ∉ L) (h : XS L S v23 tg1 P1 I1 m) (hk : k ∉ S)
    (H : ∀ L2 tg2 K2 P2 I2, Gw Q L tg K P I L2 tg2 K2 P2 I2 → XS L (k :: S) v23 tg2 P2 I2 m → body L2 K2 P2 I2) : nwP L1 K1 P1 I1 co fun q L2 K2 P2 I2 => bndP (up P2 m k q) fun P3 => body L2 K2 P3 I2 := by
  obtain ⟨h1, h2, h3⟩ := h
  have hm1 : m ∈ L1 := g.2.1 m (by rw [h1]; decide)
  unfold bndP
  refine mk_obj0 (u := (12, 0, k)) hc g.2.1 g.2.2 (fun q L2 tg2 K2 P2 I2 a1 a2 g2 a4 a5 a6 => ?_)
  have n := g2.1 m hm1
  have G2 := (g.tr (g2.wk (Q := Q))).sP (a := m) (k := k) (v := q) (Or.inl hm)
  refine H _ _ _ _ _ G2 ⟨n.2.1.trans h1, fun j => by rw [(n.2.2.2 id).2]; exact h2 j, fun k' hk' => ?_⟩
  rcases List.mem_cons.mp hk' with z | z
  · rw [z, up_s]; exact ⟨fun y => a1 (g.1 _ y).1, a5, a6⟩
  · have hne : k' ≠ k := fun y => hk (y ▸ z)
    obtain ⟨b0, b1, b2⟩ := h3 k' z
    have hin : P1 m k' ∈ L1 := g.2.1 _ (by rw [b1]; exact (show 12 < 20 by decide))
    have n2 := g2.1 _ hin
    rw [up_k _ _ _ _ hne, (n.2.2.2 id).1, n2.2.1, (n2.2.2.2 id).2]
    exact ⟨b0, b1, b2⟩
theorem fill25_l : ∀ (d fuel k : Nat) (I : IT), d < fuel → k + d = 24 → ∃ I', fill25 fuel I a (k : Int) = some I' ∧ (∀ j, k ≤ j → j < 24 → I' a j = 25) ∧ (∀ j, j < k → I' a j = I a j) ∧ ∀ b, b ≠ a → I' b = I b := by
  intro d
  induction d with
  | zero =>
    intro fuel k I hf hk
    obtain ⟨n, rfl⟩ : ∃ n, fuel = n + 1 := ⟨fuel - 1, by omega⟩
    unfold fill25
    rw [if_pos (by omega)]
    exact ⟨I, rfl, fun j h1 h2 => by omega, fun _ _ => rfl, fun _ _ => rfl⟩
  | succ d ih =>
    intro fuel k I hf hk
    obtain ⟨n, rfl⟩ : ∃ n, fuel = n + 1 := ⟨fuel - 1, by omega⟩
    unfold fill25
    rw [if_neg (by omega), ck_t (by omega), bnd_e, Int.toNat_natCast, show wr ((k : Int) + 1) = ((k + 1 : Nat) : Int) by rw [wr_id (by omega) (by omega)]; rfl]
    obtain ⟨I', u1, u2, u3, u4⟩ := ih n (k + 1) (up I a k 25) (by omega) (by omega)
    refine ⟨I', u1, fun j h1 h2 => ?_, fun j hj => ?_, fun b hb => (u4 b hb).trans (up_b hb)⟩
    · by_cases z : j = k
      · rw [z, u3 k (by omega), up_s]
      · exact u2 j (by omega) h2
    · rw [u3 j (by omega), up_k _ _ _ _ (by omega)]
theorem tt9 : ∀ k, tt 9 k ≠ 0 → k ∈ [37, 36, 35, 34, 33, 32, 29, 28, 24, 22, 21, 20, 19, 18, 17, 16, 15, 14, 12, 11, 10, 9, 8, 7, 5, 4, 3, 2, 1] := by
  intro k hk
  by_cases c : k < 38
  · revert hk
    have : ∀ k, k < 38 → tt 9 k ≠ 0 → k ∈ [37, 36, 35, 34, 33, 32, 29, 28, 24, 22, 21, 20, 19, 18, 17, 16, 15, 14, 12, 11, 10, 9, 8, 7, 5, 4, 3, 2, 1] := by decide
    exact this k c
  · exfalso
    apply hk
    unfold tt
    have hn : ∀ n, n < 38 → k ≠ n := fun n h1 h2 => c (h2 ▸ h1)
    simp [hn]
end IN1
section IN2
variable {Q : Nat × Nat × Nat → Prop} {L L1 L2 : List Nat} {tg tg1 : Tg} {K K1 : KT} {P P1 : PT} {I I1 : IT} {m : Nat}
theorem XS.i23 {L0 S : List Nat} {v w : Int} (h : XS L0 S v tg P I m) : XS L0 S w tg P (up I m 23 w) m := ⟨h.1, fun j => by
  rw [up_apply]
  by_cases z : j = 23
  · rw [if_pos ⟨rfl, z⟩, if_pos z]
  · rw [if_neg (fun y => z y.2), h.2.1 j, if_neg z, if_neg z], fun k hk => ⟨(h.2.2 k hk).1, (h.2.2 k hk).2.1, fun j => by
  rw [up_b (tg_ne (h.2.2 k hk).2.1 h.1 (by simp))]; exact (h.2.2 k hk).2.2 j⟩⟩
theorem bndP_i {β : Type} {v : β} {f : β → Prop} (h : f v) : bndP v f := h
end IN2
