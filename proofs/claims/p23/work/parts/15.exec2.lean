section EXD
variable {K : KT} {P : PT} {I : IT} {mc k : Nat} {s : MS}
theorem cmpl_gt {x y : Int} : 0 < cmpl x y ↔ y < x := by
  unfold cmpl
  by_cases h1 : x < y
  · rw [if_pos h1]; omega
  · rw [if_neg h1]
    by_cases h2 : x = y
    · rw [if_pos h2]; omega
    · rw [if_neg h2]; omega
theorem cmpl_ge {x y : Int} : 0 ≤ cmpl x y ↔ y ≤ x := by
  unfold cmpl
  by_cases h1 : x < y
  · rw [if_pos h1]; omega
  · rw [if_neg h1]
    by_cases h2 : x = y
    · rw [if_pos h2]; omega
    · rw [if_neg h2]; omega
theorem mul_small {x y : Int} (hx : -999999 ≤ x ∧ x ≤ 999999) (hy : -999999 ≤ y ∧ y ≤ 999999) : -999998000001 ≤ x * y ∧ x * y ≤ 999998000001 := by
  have h1 : (x * y).natAbs = x.natAbs * y.natAbs := Int.natAbs_mul x y
  have h2 : x.natAbs * y.natAbs ≤ 999999 * 999999 := Nat.mul_le_mul (by omega) (by omega)
  omega
theorem mk3_small {w x y : Int} (hx : -999999 ≤ x ∧ x ≤ 999999) (hy : -999999 ≤ y ∧ y ≤ 999999) : -999998000001 ≤ mk3 w x y ∧ mk3 w x y ≤ 999998000001 := by
  unfold mk3
  have := mul_small hx hy
  split
  · omega
  · split <;> omega
theorem e_swap (hD : MD P mc) (h : MRep P I mc s k) (h8 : s.st.n ≤ 8) : ∃ I', f_X1_swap K P I mc = some ((s.swap).1, I') ∧ StR P I' mc k s s.swap ∧ FrM P mc I I' := by
  unfold f_X1_swap MS.swap
  rw [show I (P mc 0) 1 = (s.st.n : Int) from h.1.1]
  by_cases c : 2 ≤ s.st.n
  · have hP := hD.2.1.2.1
    obtain ⟨nx, rd, ⟨n, f⟩, ou⟩ := s
    obtain ⟨m, rfl⟩ : ∃ m, n = m + 2 := ⟨n - 2, by have : 2 ≤ n := c; omega⟩
    have h8 : m + 2 ≤ 8 := h8
    rw [if_pos (by omega), if_pos c]
    obtain ⟨I1, e1, e2, e3⟩ := r_pop (K := K) h.1 (by show 1 ≤ m + 2; omega) h8 hP
    obtain ⟨I2, f1, f2, f3⟩ := r_pop (K := K) e2 (by show 1 ≤ m + 1; omega) (by show m + 1 ≤ 8; omega) hP
    obtain ⟨I3, g1, g2, g3⟩ := r_push (K := K) (v := f (m + 1)) f2 (by show m < 8; omega) hP
    obtain ⟨I4, k1, k2, k3⟩ := r_push (K := K) (v := f m) g2 (by show m + 1 < 8; omega) hP
    rw [e1, bi_s, f1, bi_s, show ((m + 2, f) : Rw).2 (((m + 2, f) : Rw).1 - 1) = f (m + 1) from rfl, g1, bp_s]
    show ∃ I', bp (f_X4_push K P I3 (P mc 0) (f m)) _ = _ ∧ _
    rw [k1, bp_s]
    obtain ⟨q1, q2⟩ := h.st hD k2 (fun b u1 u2 => (k3 b u1 u2).trans ((g3 b u1 u2).trans ((f3 b u1).trans (e3 b u1))))
    exact ⟨I4, rfl, StR.good rfl q1, q2⟩
  · rw [if_neg (by omega), if_neg c]
    exact ⟨I, rfl, StR.bad (show (4 : Int) ≠ 0 by decide) h.2.1 h.2.2.1, fun b _ => rfl⟩
theorem e_made {w : Int} {t : Int} (hD : MD P mc) {n : Nat} {f : Nat → Int} {nx rd : Nat} {ou : Rw} (h : MRep P I mc (nx, rd, (n, f), ou) k) (hn : n < 8) (ht : t = mk3 w (f n) (f (n + 1))) (hs : -999998000001 ≤ t ∧ t ≤ 999998000001) (I0 : IT) (h0 : FrM P mc I0 I) (s0 : MS) (hs0 : s0 = (nx, rd, (n + 2, f), ou)) : ∃ I', f_X1_make_60 K P I mc (wl t) = some ((s0.made t).1, I') ∧ StR P I' mc k s0 (s0.made t) ∧ FrM P mc I0 I' := by
  subst hs0
  unfold f_X1_make_60 MS.made
  rw [wl_id (by omega) (by omega)]
  by_cases c : -999999 ≤ t ∧ t ≤ 999999
  · rw [if_neg (by rw [cmpl_gt]; omega), if_pos (by rw [cmpl_ge]; omega), if_pos c, wr_id (by omega) (by omega)]
    obtain ⟨I1, e1, e2, e3⟩ := r_push (K := K) (v := t) h.1 hn hD.2.1.2.1
    rw [e1, bp_s]
    obtain ⟨q1, q2⟩ := h.st hD e2 e3
    exact ⟨I1, rfl, StR.good rfl q1, h0.tr q2⟩
  · rw [if_neg c]
    refine ⟨I, ?_, StR.bad (show (4 : Int) ≠ 0 by decide) h.2.1 h.2.2.1, h0⟩
    by_cases c1 : 999999 < t
    · rw [if_pos (cmpl_gt.mpr c1)]
    · rw [if_neg (by rw [cmpl_gt]; exact c1), if_neg (by rw [cmpl_ge]; omega)]
theorem e_make {w : Int} (hw : w = 2 ∨ w = 3 ∨ w = 4) (hD : MD P mc) (h : MRep P I mc s k) (h8 : s.st.n ≤ 8) (hb : ∀ j, j < s.st.n → -999999 ≤ s.st.f j ∧ s.st.f j ≤ 999999) : ∃ I', f_X1_make K P I mc w = some ((s.make w).1, I') ∧ StR P I' mc k s (s.make w) ∧ FrM P mc I I' := by
  unfold f_X1_make MS.make
  rw [show I (P mc 0) 1 = (s.st.n : Int) from h.1.1]
  by_cases c : 2 ≤ s.st.n
  · have hP := hD.2.1.2.1
    obtain ⟨nx, rd, ⟨n, f⟩, ou⟩ := s
    obtain ⟨m, rfl⟩ : ∃ m, n = m + 2 := ⟨n - 2, by have : 2 ≤ n := c; omega⟩
    have h8 : m + 2 ≤ 8 := h8
    rw [if_pos (by omega), if_pos c]
    obtain ⟨I1, e1, e2, e3⟩ := r_pop (K := K) h.1 (by show 1 ≤ m + 2; omega) h8 hP
    obtain ⟨I2, f1, f2, f3⟩ := r_pop (K := K) e2 (by show 1 ≤ m + 1; omega) (by show m + 1 ≤ 8; omega) hP
    obtain ⟨q1, q2⟩ := h.st hD f2 (fun b u1 u2 => (f3 b u1).trans (e3 b u1))
    have hb1 := hb m (by show m < m + 2; omega)
    have hb2 := hb (m + 1) (by show m + 1 < m + 2; omega)
    rw [e1, bi_s, f1, bi_s]
    show ∃ I', (if w = 2 then f_X1_make_60 K P I2 mc (wl (f m + f (m + 1))) else if w = 3 then f_X1_make_60 K P I2 mc (wl (f m - f (m + 1))) else f_X1_make_60 K P I2 mc (wl (f m * f (m + 1)))) = some ((MS.made (nx, rd, (m + 2, f), ou) (mk3 w (f m) (f (m + 1)))).1, I') ∧ _ ∧ _
    have hm := mk3_small (w := w) hb1 hb2
    have key := e_made (K := K) (w := w) (t := mk3 w (f m) (f (m + 1))) hD q1 (by show m < 8; omega) rfl hm I q2 _ rfl
    rw [show (if w = 2 then f_X1_make_60 K P I2 mc (wl (f m + f (m + 1))) else if w = 3 then f_X1_make_60 K P I2 mc (wl (f m - f (m + 1))) else f_X1_make_60 K P I2 mc (wl (f m * f (m + 1)))) = f_X1_make_60 K P I2 mc (wl (mk3 w (f m) (f (m + 1)))) by
      unfold mk3
      split
      · rfl
      · split <;> rfl]
    exact key
  · rw [if_neg (by omega), if_neg c]
    exact ⟨I, rfl, StR.bad (show (4 : Int) ≠ 0 by decide) h.2.1 h.2.2.1, fun b _ => rfl⟩
theorem e_print (hD : MD P mc) (h : MRep P I mc s k) (h8 : s.st.n ≤ 8) : ∃ I', f_X1_print K P I mc = some ((s.print).1, I') ∧ StR P I' mc k s s.print ∧ FrM P mc I I' := by
  unfold f_X1_print MS.print
  rw [show I (P mc 0) 1 = (s.st.n : Int) from h.1.1]
  by_cases c : 1 ≤ s.st.n
  · rw [if_pos (by omega), if_pos c, r_full h.2.1, bp_s]
    by_cases c2 : s.ou.n < 8
    · rw [if_pos c2, if_pos rfl, if_pos c2]
      obtain ⟨I1, e1, e2, e3⟩ := r_pop (K := K) h.1 c h8 hD.2.1.2.1
      obtain ⟨q1, q2⟩ := h.st hD e2 (fun b g1 _ => e3 b g1)
      obtain ⟨I2, f1, f2, f3⟩ := r_push (K := K) (v := s.st.f (s.st.n - 1)) q1.2.1 c2 hD.2.2.1.2
      obtain ⟨u1, u2⟩ := q1.ou hD f2 f3
      rw [e1, bi_s]
      show ∃ I', bp (f_X4_push K P I1 (P mc 1) (s.st.f (s.st.n - 1))) _ = _ ∧ _
      rw [f1, bp_s]
      exact ⟨I2, rfl, StR.good rfl u1, q2.tr u2⟩
    · rw [if_neg c2, if_neg (by decide), if_neg c2]
      exact ⟨I, rfl, StR.bad (show (3 : Int) ≠ 0 by decide) h.2.1 h.2.2.1, fun b _ => rfl⟩
  · rw [if_neg (by omega), if_neg c]
    exact ⟨I, rfl, StR.bad (show (4 : Int) ≠ 0 by decide) h.2.1 h.2.2.1, fun b _ => rfl⟩
end EXD
